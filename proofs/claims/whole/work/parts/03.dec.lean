theorem dX7_foretell_67 : decode cX7_foretell 67 = .ok (.aload 4, 2) := by decide +kernel
theorem dX7_foretell_69 : decode cX7_foretell 69 = .ok (.getfield 127, 3) := by decide +kernel
theorem dX7_foretell_72 : decode cX7_foretell 72 = .ok (.aload 5, 2) := by decide +kernel
theorem dX7_foretell_74 : decode cX7_foretell 74 = .ok (.getfield 127, 3) := by decide +kernel
theorem dX7_foretell_77 : decode cX7_foretell 77 = .ok (.invokestatic 136, 3) := by decide +kernel
theorem dX7_foretell_80 : decode cX7_foretell 80 = .ok (.ireturn, 1) := by decide +kernel
theorem dX7_head_0 : decode cX7_head 0 = .ok (.iload_n 1, 1) := by decide +kernel
theorem dX7_head_1 : decode cX7_head 1 = .ok (.iconst 2, 1) := by decide +kernel
theorem dX7_head_2 : decode cX7_head 2 = .ok (.invokestatic 103, 3) := by decide +kernel
theorem dX7_head_5 : decode cX7_head 5 = .ok (.ifCond .ne 5, 3) := by decide +kernel
theorem dX7_head_8 : decode cX7_head 8 = .ok (.iconst (-1), 1) := by decide +kernel
theorem dX7_head_9 : decode cX7_head 9 = .ok (.ireturn, 1) := by decide +kernel
theorem dX7_head_10 : decode cX7_head 10 = .ok (.iload_n 1, 1) := by decide +kernel
theorem dX7_head_11 : decode cX7_head 11 = .ok (.ifCond .ne 8, 3) := by decide +kernel
theorem dX7_head_14 : decode cX7_head 14 = .ok (.aload_n 0, 1) := by decide +kernel
theorem dX7_head_15 : decode cX7_head 15 = .ok (.getfield 197, 3) := by decide +kernel
theorem dX7_head_18 : decode cX7_head 18 = .ok (.ireturn, 1) := by decide +kernel
theorem dX7_head_19 : decode cX7_head 19 = .ok (.aload_n 0, 1) := by decide +kernel
theorem dX7_head_20 : decode cX7_head 20 = .ok (.getfield 197, 3) := by decide +kernel
theorem dX7_head_23 : decode cX7_head 23 = .ok (.aload_n 0, 1) := by decide +kernel
theorem dX7_head_24 : decode cX7_head 24 = .ok (.getfield 10, 3) := by decide +kernel
theorem dX7_head_27 : decode cX7_head 27 = .ok (.getfield 107, 3) := by decide +kernel
theorem dX7_head_30 : decode cX7_head 30 = .ok (.bipush 10, 2) := by decide +kernel
theorem dX7_head_32 : decode cX7_head 32 = .ok (.iaload, 1) := by decide +kernel
theorem dX7_head_33 : decode cX7_head 33 = .ok (.if_icmp .lt 7, 3) := by decide +kernel
theorem dX7_head_36 : decode cX7_head 36 = .ok (.iconst 1, 1) := by decide +kernel
theorem dX7_head_37 : decode cX7_head 37 = .ok (.goto 4, 3) := by decide +kernel
theorem dX7_head_40 : decode cX7_head 40 = .ok (.iconst 0, 1) := by decide +kernel
theorem dX7_head_41 : decode cX7_head 41 = .ok (.ireturn, 1) := by decide +kernel
theorem dX7_forget_0 : decode cX7_forget 0 = .ok (.aload_n 0, 1) := by decide +kernel
theorem dX7_forget_1 : decode cX7_forget 1 = .ok (.getfield 197, 3) := by decide +kernel
theorem dX7_forget_4 : decode cX7_forget 4 = .ok (.istore_n 1, 1) := by decide +kernel
theorem dX7_forget_5 : decode cX7_forget 5 = .ok (.aload_n 0, 1) := by decide +kernel
theorem dX7_forget_6 : decode cX7_forget 6 = .ok (.iconst 0, 1) := by decide +kernel
theorem dX7_forget_7 : decode cX7_forget 7 = .ok (.putfield 197, 3) := by decide +kernel
theorem dX7_forget_10 : decode cX7_forget 10 = .ok (.iload_n 1, 1) := by decide +kernel
theorem dX7_forget_11 : decode cX7_forget 11 = .ok (.ireturn, 1) := by decide +kernel
theorem dX7_lessons_0 : decode cX7_lessons 0 = .ok (.iload_n 1, 1) := by decide +kernel
theorem dX7_lessons_1 : decode cX7_lessons 1 = .ok (.iconst 2, 1) := by decide +kernel
theorem dX7_lessons_2 : decode cX7_lessons 2 = .ok (.invokestatic 103, 3) := by decide +kernel
theorem dX7_lessons_5 : decode cX7_lessons 5 = .ok (.ifCond .ne 5, 3) := by decide +kernel
theorem dX7_lessons_8 : decode cX7_lessons 8 = .ok (.iconst (-1), 1) := by decide +kernel
theorem dX7_lessons_9 : decode cX7_lessons 9 = .ok (.ireturn, 1) := by decide +kernel
theorem dX7_lessons_10 : decode cX7_lessons 10 = .ok (.iconst 0, 1) := by decide +kernel
theorem dX7_lessons_11 : decode cX7_lessons 11 = .ok (.istore_n 2, 1) := by decide +kernel
theorem dX7_lessons_12 : decode cX7_lessons 12 = .ok (.iload_n 2, 1) := by decide +kernel
theorem dX7_lessons_13 : decode cX7_lessons 13 = .ok (.bipush 60, 2) := by decide +kernel
theorem dX7_lessons_15 : decode cX7_lessons 15 = .ok (.if_icmp .gt 51, 3) := by decide +kernel
theorem dX7_lessons_18 : decode cX7_lessons 18 = .ok (.iconst 0, 1) := by decide +kernel
theorem dX7_lessons_19 : decode cX7_lessons 19 = .ok (.istore_n 3, 1) := by decide +kernel
theorem dX7_lessons_20 : decode cX7_lessons 20 = .ok (.iload_n 3, 1) := by decide +kernel
theorem dX7_lessons_21 : decode cX7_lessons 21 = .ok (.iload_n 2, 1) := by decide +kernel
theorem dX7_lessons_22 : decode cX7_lessons 22 = .ok (.if_icmp .gt 38, 3) := by decide +kernel
theorem dX7_lessons_25 : decode cX7_lessons 25 = .ok (.aload_n 0, 1) := by decide +kernel
theorem dX7_lessons_26 : decode cX7_lessons 26 = .ok (.iload_n 2, 1) := by decide +kernel
theorem dX7_lessons_27 : decode cX7_lessons 27 = .ok (.iload_n 3, 1) := by decide +kernel
theorem dX7_lessons_28 : decode cX7_lessons 28 = .ok (.invokevirtual 200, 3) := by decide +kernel
theorem dX7_lessons_31 : decode cX7_lessons 31 = .ok (.aload_n 0, 1) := by decide +kernel
theorem dX7_lessons_32 : decode cX7_lessons 32 = .ok (.getfield 10, 3) := by decide +kernel
theorem dX7_lessons_35 : decode cX7_lessons 35 = .ok (.getfield 107, 3) := by decide +kernel
theorem dX7_lessons_38 : decode cX7_lessons 38 = .ok (.bipush 10, 2) := by decide +kernel
theorem dX7_lessons_40 : decode cX7_lessons 40 = .ok (.iaload, 1) := by decide +kernel
theorem dX7_lessons_41 : decode cX7_lessons 41 = .ok (.if_icmp .lt 13, 3) := by decide +kernel
theorem dX7_lessons_44 : decode cX7_lessons 44 = .ok (.iload_n 1, 1) := by decide +kernel
theorem dX7_lessons_45 : decode cX7_lessons 45 = .ok (.ifCond .ne 7, 3) := by decide +kernel
theorem dX7_lessons_48 : decode cX7_lessons 48 = .ok (.iload_n 2, 1) := by decide +kernel
theorem dX7_lessons_49 : decode cX7_lessons 49 = .ok (.goto 4, 3) := by decide +kernel
theorem dX7_lessons_52 : decode cX7_lessons 52 = .ok (.iload_n 3, 1) := by decide +kernel
theorem dX7_lessons_53 : decode cX7_lessons 53 = .ok (.ireturn, 1) := by decide +kernel
theorem dX7_lessons_54 : decode cX7_lessons 54 = .ok (.iinc 3 1, 3) := by decide +kernel
theorem dX7_lessons_57 : decode cX7_lessons 57 = .ok (.goto (-37), 3) := by decide +kernel
theorem dX7_lessons_60 : decode cX7_lessons 60 = .ok (.iinc 2 1, 3) := by decide +kernel
theorem dX7_lessons_63 : decode cX7_lessons 63 = .ok (.goto (-51), 3) := by decide +kernel
theorem dX7_lessons_66 : decode cX7_lessons 66 = .ok (.bipush (-4), 2) := by decide +kernel
theorem dX7_lessons_68 : decode cX7_lessons 68 = .ok (.ireturn, 1) := by decide +kernel
theorem dX7_asks_0 : decode cX7_asks 0 = .ok (.iload_n 1, 1) := by decide +kernel
theorem dX7_asks_1 : decode cX7_asks 1 = .ok (.bipush 16, 2) := by decide +kernel
theorem dX7_asks_3 : decode cX7_asks 3 = .ok (.invokestatic 103, 3) := by decide +kernel
theorem dX7_asks_6 : decode cX7_asks 6 = .ok (.ifCond .eq 27, 3) := by decide +kernel
theorem dX7_asks_9 : decode cX7_asks 9 = .ok (.iload_n 2, 1) := by decide +kernel
theorem dX7_asks_10 : decode cX7_asks 10 = .ok (.iconst 2, 1) := by decide +kernel
theorem dX7_asks_11 : decode cX7_asks 11 = .ok (.if_icmp .lt 22, 3) := by decide +kernel
theorem dX7_asks_14 : decode cX7_asks 14 = .ok (.iload_n 2, 1) := by decide +kernel
theorem dX7_asks_15 : decode cX7_asks 15 = .ok (.bipush 9, 2) := by decide +kernel
theorem dX7_asks_17 : decode cX7_asks 17 = .ok (.if_icmp .gt 16, 3) := by decide +kernel
theorem dX7_asks_20 : decode cX7_asks 20 = .ok (.aload_n 0, 1) := by decide +kernel
theorem dX7_asks_21 : decode cX7_asks 21 = .ok (.getfield 10, 3) := by decide +kernel
theorem dX7_asks_24 : decode cX7_asks 24 = .ok (.getfield 110, 3) := by decide +kernel
theorem dX7_asks_27 : decode cX7_asks 27 = .ok (.iload_n 1, 1) := by decide +kernel
theorem dX7_asks_28 : decode cX7_asks 28 = .ok (.iaload, 1) := by decide +kernel
theorem dX7_asks_29 : decode cX7_asks 29 = .ok (.iload_n 2, 1) := by decide +kernel
theorem dX7_asks_30 : decode cX7_asks 30 = .ok (.if_icmp .le 5, 3) := by decide +kernel
theorem dX7_asks_33 : decode cX7_asks 33 = .ok (.iconst (-1), 1) := by decide +kernel
theorem dX7_asks_34 : decode cX7_asks 34 = .ok (.ireturn, 1) := by decide +kernel
theorem dX7_asks_35 : decode cX7_asks 35 = .ok (.iconst 1, 1) := by decide +kernel
theorem dX7_asks_36 : decode cX7_asks 36 = .ok (.istore_n 3, 1) := by decide +kernel
theorem dX7_asks_37 : decode cX7_asks 37 = .ok (.iload_n 2, 1) := by decide +kernel
theorem dX7_asks_38 : decode cX7_asks 38 = .ok (.istore 4, 2) := by decide +kernel
theorem dX7_asks_40 : decode cX7_asks 40 = .ok (.iconst 0, 1) := by decide +kernel
theorem dX7_asks_41 : decode cX7_asks 41 = .ok (.istore 5, 2) := by decide +kernel
theorem dX7_asks_43 : decode cX7_asks 43 = .ok (.iconst 0, 1) := by decide +kernel
theorem dX7_asks_44 : decode cX7_asks 44 = .ok (.istore 6, 2) := by decide +kernel
theorem dX7_asks_46 : decode cX7_asks 46 = .ok (.iload 6, 2) := by decide +kernel
theorem dX7_asks_48 : decode cX7_asks 48 = .ok (.iload_n 2, 1) := by decide +kernel
theorem dX7_asks_49 : decode cX7_asks 49 = .ok (.if_icmp .ge 52, 3) := by decide +kernel
theorem dX7_asks_52 : decode cX7_asks 52 = .ok (.iload_n 3, 1) := by decide +kernel
theorem dX7_asks_53 : decode cX7_asks 53 = .ok (.iload 4, 2) := by decide +kernel
theorem dX7_asks_55 : decode cX7_asks 55 = .ok (.if_icmp .ge 46, 3) := by decide +kernel
theorem dX7_asks_58 : decode cX7_asks 58 = .ok (.iload_n 3, 1) := by decide +kernel
theorem dX7_asks_59 : decode cX7_asks 59 = .ok (.iload 4, 2) := by decide +kernel
theorem dX7_asks_61 : decode cX7_asks 61 = .ok (.iadd, 1) := by decide +kernel
theorem dX7_asks_62 : decode cX7_asks 62 = .ok (.iconst 2, 1) := by decide +kernel
theorem dX7_asks_63 : decode cX7_asks 63 = .ok (.idiv, 1) := by decide +kernel
theorem dX7_asks_64 : decode cX7_asks 64 = .ok (.istore 7, 2) := by decide +kernel
theorem dX7_asks_66 : decode cX7_asks 66 = .ok (.iload 7, 2) := by decide +kernel
theorem dX7_asks_68 : decode cX7_asks 68 = .ok (.aload_n 0, 1) := by decide +kernel
theorem dX7_asks_69 : decode cX7_asks 69 = .ok (.getfield 10, 3) := by decide +kernel
theorem dX7_asks_72 : decode cX7_asks 72 = .ok (.getfield 110, 3) := by decide +kernel
theorem dX7_asks_75 : decode cX7_asks 75 = .ok (.iload_n 1, 1) := by decide +kernel
theorem dX7_asks_76 : decode cX7_asks 76 = .ok (.iaload, 1) := by decide +kernel
theorem dX7_asks_77 : decode cX7_asks 77 = .ok (.if_icmp .lt 10, 3) := by decide +kernel
theorem dX7_asks_80 : decode cX7_asks 80 = .ok (.iload 7, 2) := by decide +kernel
theorem dX7_asks_82 : decode cX7_asks 82 = .ok (.istore 4, 2) := by decide +kernel
theorem dX7_asks_84 : decode cX7_asks 84 = .ok (.goto 8, 3) := by decide +kernel
theorem dX7_asks_87 : decode cX7_asks 87 = .ok (.iload 7, 2) := by decide +kernel
theorem dX7_asks_89 : decode cX7_asks 89 = .ok (.iconst 1, 1) := by decide +kernel
theorem dX7_asks_90 : decode cX7_asks 90 = .ok (.iadd, 1) := by decide +kernel
theorem dX7_asks_91 : decode cX7_asks 91 = .ok (.istore_n 3, 1) := by decide +kernel
theorem dX7_asks_92 : decode cX7_asks 92 = .ok (.iinc 5 1, 3) := by decide +kernel
theorem dX7_asks_95 : decode cX7_asks 95 = .ok (.iinc 6 1, 3) := by decide +kernel
theorem dX7_asks_98 : decode cX7_asks 98 = .ok (.goto (-52), 3) := by decide +kernel
theorem dX7_asks_101 : decode cX7_asks 101 = .ok (.iload 5, 2) := by decide +kernel
theorem dX7_asks_103 : decode cX7_asks 103 = .ok (.ireturn, 1) := by decide +kernel
theorem dX7_heard_0 : decode cX7_heard 0 = .ok (.iload_n 1, 1) := by decide +kernel
theorem dX7_heard_1 : decode cX7_heard 1 = .ok (.bipush 6, 2) := by decide +kernel
theorem dX7_heard_3 : decode cX7_heard 3 = .ok (.invokestatic 103, 3) := by decide +kernel
theorem dX7_heard_6 : decode cX7_heard 6 = .ok (.ifCond .eq 19, 3) := by decide +kernel
theorem dX7_heard_9 : decode cX7_heard 9 = .ok (.iload_n 2, 1) := by decide +kernel
theorem dX7_heard_10 : decode cX7_heard 10 = .ok (.iconst 4, 1) := by decide +kernel
theorem dX7_heard_11 : decode cX7_heard 11 = .ok (.invokestatic 103, 3) := by decide +kernel
theorem dX7_heard_14 : decode cX7_heard 14 = .ok (.ifCond .eq 11, 3) := by decide +kernel
theorem dX7_heard_17 : decode cX7_heard 17 = .ok (.iload_n 3, 1) := by decide +kernel
theorem dX7_heard_18 : decode cX7_heard 18 = .ok (.iconst 4, 1) := by decide +kernel
theorem dX7_heard_19 : decode cX7_heard 19 = .ok (.invokestatic 103, 3) := by decide +kernel
theorem dX7_heard_22 : decode cX7_heard 22 = .ok (.ifCond .ne 5, 3) := by decide +kernel
theorem dX7_heard_25 : decode cX7_heard 25 = .ok (.iconst (-1), 1) := by decide +kernel
theorem dX7_heard_26 : decode cX7_heard 26 = .ok (.ireturn, 1) := by decide +kernel
theorem dX7_heard_27 : decode cX7_heard 27 = .ok (.aload_n 0, 1) := by decide +kernel
theorem dX7_heard_28 : decode cX7_heard 28 = .ok (.iload_n 1, 1) := by decide +kernel
theorem dX7_heard_29 : decode cX7_heard 29 = .ok (.aload_n 0, 1) := by decide +kernel
theorem dX7_heard_30 : decode cX7_heard 30 = .ok (.getfield 74, 3) := by decide +kernel
theorem dX7_heard_33 : decode cX7_heard 33 = .ok (.invokevirtual 117, 3) := by decide +kernel
theorem dX7_heard_36 : decode cX7_heard 36 = .ok (.iconst 4, 1) := by decide +kernel
theorem dX7_heard_37 : decode cX7_heard 37 = .ok (.iload_n 3, 1) := by decide +kernel
theorem dX7_heard_38 : decode cX7_heard 38 = .ok (.imul, 1) := by decide +kernel
theorem dX7_heard_39 : decode cX7_heard 39 = .ok (.iload_n 2, 1) := by decide +kernel
theorem dX7_heard_40 : decode cX7_heard 40 = .ok (.iadd, 1) := by decide +kernel
theorem dX7_heard_41 : decode cX7_heard 41 = .ok (.aload_n 0, 1) := by decide +kernel
theorem dX7_heard_42 : decode cX7_heard 42 = .ok (.getfield 10, 3) := by decide +kernel
theorem dX7_heard_45 : decode cX7_heard 45 = .ok (.getfield 107, 3) := by decide +kernel
theorem dX7_heard_48 : decode cX7_heard 48 = .ok (.bipush 6, 2) := by decide +kernel
theorem dX7_heard_50 : decode cX7_heard 50 = .ok (.iaload, 1) := by decide +kernel
theorem dX7_heard_51 : decode cX7_heard 51 = .ok (.invokevirtual 203, 3) := by decide +kernel
theorem dX7_heard_54 : decode cX7_heard 54 = .ok (.ireturn, 1) := by decide +kernel
theorem dX7_sounds_0 : decode cX7_sounds 0 = .ok (.iload_n 1, 1) := by decide +kernel
theorem dX7_sounds_1 : decode cX7_sounds 1 = .ok (.bipush 6, 2) := by decide +kernel
theorem dX7_sounds_3 : decode cX7_sounds 3 = .ok (.invokestatic 103, 3) := by decide +kernel
theorem dX7_sounds_6 : decode cX7_sounds 6 = .ok (.ifCond .eq 12, 3) := by decide +kernel
theorem dX7_sounds_9 : decode cX7_sounds 9 = .ok (.iload_n 2, 1) := by decide +kernel
theorem dX7_sounds_10 : decode cX7_sounds 10 = .ok (.bipush 6, 2) := by decide +kernel
theorem dX7_sounds_12 : decode cX7_sounds 12 = .ok (.invokestatic 103, 3) := by decide +kernel
theorem dX7_sounds_15 : decode cX7_sounds 15 = .ok (.ifCond .ne 5, 3) := by decide +kernel
theorem dX7_sounds_18 : decode cX7_sounds 18 = .ok (.iconst (-1), 1) := by decide +kernel
theorem dX7_sounds_19 : decode cX7_sounds 19 = .ok (.ireturn, 1) := by decide +kernel
theorem dX7_sounds_20 : decode cX7_sounds 20 = .ok (.aload_n 0, 1) := by decide +kernel
theorem dX7_sounds_21 : decode cX7_sounds 21 = .ok (.iload_n 1, 1) := by decide +kernel
theorem dX7_sounds_22 : decode cX7_sounds 22 = .ok (.aload_n 0, 1) := by decide +kernel
theorem dX7_sounds_23 : decode cX7_sounds 23 = .ok (.getfield 74, 3) := by decide +kernel
theorem dX7_sounds_26 : decode cX7_sounds 26 = .ok (.invokevirtual 117, 3) := by decide +kernel
theorem dX7_sounds_29 : decode cX7_sounds 29 = .ok (.aload_n 0, 1) := by decide +kernel
theorem dX7_sounds_30 : decode cX7_sounds 30 = .ok (.iload_n 2, 1) := by decide +kernel
theorem dX7_sounds_31 : decode cX7_sounds 31 = .ok (.aload_n 0, 1) := by decide +kernel
theorem dX7_sounds_32 : decode cX7_sounds 32 = .ok (.getfield 74, 3) := by decide +kernel
theorem dX7_sounds_35 : decode cX7_sounds 35 = .ok (.invokevirtual 117, 3) := by decide +kernel
theorem dX7_sounds_38 : decode cX7_sounds 38 = .ok (.aload_n 0, 1) := by decide +kernel
theorem dX7_sounds_39 : decode cX7_sounds 39 = .ok (.getfield 10, 3) := by decide +kernel
theorem dX7_sounds_42 : decode cX7_sounds 42 = .ok (.getfield 107, 3) := by decide +kernel
theorem dX7_sounds_45 : decode cX7_sounds 45 = .ok (.bipush 6, 2) := by decide +kernel
theorem dX7_sounds_47 : decode cX7_sounds 47 = .ok (.iaload, 1) := by decide +kernel
theorem dX7_sounds_48 : decode cX7_sounds 48 = .ok (.invokevirtual 206, 3) := by decide +kernel
theorem dX7_sounds_51 : decode cX7_sounds 51 = .ok (.ifCond .eq 7, 3) := by decide +kernel
theorem dX7_sounds_54 : decode cX7_sounds 54 = .ok (.iconst 1, 1) := by decide +kernel
theorem dX7_sounds_55 : decode cX7_sounds 55 = .ok (.goto 4, 3) := by decide +kernel
theorem dX7_sounds_58 : decode cX7_sounds 58 = .ok (.iconst 0, 1) := by decide +kernel
theorem dX7_sounds_59 : decode cX7_sounds 59 = .ok (.ireturn, 1) := by decide +kernel
theorem dX7_beside_0 : decode cX7_beside 0 = .ok (.iload_n 1, 1) := by decide +kernel
theorem dX7_beside_1 : decode cX7_beside 1 = .ok (.iconst 3, 1) := by decide +kernel
theorem dX7_beside_2 : decode cX7_beside 2 = .ok (.invokestatic 103, 3) := by decide +kernel
theorem dX7_beside_5 : decode cX7_beside 5 = .ok (.ifCond .ne 5, 3) := by decide +kernel
theorem dX7_beside_8 : decode cX7_beside 8 = .ok (.iconst (-1), 1) := by decide +kernel
theorem dX7_beside_9 : decode cX7_beside 9 = .ok (.ireturn, 1) := by decide +kernel
theorem dX7_beside_10 : decode cX7_beside 10 = .ok (.iconst 0, 1) := by decide +kernel
theorem dX7_beside_11 : decode cX7_beside 11 = .ok (.istore_n 2, 1) := by decide +kernel
theorem dX7_beside_12 : decode cX7_beside 12 = .ok (.iload_n 2, 1) := by decide +kernel
theorem dX7_beside_13 : decode cX7_beside 13 = .ok (.bipush 6, 2) := by decide +kernel
theorem dX7_beside_15 : decode cX7_beside 15 = .ok (.if_icmp .ge 19, 3) := by decide +kernel
theorem dX7_beside_18 : decode cX7_beside 18 = .ok (.aload_n 0, 1) := by decide +kernel
theorem dX7_beside_19 : decode cX7_beside 19 = .ok (.iload_n 2, 1) := by decide +kernel
theorem dX7_beside_20 : decode cX7_beside 20 = .ok (.aload_n 0, 1) := by decide +kernel
theorem dX7_beside_21 : decode cX7_beside 21 = .ok (.getfield 74, 3) := by decide +kernel
theorem dX7_beside_24 : decode cX7_beside 24 = .ok (.invokevirtual 117, 3) := by decide +kernel
theorem dX7_beside_27 : decode cX7_beside 27 = .ok (.pop, 1) := by decide +kernel
theorem dX7_beside_28 : decode cX7_beside 28 = .ok (.iinc 2 1, 3) := by decide +kernel
theorem dX7_beside_31 : decode cX7_beside 31 = .ok (.goto (-19), 3) := by decide +kernel
theorem dX7_beside_34 : decode cX7_beside 34 = .ok (.iconst 0, 1) := by decide +kernel
theorem dX7_beside_35 : decode cX7_beside 35 = .ok (.istore_n 2, 1) := by decide +kernel
theorem dX7_beside_36 : decode cX7_beside 36 = .ok (.iconst 0, 1) := by decide +kernel
theorem dX7_beside_37 : decode cX7_beside 37 = .ok (.istore_n 3, 1) := by decide +kernel
theorem dX7_beside_38 : decode cX7_beside 38 = .ok (.iload_n 3, 1) := by decide +kernel
theorem dX7_beside_39 : decode cX7_beside 39 = .ok (.bipush 6, 2) := by decide +kernel
theorem dX7_beside_41 : decode cX7_beside 41 = .ok (.if_icmp .ge 108, 3) := by decide +kernel
theorem dX7_beside_44 : decode cX7_beside 44 = .ok (.iload_n 3, 1) := by decide +kernel
theorem dX7_beside_45 : decode cX7_beside 45 = .ok (.iconst 1, 1) := by decide +kernel
theorem dX7_beside_46 : decode cX7_beside 46 = .ok (.iadd, 1) := by decide +kernel
theorem dX7_beside_47 : decode cX7_beside 47 = .ok (.istore 4, 2) := by decide +kernel
theorem dX7_beside_49 : decode cX7_beside 49 = .ok (.iload 4, 2) := by decide +kernel
theorem dX7_beside_51 : decode cX7_beside 51 = .ok (.bipush 6, 2) := by decide +kernel
theorem dX7_beside_53 : decode cX7_beside 53 = .ok (.if_icmp .ge 90, 3) := by decide +kernel
theorem dX7_beside_56 : decode cX7_beside 56 = .ok (.iload_n 1, 1) := by decide +kernel
theorem dX7_beside_57 : decode cX7_beside 57 = .ok (.iconst 1, 1) := by decide +kernel
theorem dX7_beside_58 : decode cX7_beside 58 = .ok (.if_icmp .eq 22, 3) := by decide +kernel
theorem dX7_beside_61 : decode cX7_beside 61 = .ok (.aload_n 0, 1) := by decide +kernel
theorem dX7_beside_62 : decode cX7_beside 62 = .ok (.getfield 38, 3) := by decide +kernel
theorem dX7_beside_65 : decode cX7_beside 65 = .ok (.iload_n 3, 1) := by decide +kernel
theorem dX7_beside_66 : decode cX7_beside 66 = .ok (.aaload, 1) := by decide +kernel
theorem dX7_beside_67 : decode cX7_beside 67 = .ok (.aload_n 0, 1) := by decide +kernel
theorem dX7_beside_68 : decode cX7_beside 68 = .ok (.getfield 38, 3) := by decide +kernel
theorem dX7_beside_71 : decode cX7_beside 71 = .ok (.iload 4, 2) := by decide +kernel
theorem dX7_beside_73 : decode cX7_beside 73 = .ok (.aaload, 1) := by decide +kernel
theorem dX7_beside_74 : decode cX7_beside 74 = .ok (.invokevirtual 210, 3) := by decide +kernel
theorem dX7_beside_77 : decode cX7_beside 77 = .ok (.ifCond .eq 7, 3) := by decide +kernel
theorem dX7_beside_80 : decode cX7_beside 80 = .ok (.iconst 1, 1) := by decide +kernel
theorem dX7_beside_81 : decode cX7_beside 81 = .ok (.goto 4, 3) := by decide +kernel
theorem dX7_beside_84 : decode cX7_beside 84 = .ok (.iconst 0, 1) := by decide +kernel
theorem dX7_beside_85 : decode cX7_beside 85 = .ok (.istore 5, 2) := by decide +kernel
theorem dX7_beside_87 : decode cX7_beside 87 = .ok (.iload 5, 2) := by decide +kernel
theorem dX7_beside_89 : decode cX7_beside 89 = .ok (.ifCond .eq 35, 3) := by decide +kernel
theorem dX7_beside_92 : decode cX7_beside 92 = .ok (.iload_n 1, 1) := by decide +kernel
theorem dX7_beside_93 : decode cX7_beside 93 = .ok (.ifCond .eq 31, 3) := by decide +kernel
theorem dX7_beside_96 : decode cX7_beside 96 = .ok (.aload_n 0, 1) := by decide +kernel
theorem dX7_beside_97 : decode cX7_beside 97 = .ok (.getfield 38, 3) := by decide +kernel
theorem dX7_beside_100 : decode cX7_beside 100 = .ok (.iload_n 3, 1) := by decide +kernel
theorem dX7_beside_101 : decode cX7_beside 101 = .ok (.aaload, 1) := by decide +kernel
theorem dX7_beside_102 : decode cX7_beside 102 = .ok (.aload_n 0, 1) := by decide +kernel
theorem dX7_beside_103 : decode cX7_beside 103 = .ok (.getfield 38, 3) := by decide +kernel
theorem dX7_beside_106 : decode cX7_beside 106 = .ok (.iload 4, 2) := by decide +kernel
theorem dX7_beside_108 : decode cX7_beside 108 = .ok (.aaload, 1) := by decide +kernel
theorem dX7_beside_109 : decode cX7_beside 109 = .ok (.aload_n 0, 1) := by decide +kernel
theorem dX7_beside_110 : decode cX7_beside 110 = .ok (.getfield 10, 3) := by decide +kernel
theorem dX7_beside_113 : decode cX7_beside 113 = .ok (.getfield 107, 3) := by decide +kernel
theorem dX7_beside_116 : decode cX7_beside 116 = .ok (.bipush 6, 2) := by decide +kernel
theorem dX7_beside_118 : decode cX7_beside 118 = .ok (.iaload, 1) := by decide +kernel
theorem dX7_beside_119 : decode cX7_beside 119 = .ok (.invokevirtual 206, 3) := by decide +kernel
theorem dX7_beside_122 : decode cX7_beside 122 = .ok (.istore 5, 2) := by decide +kernel
theorem dX7_beside_124 : decode cX7_beside 124 = .ok (.iload_n 2, 1) := by decide +kernel
theorem dX7_beside_125 : decode cX7_beside 125 = .ok (.iload 5, 2) := by decide +kernel
theorem dX7_beside_127 : decode cX7_beside 127 = .ok (.ifCond .eq 7, 3) := by decide +kernel
theorem dX7_beside_130 : decode cX7_beside 130 = .ok (.iconst 1, 1) := by decide +kernel
theorem dX7_beside_131 : decode cX7_beside 131 = .ok (.goto 4, 3) := by decide +kernel
theorem dX7_beside_134 : decode cX7_beside 134 = .ok (.iconst 0, 1) := by decide +kernel
theorem dX7_beside_135 : decode cX7_beside 135 = .ok (.iadd, 1) := by decide +kernel
theorem dX7_beside_136 : decode cX7_beside 136 = .ok (.istore_n 2, 1) := by decide +kernel
theorem dX7_beside_137 : decode cX7_beside 137 = .ok (.iinc 4 1, 3) := by decide +kernel
theorem dX7_beside_140 : decode cX7_beside 140 = .ok (.goto (-91), 3) := by decide +kernel
theorem dX7_beside_143 : decode cX7_beside 143 = .ok (.iinc 3 1, 3) := by decide +kernel
theorem dX7_beside_146 : decode cX7_beside 146 = .ok (.goto (-108), 3) := by decide +kernel
theorem dX7_beside_149 : decode cX7_beside 149 = .ok (.iload_n 2, 1) := by decide +kernel
theorem dX7_beside_150 : decode cX7_beside 150 = .ok (.ireturn, 1) := by decide +kernel
theorem dX7_answer_0 : decode cX7_answer 0 = .ok (.iload_n 1, 1) := by decide +kernel
theorem dX7_answer_1 : decode cX7_answer 1 = .ok (.bipush 6, 2) := by decide +kernel
theorem dX7_answer_3 : decode cX7_answer 3 = .ok (.invokestatic 103, 3) := by decide +kernel
theorem dX7_answer_6 : decode cX7_answer 6 = .ok (.ifCond .eq 21, 3) := by decide +kernel
theorem dX7_answer_9 : decode cX7_answer 9 = .ok (.iload_n 2, 1) := by decide +kernel
theorem dX7_answer_10 : decode cX7_answer 10 = .ok (.bipush 26, 2) := by decide +kernel
theorem dX7_answer_12 : decode cX7_answer 12 = .ok (.invokestatic 103, 3) := by decide +kernel
theorem dX7_answer_15 : decode cX7_answer 15 = .ok (.ifCond .eq 12, 3) := by decide +kernel
theorem dX7_answer_18 : decode cX7_answer 18 = .ok (.iload_n 3, 1) := by decide +kernel
theorem dX7_answer_19 : decode cX7_answer 19 = .ok (.bipush 16, 2) := by decide +kernel
theorem dX7_answer_21 : decode cX7_answer 21 = .ok (.invokestatic 103, 3) := by decide +kernel
theorem dX7_answer_24 : decode cX7_answer 24 = .ok (.ifCond .ne 5, 3) := by decide +kernel
theorem dX7_answer_27 : decode cX7_answer 27 = .ok (.iconst (-1), 1) := by decide +kernel
theorem dX7_answer_28 : decode cX7_answer 28 = .ok (.ireturn, 1) := by decide +kernel
theorem dX7_answer_29 : decode cX7_answer 29 = .ok (.aload_n 0, 1) := by decide +kernel
theorem dX7_answer_30 : decode cX7_answer 30 = .ok (.getfield 64, 3) := by decide +kernel
theorem dX7_answer_33 : decode cX7_answer 33 = .ok (.iload_n 1, 1) := by decide +kernel
theorem dX7_answer_34 : decode cX7_answer 34 = .ok (.iload_n 2, 1) := by decide +kernel
theorem dX7_answer_35 : decode cX7_answer 35 = .ok (.iload_n 3, 1) := by decide +kernel
theorem dX7_answer_36 : decode cX7_answer 36 = .ok (.iload 4, 2) := by decide +kernel
theorem dX7_answer_38 : decode cX7_answer 38 = .ok (.invokevirtual 214, 3) := by decide +kernel
theorem dX7_answer_41 : decode cX7_answer 41 = .ok (.ifCond .eq 13, 3) := by decide +kernel
theorem dX7_answer_44 : decode cX7_answer 44 = .ok (.aload_n 0, 1) := by decide +kernel
theorem dX7_answer_45 : decode cX7_answer 45 = .ok (.getfield 64, 3) := by decide +kernel
theorem dX7_answer_48 : decode cX7_answer 48 = .ok (.getfield 218, 3) := by decide +kernel
theorem dX7_answer_51 : decode cX7_answer 51 = .ok (.goto 5, 3) := by decide +kernel
theorem dX7_answer_54 : decode cX7_answer 54 = .ok (.bipush (-3), 2) := by decide +kernel
theorem dX7_answer_56 : decode cX7_answer 56 = .ok (.ireturn, 1) := by decide +kernel
theorem dX7_dead_0 : decode cX7_dead 0 = .ok (.aload_n 0, 1) := by decide +kernel
theorem dX7_dead_1 : decode cX7_dead 1 = .ok (.getfield 16, 3) := by decide +kernel
theorem dX7_dead_4 : decode cX7_dead 4 = .ok (.aload_n 0, 1) := by decide +kernel
theorem dX7_dead_5 : decode cX7_dead 5 = .ok (.getfield 10, 3) := by decide +kernel
theorem dX7_dead_8 : decode cX7_dead 8 = .ok (.invokevirtual 99, 3) := by decide +kernel
theorem dX7_dead_11 : decode cX7_dead 11 = .ok (.aload_n 0, 1) := by decide +kernel
theorem dX7_dead_12 : decode cX7_dead 12 = .ok (.getfield 16, 3) := by decide +kernel
theorem dX7_dead_15 : decode cX7_dead 15 = .ok (.getfield 107, 3) := by decide +kernel
theorem dX7_dead_18 : decode cX7_dead 18 = .ok (.bipush 11, 2) := by decide +kernel
theorem dX7_dead_20 : decode cX7_dead 20 = .ok (.iconst 0, 1) := by decide +kernel
theorem dX7_dead_21 : decode cX7_dead 21 = .ok (.iastore, 1) := by decide +kernel
theorem dX7_dead_22 : decode cX7_dead 22 = .ok (.aload_n 0, 1) := by decide +kernel
theorem dX7_dead_23 : decode cX7_dead 23 = .ok (.getfield 16, 3) := by decide +kernel
theorem dX7_dead_26 : decode cX7_dead 26 = .ok (.getfield 107, 3) := by decide +kernel
theorem dX7_dead_29 : decode cX7_dead 29 = .ok (.iconst 5, 1) := by decide +kernel
theorem dX7_dead_30 : decode cX7_dead 30 = .ok (.iconst 0, 1) := by decide +kernel
theorem dX7_dead_31 : decode cX7_dead 31 = .ok (.iastore, 1) := by decide +kernel
theorem dX7_dead_32 : decode cX7_dead 32 = .ok (.iconst 0, 1) := by decide +kernel
theorem dX7_dead_33 : decode cX7_dead 33 = .ok (.istore_n 1, 1) := by decide +kernel
theorem dX7_dead_34 : decode cX7_dead 34 = .ok (.iconst 0, 1) := by decide +kernel
theorem dX7_dead_35 : decode cX7_dead 35 = .ok (.istore_n 2, 1) := by decide +kernel
theorem dX7_dead_36 : decode cX7_dead 36 = .ok (.iconst 0, 1) := by decide +kernel
theorem dX7_dead_37 : decode cX7_dead 37 = .ok (.istore_n 3, 1) := by decide +kernel
theorem dX7_dead_38 : decode cX7_dead 38 = .ok (.iload_n 3, 1) := by decide +kernel
theorem dX7_dead_39 : decode cX7_dead 39 = .ok (.aload_n 0, 1) := by decide +kernel
theorem dX7_dead_40 : decode cX7_dead 40 = .ok (.getfield 64, 3) := by decide +kernel
theorem dX7_dead_43 : decode cX7_dead 43 = .ok (.getfield 218, 3) := by decide +kernel
theorem dX7_dead_46 : decode cX7_dead 46 = .ok (.if_icmp .ge 103, 3) := by decide +kernel
theorem dX7_dead_49 : decode cX7_dead 49 = .ok (.aload_n 0, 1) := by decide +kernel
theorem dX7_dead_50 : decode cX7_dead 50 = .ok (.getfield 64, 3) := by decide +kernel
theorem dX7_dead_53 : decode cX7_dead 53 = .ok (.getfield 221, 3) := by decide +kernel
theorem dX7_dead_56 : decode cX7_dead 56 = .ok (.iload_n 3, 1) := by decide +kernel
theorem dX7_dead_57 : decode cX7_dead 57 = .ok (.iaload, 1) := by decide +kernel
theorem dX7_dead_58 : decode cX7_dead 58 = .ok (.istore 4, 2) := by decide +kernel
theorem dX7_dead_60 : decode cX7_dead 60 = .ok (.aload_n 0, 1) := by decide +kernel
theorem dX7_dead_61 : decode cX7_dead 61 = .ok (.getfield 64, 3) := by decide +kernel
theorem dX7_dead_64 : decode cX7_dead 64 = .ok (.getfield 224, 3) := by decide +kernel
theorem dX7_dead_67 : decode cX7_dead 67 = .ok (.iload_n 3, 1) := by decide +kernel
theorem dX7_dead_68 : decode cX7_dead 68 = .ok (.baload, 1) := by decide +kernel
theorem dX7_dead_69 : decode cX7_dead 69 = .ok (.ifCond .eq 13, 3) := by decide +kernel
theorem dX7_dead_72 : decode cX7_dead 72 = .ok (.iload_n 1, 1) := by decide +kernel
theorem dX7_dead_73 : decode cX7_dead 73 = .ok (.iconst 1, 1) := by decide +kernel
theorem dX7_dead_74 : decode cX7_dead 74 = .ok (.iload 4, 2) := by decide +kernel
theorem dX7_dead_76 : decode cX7_dead 76 = .ok (.ishl, 1) := by decide +kernel
theorem dX7_dead_77 : decode cX7_dead 77 = .ok (.ior, 1) := by decide +kernel
theorem dX7_dead_78 : decode cX7_dead 78 = .ok (.istore_n 1, 1) := by decide +kernel
theorem dX7_dead_79 : decode cX7_dead 79 = .ok (.goto 64, 3) := by decide +kernel
theorem dX7_dead_82 : decode cX7_dead 82 = .ok (.aload_n 0, 1) := by decide +kernel
theorem dX7_dead_83 : decode cX7_dead 83 = .ok (.getfield 43, 3) := by decide +kernel
theorem dX7_dead_86 : decode cX7_dead 86 = .ok (.aload_n 0, 1) := by decide +kernel
theorem dX7_dead_87 : decode cX7_dead 87 = .ok (.getfield 26, 3) := by decide +kernel
theorem dX7_dead_90 : decode cX7_dead 90 = .ok (.aload_n 0, 1) := by decide +kernel
theorem dX7_dead_91 : decode cX7_dead 91 = .ok (.getfield 64, 3) := by decide +kernel
theorem dX7_dead_94 : decode cX7_dead 94 = .ok (.getfield 228, 3) := by decide +kernel
theorem dX7_dead_97 : decode cX7_dead 97 = .ok (.iload_n 3, 1) := by decide +kernel
theorem dX7_dead_98 : decode cX7_dead 98 = .ok (.iaload, 1) := by decide +kernel
theorem dX7_dead_99 : decode cX7_dead 99 = .ok (.aload_n 0, 1) := by decide +kernel
theorem dX7_dead_100 : decode cX7_dead 100 = .ok (.getfield 64, 3) := by decide +kernel
theorem dX7_dead_103 : decode cX7_dead 103 = .ok (.getfield 231, 3) := by decide +kernel
theorem dX7_dead_106 : decode cX7_dead 106 = .ok (.iload_n 3, 1) := by decide +kernel
theorem dX7_dead_107 : decode cX7_dead 107 = .ok (.iaload, 1) := by decide +kernel
theorem dX7_dead_108 : decode cX7_dead 108 = .ok (.aload_n 0, 1) := by decide +kernel
theorem dX7_dead_109 : decode cX7_dead 109 = .ok (.getfield 16, 3) := by decide +kernel
theorem dX7_dead_112 : decode cX7_dead 112 = .ok (.aload_n 0, 1) := by decide +kernel
theorem dX7_dead_113 : decode cX7_dead 113 = .ok (.getfield 33, 3) := by decide +kernel
theorem dX7_dead_116 : decode cX7_dead 116 = .ok (.invokevirtual 234, 3) := by decide +kernel
theorem dX7_dead_119 : decode cX7_dead 119 = .ok (.iload_n 2, 1) := by decide +kernel
theorem dX7_dead_120 : decode cX7_dead 120 = .ok (.aload_n 0, 1) := by decide +kernel
theorem dX7_dead_121 : decode cX7_dead 121 = .ok (.getfield 43, 3) := by decide +kernel
theorem dX7_dead_124 : decode cX7_dead 124 = .ok (.getfield 127, 3) := by decide +kernel
theorem dX7_dead_127 : decode cX7_dead 127 = .ok (.iload 4, 2) := by decide +kernel
theorem dX7_dead_129 : decode cX7_dead 129 = .ok (.iaload, 1) := by decide +kernel
theorem dX7_dead_130 : decode cX7_dead 130 = .ok (.ifCond .le 10, 3) := by decide +kernel
theorem dX7_dead_133 : decode cX7_dead 133 = .ok (.iconst 1, 1) := by decide +kernel
theorem dX7_dead_134 : decode cX7_dead 134 = .ok (.iload 4, 2) := by decide +kernel
theorem dX7_dead_136 : decode cX7_dead 136 = .ok (.ishl, 1) := by decide +kernel
theorem dX7_dead_137 : decode cX7_dead 137 = .ok (.goto 4, 3) := by decide +kernel
theorem dX7_dead_140 : decode cX7_dead 140 = .ok (.iconst 0, 1) := by decide +kernel
theorem dX7_dead_141 : decode cX7_dead 141 = .ok (.ior, 1) := by decide +kernel
theorem dX7_dead_142 : decode cX7_dead 142 = .ok (.istore_n 2, 1) := by decide +kernel
theorem dX7_dead_143 : decode cX7_dead 143 = .ok (.iinc 3 1, 3) := by decide +kernel
theorem dX7_dead_146 : decode cX7_dead 146 = .ok (.goto (-108), 3) := by decide +kernel
theorem dX7_dead_149 : decode cX7_dead 149 = .ok (.iload_n 2, 1) := by decide +kernel
theorem dX7_dead_150 : decode cX7_dead 150 = .ok (.iload_n 1, 1) := by decide +kernel
theorem dX7_dead_151 : decode cX7_dead 151 = .ok (.iconst (-1), 1) := by decide +kernel
theorem dX7_dead_152 : decode cX7_dead 152 = .ok (.ixor, 1) := by decide +kernel
theorem dX7_dead_153 : decode cX7_dead 153 = .ok (.iand, 1) := by decide +kernel
theorem dX7_dead_154 : decode cX7_dead 154 = .ok (.ireturn, 1) := by decide +kernel
theorem dX7_kill_0 : decode cX7_kill 0 = .ok (.iload_n 1, 1) := by decide +kernel
theorem dX7_kill_1 : decode cX7_kill 1 = .ok (.bipush 16, 2) := by decide +kernel
theorem dX7_kill_3 : decode cX7_kill 3 = .ok (.invokestatic 103, 3) := by decide +kernel
theorem dX7_kill_6 : decode cX7_kill 6 = .ok (.ifCond .ne 5, 3) := by decide +kernel
theorem dX7_kill_9 : decode cX7_kill 9 = .ok (.iconst (-1), 1) := by decide +kernel
theorem dX7_kill_10 : decode cX7_kill 10 = .ok (.ireturn, 1) := by decide +kernel
theorem dX7_kill_11 : decode cX7_kill 11 = .ok (.aload_n 0, 1) := by decide +kernel
theorem dX7_kill_12 : decode cX7_kill 12 = .ok (.getfield 10, 3) := by decide +kernel
theorem dX7_kill_15 : decode cX7_kill 15 = .ok (.getfield 107, 3) := by decide +kernel
theorem dX7_kill_18 : decode cX7_kill 18 = .ok (.bipush 11, 2) := by decide +kernel
theorem dX7_kill_20 : decode cX7_kill 20 = .ok (.iaload, 1) := by decide +kernel
theorem dX7_kill_21 : decode cX7_kill 21 = .ok (.iload_n 1, 1) := by decide +kernel
theorem dX7_kill_22 : decode cX7_kill 22 = .ok (.invokestatic 133, 3) := by decide +kernel
theorem dX7_kill_25 : decode cX7_kill 25 = .ok (.istore_n 3, 1) := by decide +kernel
theorem dX7_kill_26 : decode cX7_kill 26 = .ok (.iload_n 2, 1) := by decide +kernel
theorem dX7_kill_27 : decode cX7_kill 27 = .ok (.ifCond .eq 22, 3) := by decide +kernel
theorem dX7_kill_30 : decode cX7_kill 30 = .ok (.aload_n 0, 1) := by decide +kernel
theorem dX7_kill_31 : decode cX7_kill 31 = .ok (.getfield 10, 3) := by decide +kernel
theorem dX7_kill_34 : decode cX7_kill 34 = .ok (.getfield 107, 3) := by decide +kernel
theorem dX7_kill_37 : decode cX7_kill 37 = .ok (.bipush 11, 2) := by decide +kernel
theorem dX7_kill_39 : decode cX7_kill 39 = .ok (.dup2, 1) := by decide +kernel
theorem dX7_kill_40 : decode cX7_kill 40 = .ok (.iaload, 1) := by decide +kernel
theorem dX7_kill_41 : decode cX7_kill 41 = .ok (.iconst 1, 1) := by decide +kernel
theorem dX7_kill_42 : decode cX7_kill 42 = .ok (.iload_n 1, 1) := by decide +kernel
theorem dX7_kill_43 : decode cX7_kill 43 = .ok (.ishl, 1) := by decide +kernel
theorem dX7_kill_44 : decode cX7_kill 44 = .ok (.ior, 1) := by decide +kernel
theorem dX7_kill_45 : decode cX7_kill 45 = .ok (.iastore, 1) := by decide +kernel
theorem dX7_kill_46 : decode cX7_kill 46 = .ok (.goto 21, 3) := by decide +kernel
theorem dX7_kill_49 : decode cX7_kill 49 = .ok (.aload_n 0, 1) := by decide +kernel
theorem dX7_kill_50 : decode cX7_kill 50 = .ok (.getfield 10, 3) := by decide +kernel
theorem dX7_kill_53 : decode cX7_kill 53 = .ok (.getfield 107, 3) := by decide +kernel
theorem dX7_kill_56 : decode cX7_kill 56 = .ok (.bipush 11, 2) := by decide +kernel
theorem dX7_kill_58 : decode cX7_kill 58 = .ok (.dup2, 1) := by decide +kernel
theorem dX7_kill_59 : decode cX7_kill 59 = .ok (.iaload, 1) := by decide +kernel
theorem dX7_kill_60 : decode cX7_kill 60 = .ok (.iconst 1, 1) := by decide +kernel
theorem dX7_kill_61 : decode cX7_kill 61 = .ok (.iload_n 1, 1) := by decide +kernel
theorem dX7_kill_62 : decode cX7_kill 62 = .ok (.ishl, 1) := by decide +kernel
theorem dX7_kill_63 : decode cX7_kill 63 = .ok (.iconst (-1), 1) := by decide +kernel
theorem dX7_kill_64 : decode cX7_kill 64 = .ok (.ixor, 1) := by decide +kernel
theorem dX7_kill_65 : decode cX7_kill 65 = .ok (.iand, 1) := by decide +kernel
theorem dX7_kill_66 : decode cX7_kill 66 = .ok (.iastore, 1) := by decide +kernel
theorem dX7_kill_67 : decode cX7_kill 67 = .ok (.iload_n 3, 1) := by decide +kernel
theorem dX7_kill_68 : decode cX7_kill 68 = .ok (.ireturn, 1) := by decide +kernel
theorem dX7_sheet_0 : decode cX7_sheet 0 = .ok (.iload_n 1, 1) := by decide +kernel
theorem dX7_sheet_1 : decode cX7_sheet 1 = .ok (.iconst 4, 1) := by decide +kernel
theorem dX7_sheet_2 : decode cX7_sheet 2 = .ok (.invokestatic 103, 3) := by decide +kernel
theorem dX7_sheet_5 : decode cX7_sheet 5 = .ok (.ifCond .eq 17, 3) := by decide +kernel
theorem dX7_sheet_8 : decode cX7_sheet 8 = .ok (.iload_n 2, 1) := by decide +kernel
theorem dX7_sheet_9 : decode cX7_sheet 9 = .ok (.iconst 3, 1) := by decide +kernel
theorem dX7_sheet_10 : decode cX7_sheet 10 = .ok (.invokestatic 103, 3) := by decide +kernel
theorem dX7_sheet_13 : decode cX7_sheet 13 = .ok (.ifCond .eq 9, 3) := by decide +kernel
theorem dX7_sheet_16 : decode cX7_sheet 16 = .ok (.iload_n 3, 1) := by decide +kernel
theorem dX7_sheet_17 : decode cX7_sheet 17 = .ok (.bipush 64, 2) := by decide +kernel
theorem dX7_sheet_19 : decode cX7_sheet 19 = .ok (.if_icmp .le 5, 3) := by decide +kernel
theorem dX7_sheet_22 : decode cX7_sheet 22 = .ok (.iconst (-1), 1) := by decide +kernel
theorem dX7_sheet_23 : decode cX7_sheet 23 = .ok (.ireturn, 1) := by decide +kernel
theorem dX7_sheet_24 : decode cX7_sheet 24 = .ok (.iload_n 3, 1) := by decide +kernel
theorem dX7_sheet_25 : decode cX7_sheet 25 = .ok (.ifCond .ge 6, 3) := by decide +kernel
theorem dX7_sheet_28 : decode cX7_sheet 28 = .ok (.bipush (-14), 2) := by decide +kernel
theorem dX7_sheet_30 : decode cX7_sheet 30 = .ok (.ireturn, 1) := by decide +kernel
theorem dX7_sheet_31 : decode cX7_sheet 31 = .ok (.aload_n 0, 1) := by decide +kernel
theorem dX7_sheet_32 : decode cX7_sheet 32 = .ok (.getfield 70, 3) := by decide +kernel
theorem dX7_sheet_35 : decode cX7_sheet 35 = .ok (.iload_n 1, 1) := by decide +kernel
theorem dX7_sheet_36 : decode cX7_sheet 36 = .ok (.aaload, 1) := by decide +kernel
theorem dX7_sheet_37 : decode cX7_sheet 37 = .ok (.iload_n 2, 1) := by decide +kernel
theorem dX7_sheet_38 : decode cX7_sheet 38 = .ok (.iload_n 3, 1) := by decide +kernel
theorem dX7_sheet_39 : decode cX7_sheet 39 = .ok (.invokevirtual 238, 3) := by decide +kernel
theorem dX7_sheet_42 : decode cX7_sheet 42 = .ok (.iconst 1, 1) := by decide +kernel
theorem dX7_sheet_43 : decode cX7_sheet 43 = .ok (.ireturn, 1) := by decide +kernel
theorem dX7_lay_0 : decode cX7_lay 0 = .ok (.iload_n 1, 1) := by decide +kernel
theorem dX7_lay_1 : decode cX7_lay 1 = .ok (.iconst 4, 1) := by decide +kernel
theorem dX7_lay_2 : decode cX7_lay 2 = .ok (.invokestatic 103, 3) := by decide +kernel
theorem dX7_lay_5 : decode cX7_lay 5 = .ok (.ifCond .ne 5, 3) := by decide +kernel
theorem dX7_lay_8 : decode cX7_lay 8 = .ok (.iconst (-1), 1) := by decide +kernel
theorem dX7_lay_9 : decode cX7_lay 9 = .ok (.ireturn, 1) := by decide +kernel
theorem dX7_lay_10 : decode cX7_lay 10 = .ok (.aload_n 0, 1) := by decide +kernel
theorem dX7_lay_11 : decode cX7_lay 11 = .ok (.getfield 70, 3) := by decide +kernel
theorem dX7_lay_14 : decode cX7_lay 14 = .ok (.iload_n 1, 1) := by decide +kernel
theorem dX7_lay_15 : decode cX7_lay 15 = .ok (.aaload, 1) := by decide +kernel
theorem dX7_lay_16 : decode cX7_lay 16 = .ok (.iload_n 2, 1) := by decide +kernel
theorem dX7_lay_17 : decode cX7_lay 17 = .ok (.invokevirtual 242, 3) := by decide +kernel
theorem dX7_lay_20 : decode cX7_lay 20 = .ok (.istore 4, 2) := by decide +kernel
theorem dX7_lay_22 : decode cX7_lay 22 = .ok (.iload 4, 2) := by decide +kernel
theorem dX7_lay_24 : decode cX7_lay 24 = .ok (.ifCond .eq 9, 3) := by decide +kernel
theorem dX7_lay_27 : decode cX7_lay 27 = .ok (.bipush (-10), 2) := by decide +kernel
theorem dX7_lay_29 : decode cX7_lay 29 = .ok (.iload 4, 2) := by decide +kernel
theorem dX7_lay_31 : decode cX7_lay 31 = .ok (.isub, 1) := by decide +kernel
theorem dX7_lay_32 : decode cX7_lay 32 = .ok (.ireturn, 1) := by decide +kernel
theorem dX7_lay_33 : decode cX7_lay 33 = .ok (.aload_n 0, 1) := by decide +kernel
theorem dX7_lay_34 : decode cX7_lay 34 = .ok (.getfield 70, 3) := by decide +kernel
theorem dX7_lay_37 : decode cX7_lay 37 = .ok (.iload_n 1, 1) := by decide +kernel
theorem dX7_lay_38 : decode cX7_lay 38 = .ok (.aaload, 1) := by decide +kernel
theorem dX7_lay_39 : decode cX7_lay 39 = .ok (.iload_n 2, 1) := by decide +kernel
theorem dX7_lay_40 : decode cX7_lay 40 = .ok (.iload_n 3, 1) := by decide +kernel
theorem dX7_lay_41 : decode cX7_lay 41 = .ok (.invokevirtual 245, 3) := by decide +kernel
theorem dX7_lay_44 : decode cX7_lay 44 = .ok (.iconst 1, 1) := by decide +kernel
theorem dX7_lay_45 : decode cX7_lay 45 = .ok (.ireturn, 1) := by decide +kernel
theorem dX7_read_0 : decode cX7_read 0 = .ok (.iload_n 1, 1) := by decide +kernel
theorem dX7_read_1 : decode cX7_read 1 = .ok (.bipush 6, 2) := by decide +kernel
theorem dX7_read_3 : decode cX7_read 3 = .ok (.invokestatic 103, 3) := by decide +kernel
theorem dX7_read_6 : decode cX7_read 6 = .ok (.ifCond .eq 29, 3) := by decide +kernel
theorem dX7_read_9 : decode cX7_read 9 = .ok (.iload_n 2, 1) := by decide +kernel
theorem dX7_read_10 : decode cX7_read 10 = .ok (.iconst 4, 1) := by decide +kernel
theorem dX7_read_11 : decode cX7_read 11 = .ok (.invokestatic 103, 3) := by decide +kernel
theorem dX7_read_14 : decode cX7_read 14 = .ok (.ifCond .eq 21, 3) := by decide +kernel
theorem dX7_read_17 : decode cX7_read 17 = .ok (.iload_n 3, 1) := by decide +kernel
theorem dX7_read_18 : decode cX7_read 18 = .ok (.iconst 3, 1) := by decide +kernel
theorem dX7_read_19 : decode cX7_read 19 = .ok (.invokestatic 103, 3) := by decide +kernel
theorem dX7_read_22 : decode cX7_read 22 = .ok (.ifCond .eq 13, 3) := by decide +kernel
theorem dX7_read_25 : decode cX7_read 25 = .ok (.iload 5, 2) := by decide +kernel
theorem dX7_read_27 : decode cX7_read 27 = .ok (.iload 6, 2) := by decide +kernel
theorem dX7_read_29 : decode cX7_read 29 = .ok (.invokestatic 248, 3) := by decide +kernel
theorem dX7_read_32 : decode cX7_read 32 = .ok (.ifCond .ne 5, 3) := by decide +kernel
theorem dX7_read_35 : decode cX7_read 35 = .ok (.iconst (-1), 1) := by decide +kernel
theorem dX7_read_36 : decode cX7_read 36 = .ok (.ireturn, 1) := by decide +kernel
theorem dX7_read_37 : decode cX7_read 37 = .ok (.aload_n 0, 1) := by decide +kernel
theorem dX7_read_38 : decode cX7_read 38 = .ok (.getfield 70, 3) := by decide +kernel
theorem dX7_read_41 : decode cX7_read 41 = .ok (.iload_n 2, 1) := by decide +kernel
theorem dX7_read_42 : decode cX7_read 42 = .ok (.aaload, 1) := by decide +kernel
theorem dX7_read_43 : decode cX7_read 43 = .ok (.astore 7, 2) := by decide +kernel
theorem dX7_read_45 : decode cX7_read 45 = .ok (.iconst 0, 1) := by decide +kernel
theorem dX7_read_46 : decode cX7_read 46 = .ok (.istore 8, 2) := by decide +kernel
theorem dX7_read_48 : decode cX7_read 48 = .ok (.iconst 0, 1) := by decide +kernel
theorem dX7_read_49 : decode cX7_read 49 = .ok (.istore 9, 2) := by decide +kernel
theorem dX7_read_51 : decode cX7_read 51 = .ok (.iload 8, 2) := by decide +kernel
theorem dX7_read_53 : decode cX7_read 53 = .ok (.ifCond .ne 70, 3) := by decide +kernel
theorem dX7_read_56 : decode cX7_read 56 = .ok (.iload 9, 2) := by decide +kernel
theorem dX7_read_58 : decode cX7_read 58 = .ok (.iload 6, 2) := by decide +kernel
theorem dX7_read_60 : decode cX7_read 60 = .ok (.if_icmp .ge 63, 3) := by decide +kernel
theorem dX7_read_63 : decode cX7_read 63 = .ok (.aload 7, 2) := by decide +kernel
theorem dX7_read_65 : decode cX7_read 65 = .ok (.iload_n 3, 1) := by decide +kernel
theorem dX7_read_66 : decode cX7_read 66 = .ok (.iload 4, 2) := by decide +kernel
theorem dX7_read_68 : decode cX7_read 68 = .ok (.iload 9, 2) := by decide +kernel
theorem dX7_read_70 : decode cX7_read 70 = .ok (.iadd, 1) := by decide +kernel
theorem dX7_read_71 : decode cX7_read 71 = .ok (.invokevirtual 251, 3) := by decide +kernel
theorem dX7_read_74 : decode cX7_read 74 = .ok (.istore 8, 2) := by decide +kernel
theorem dX7_read_76 : decode cX7_read 76 = .ok (.iload 8, 2) := by decide +kernel
theorem dX7_read_78 : decode cX7_read 78 = .ok (.ifCond .ne (-27), 3) := by decide +kernel
theorem dX7_read_81 : decode cX7_read 81 = .ok (.aload 7, 2) := by decide +kernel
theorem dX7_read_83 : decode cX7_read 83 = .ok (.getfield 254, 3) := by decide +kernel
theorem dX7_read_86 : decode cX7_read 86 = .ok (.iload 4, 2) := by decide +kernel
theorem dX7_read_88 : decode cX7_read 88 = .ok (.iload 9, 2) := by decide +kernel
theorem dX7_read_90 : decode cX7_read 90 = .ok (.iadd, 1) := by decide +kernel
theorem dX7_read_91 : decode cX7_read 91 = .ok (.iaload, 1) := by decide +kernel
theorem dX7_read_92 : decode cX7_read 92 = .ok (.ifCond .lt 19, 3) := by decide +kernel
theorem dX7_read_95 : decode cX7_read 95 = .ok (.aload 7, 2) := by decide +kernel
theorem dX7_read_97 : decode cX7_read 97 = .ok (.getfield 254, 3) := by decide +kernel
theorem dX7_read_100 : decode cX7_read 100 = .ok (.iload 4, 2) := by decide +kernel
theorem dX7_read_102 : decode cX7_read 102 = .ok (.iload 9, 2) := by decide +kernel
theorem dX7_read_104 : decode cX7_read 104 = .ok (.iadd, 1) := by decide +kernel
theorem dX7_read_105 : decode cX7_read 105 = .ok (.iaload, 1) := by decide +kernel
theorem dX7_read_106 : decode cX7_read 106 = .ok (.bipush 9, 2) := by decide +kernel
theorem dX7_read_108 : decode cX7_read 108 = .ok (.if_icmp .le 9, 3) := by decide +kernel
theorem dX7_read_111 : decode cX7_read 111 = .ok (.bipush (-20), 2) := by decide +kernel
theorem dX7_read_113 : decode cX7_read 113 = .ok (.iload 9, 2) := by decide +kernel
theorem dX7_read_115 : decode cX7_read 115 = .ok (.isub, 1) := by decide +kernel
theorem dX7_read_116 : decode cX7_read 116 = .ok (.ireturn, 1) := by decide +kernel
theorem dX7_read_117 : decode cX7_read 117 = .ok (.iinc 9 1, 3) := by decide +kernel
theorem dX7_read_120 : decode cX7_read 120 = .ok (.goto (-69), 3) := by decide +kernel
theorem dX7_read_123 : decode cX7_read 123 = .ok (.iconst 0, 1) := by decide +kernel
theorem dX7_read_124 : decode cX7_read 124 = .ok (.istore 10, 2) := by decide +kernel
theorem dX7_read_126 : decode cX7_read 126 = .ok (.iload 10, 2) := by decide +kernel
theorem dX7_read_128 : decode cX7_read 128 = .ok (.iload 6, 2) := by decide +kernel
theorem dX7_read_130 : decode cX7_read 130 = .ok (.if_icmp .ge 46, 3) := by decide +kernel
theorem dX7_read_133 : decode cX7_read 133 = .ok (.aload_n 0, 1) := by decide +kernel
theorem dX7_read_134 : decode cX7_read 134 = .ok (.getfield 26, 3) := by decide +kernel
theorem dX7_read_137 : decode cX7_read 137 = .ok (.iload_n 1, 1) := by decide +kernel
theorem dX7_read_138 : decode cX7_read 138 = .ok (.bipush 64, 2) := by decide +kernel
theorem dX7_read_140 : decode cX7_read 140 = .ok (.imul, 1) := by decide +kernel
theorem dX7_read_141 : decode cX7_read 141 = .ok (.iload 5, 2) := by decide +kernel
theorem dX7_read_143 : decode cX7_read 143 = .ok (.iadd, 1) := by decide +kernel
theorem dX7_read_144 : decode cX7_read 144 = .ok (.iload 10, 2) := by decide +kernel
theorem dX7_read_146 : decode cX7_read 146 = .ok (.iadd, 1) := by decide +kernel
theorem dX7_read_147 : decode cX7_read 147 = .ok (.iload 10, 2) := by decide +kernel
theorem dX7_read_149 : decode cX7_read 149 = .ok (.iload 9, 2) := by decide +kernel
theorem dX7_read_151 : decode cX7_read 151 = .ok (.if_icmp .ge 17, 3) := by decide +kernel
theorem dX7_read_154 : decode cX7_read 154 = .ok (.aload 7, 2) := by decide +kernel
theorem dX7_read_156 : decode cX7_read 156 = .ok (.getfield 254, 3) := by decide +kernel
theorem dX7_read_159 : decode cX7_read 159 = .ok (.iload 4, 2) := by decide +kernel
theorem dX7_read_161 : decode cX7_read 161 = .ok (.iload 10, 2) := by decide +kernel
theorem dX7_read_163 : decode cX7_read 163 = .ok (.iadd, 1) := by decide +kernel
theorem dX7_read_164 : decode cX7_read 164 = .ok (.iaload, 1) := by decide +kernel
theorem dX7_read_165 : decode cX7_read 165 = .ok (.goto 4, 3) := by decide +kernel
theorem dX7_read_168 : decode cX7_read 168 = .ok (.iconst 0, 1) := by decide +kernel
theorem dX7_read_169 : decode cX7_read 169 = .ok (.iastore, 1) := by decide +kernel
theorem dX7_read_170 : decode cX7_read 170 = .ok (.iinc 10 1, 3) := by decide +kernel
theorem dX7_read_173 : decode cX7_read 173 = .ok (.goto (-47), 3) := by decide +kernel
theorem dX7_read_176 : decode cX7_read 176 = .ok (.aload_n 0, 1) := by decide +kernel
theorem dX7_read_177 : decode cX7_read 177 = .ok (.iload 8, 2) := by decide +kernel
theorem dX7_read_179 : decode cX7_read 179 = .ok (.putfield 257, 3) := by decide +kernel
theorem dX7_read_182 : decode cX7_read 182 = .ok (.iload 9, 2) := by decide +kernel
theorem dX7_read_184 : decode cX7_read 184 = .ok (.ireturn, 1) := by decide +kernel
theorem dX7_torn_0 : decode cX7_torn 0 = .ok (.aload_n 0, 1) := by decide +kernel
theorem dX7_torn_1 : decode cX7_torn 1 = .ok (.getfield 257, 3) := by decide +kernel
theorem dX7_torn_4 : decode cX7_torn 4 = .ok (.ireturn, 1) := by decide +kernel
theorem dX7_count_0 : decode cX7_count 0 = .ok (.iload_n 1, 1) := by decide +kernel
theorem dX7_count_1 : decode cX7_count 1 = .ok (.tableswitch 125 0 6 #[43, 48, 62, 77, 85, 90, 98], 43) := by decide +kernel
theorem dX7_count_44 : decode cX7_count 44 = .ok (.aload_n 0, 1) := by decide +kernel
theorem dX7_count_45 : decode cX7_count 45 = .ok (.getfield 74, 3) := by decide +kernel
theorem dX7_count_48 : decode cX7_count 48 = .ok (.ireturn, 1) := by decide +kernel
theorem dX7_count_49 : decode cX7_count 49 = .ok (.aload_n 0, 1) := by decide +kernel
theorem dX7_count_50 : decode cX7_count 50 = .ok (.getfield 10, 3) := by decide +kernel
theorem dX7_count_53 : decode cX7_count 53 = .ok (.getfield 107, 3) := by decide +kernel
theorem dX7_count_56 : decode cX7_count 56 = .ok (.bipush 11, 2) := by decide +kernel
theorem dX7_count_58 : decode cX7_count 58 = .ok (.iaload, 1) := by decide +kernel
theorem dX7_count_59 : decode cX7_count 59 = .ok (.invokestatic 189, 3) := by decide +kernel
theorem dX7_count_62 : decode cX7_count 62 = .ok (.ireturn, 1) := by decide +kernel
theorem dX7_count_63 : decode cX7_count 63 = .ok (.aload_n 0, 1) := by decide +kernel
theorem dX7_count_64 : decode cX7_count 64 = .ok (.getfield 30, 3) := by decide +kernel
theorem dX7_count_67 : decode cX7_count 67 = .ok (.aload_n 0, 1) := by decide +kernel
theorem dX7_count_68 : decode cX7_count 68 = .ok (.getfield 33, 3) := by decide +kernel
theorem dX7_count_71 : decode cX7_count 71 = .ok (.invokestatic 136, 3) := by decide +kernel
theorem dX7_count_74 : decode cX7_count 74 = .ok (.invokestatic 189, 3) := by decide +kernel
theorem dX7_count_77 : decode cX7_count 77 = .ok (.ireturn, 1) := by decide +kernel
theorem dX7_count_78 : decode cX7_count 78 = .ok (.aload_n 0, 1) := by decide +kernel
theorem dX7_count_79 : decode cX7_count 79 = .ok (.getfield 64, 3) := by decide +kernel
theorem dX7_count_82 : decode cX7_count 82 = .ok (.getfield 218, 3) := by decide +kernel
theorem dX7_count_85 : decode cX7_count 85 = .ok (.ireturn, 1) := by decide +kernel
theorem dX7_count_86 : decode cX7_count 86 = .ok (.aload_n 0, 1) := by decide +kernel
theorem dX7_count_87 : decode cX7_count 87 = .ok (.invokevirtual 260, 3) := by decide +kernel
theorem dX7_count_90 : decode cX7_count 90 = .ok (.ireturn, 1) := by decide +kernel
theorem dX7_count_91 : decode cX7_count 91 = .ok (.aload_n 0, 1) := by decide +kernel
theorem dX7_count_92 : decode cX7_count 92 = .ok (.getfield 22, 3) := by decide +kernel
theorem dX7_count_95 : decode cX7_count 95 = .ok (.getfield 83, 3) := by decide +kernel
theorem dX7_count_98 : decode cX7_count 98 = .ok (.ireturn, 1) := by decide +kernel
theorem dX7_count_99 : decode cX7_count 99 = .ok (.aload_n 0, 1) := by decide +kernel
theorem dX7_count_100 : decode cX7_count 100 = .ok (.getfield 70, 3) := by decide +kernel
theorem dX7_count_103 : decode cX7_count 103 = .ok (.iconst 0, 1) := by decide +kernel
theorem dX7_count_104 : decode cX7_count 104 = .ok (.aaload, 1) := by decide +kernel
theorem dX7_count_105 : decode cX7_count 105 = .ok (.getfield 263, 3) := by decide +kernel
theorem dX7_count_108 : decode cX7_count 108 = .ok (.ifCond .ge 8, 3) := by decide +kernel
theorem dX7_count_111 : decode cX7_count 111 = .ok (.bipush (-4), 2) := by decide +kernel
theorem dX7_count_113 : decode cX7_count 113 = .ok (.goto 12, 3) := by decide +kernel
theorem dX7_count_116 : decode cX7_count 116 = .ok (.aload_n 0, 1) := by decide +kernel
theorem dX7_count_117 : decode cX7_count 117 = .ok (.getfield 70, 3) := by decide +kernel
theorem dX7_count_120 : decode cX7_count 120 = .ok (.iconst 0, 1) := by decide +kernel
theorem dX7_count_121 : decode cX7_count 121 = .ok (.aaload, 1) := by decide +kernel
theorem dX7_count_122 : decode cX7_count 122 = .ok (.getfield 263, 3) := by decide +kernel
theorem dX7_count_125 : decode cX7_count 125 = .ok (.ireturn, 1) := by decide +kernel
theorem dX7_count_126 : decode cX7_count 126 = .ok (.iconst (-1), 1) := by decide +kernel
theorem dX7_count_127 : decode cX7_count 127 = .ok (.ireturn, 1) := by decide +kernel
theorem dX7_within_0 : decode cX7_within 0 = .ok (.iload_n 0, 1) := by decide +kernel
theorem dX7_within_1 : decode cX7_within 1 = .ok (.ifCond .lt 12, 3) := by decide +kernel
theorem dX7_within_4 : decode cX7_within 4 = .ok (.iload_n 0, 1) := by decide +kernel
theorem dX7_within_5 : decode cX7_within 5 = .ok (.iload_n 1, 1) := by decide +kernel
theorem dX7_within_6 : decode cX7_within 6 = .ok (.if_icmp .ge 7, 3) := by decide +kernel
theorem dX7_within_9 : decode cX7_within 9 = .ok (.iconst 1, 1) := by decide +kernel
theorem dX7_within_10 : decode cX7_within 10 = .ok (.goto 4, 3) := by decide +kernel
theorem dX7_within_13 : decode cX7_within 13 = .ok (.iconst 0, 1) := by decide +kernel
theorem dX7_within_14 : decode cX7_within 14 = .ok (.ireturn, 1) := by decide +kernel
theorem dX7_isSet_0 : decode cX7_isSet 0 = .ok (.iload_n 0, 1) := by decide +kernel
theorem dX7_isSet_1 : decode cX7_isSet 1 = .ok (.ifCond .le 13, 3) := by decide +kernel
theorem dX7_isSet_4 : decode cX7_isSet 4 = .ok (.iload_n 0, 1) := by decide +kernel
theorem dX7_isSet_5 : decode cX7_isSet 5 = .ok (.bipush 64, 2) := by decide +kernel
theorem dX7_isSet_7 : decode cX7_isSet 7 = .ok (.if_icmp .ge 7, 3) := by decide +kernel
theorem dX7_isSet_10 : decode cX7_isSet 10 = .ok (.iconst 1, 1) := by decide +kernel
theorem dX7_isSet_11 : decode cX7_isSet 11 = .ok (.goto 4, 3) := by decide +kernel
theorem dX7_isSet_14 : decode cX7_isSet 14 = .ok (.iconst 0, 1) := by decide +kernel
theorem dX7_isSet_15 : decode cX7_isSet 15 = .ok (.ireturn, 1) := by decide +kernel
theorem dX7_isPart_0 : decode cX7_isPart 0 = .ok (.iload_n 0, 1) := by decide +kernel
theorem dX7_isPart_1 : decode cX7_isPart 1 = .ok (.ifCond .lt 31, 3) := by decide +kernel
theorem dX7_isPart_4 : decode cX7_isPart 4 = .ok (.iload_n 0, 1) := by decide +kernel
theorem dX7_isPart_5 : decode cX7_isPart 5 = .ok (.bipush 64, 2) := by decide +kernel
theorem dX7_isPart_7 : decode cX7_isPart 7 = .ok (.if_icmp .gt 25, 3) := by decide +kernel
theorem dX7_isPart_10 : decode cX7_isPart 10 = .ok (.iload_n 1, 1) := by decide +kernel
theorem dX7_isPart_11 : decode cX7_isPart 11 = .ok (.ifCond .lt 21, 3) := by decide +kernel
theorem dX7_isPart_14 : decode cX7_isPart 14 = .ok (.iload_n 1, 1) := by decide +kernel
theorem dX7_isPart_15 : decode cX7_isPart 15 = .ok (.bipush 64, 2) := by decide +kernel
theorem dX7_isPart_17 : decode cX7_isPart 17 = .ok (.if_icmp .gt 15, 3) := by decide +kernel
theorem dX7_isPart_20 : decode cX7_isPart 20 = .ok (.iload_n 0, 1) := by decide +kernel
theorem dX7_isPart_21 : decode cX7_isPart 21 = .ok (.iload_n 1, 1) := by decide +kernel
theorem dX7_isPart_22 : decode cX7_isPart 22 = .ok (.iadd, 1) := by decide +kernel
theorem dX7_isPart_23 : decode cX7_isPart 23 = .ok (.bipush 64, 2) := by decide +kernel
theorem dX7_isPart_25 : decode cX7_isPart 25 = .ok (.if_icmp .gt 7, 3) := by decide +kernel
theorem dX7_isPart_28 : decode cX7_isPart 28 = .ok (.iconst 1, 1) := by decide +kernel
theorem dX7_isPart_29 : decode cX7_isPart 29 = .ok (.goto 4, 3) := by decide +kernel
theorem dX7_isPart_32 : decode cX7_isPart 32 = .ok (.iconst 0, 1) := by decide +kernel
theorem dX7_isPart_33 : decode cX7_isPart 33 = .ok (.ireturn, 1) := by decide +kernel
theorem dX7_bit_0 : decode cX7_bit 0 = .ok (.iload_n 0, 1) := by decide +kernel
theorem dX7_bit_1 : decode cX7_bit 1 = .ok (.iload_n 1, 1) := by decide +kernel
theorem dX7_bit_2 : decode cX7_bit 2 = .ok (.ishr, 1) := by decide +kernel
theorem dX7_bit_3 : decode cX7_bit 3 = .ok (.iconst 1, 1) := by decide +kernel
theorem dX7_bit_4 : decode cX7_bit 4 = .ok (.iand, 1) := by decide +kernel
theorem dX7_bit_5 : decode cX7_bit 5 = .ok (.ireturn, 1) := by decide +kernel
theorem dX7_leastOf_0 : decode cX7_leastOf 0 = .ok (.iconst 0, 1) := by decide +kernel
theorem dX7_leastOf_1 : decode cX7_leastOf 1 = .ok (.istore_n 1, 1) := by decide +kernel
theorem dX7_leastOf_2 : decode cX7_leastOf 2 = .ok (.iload_n 1, 1) := by decide +kernel
theorem dX7_leastOf_3 : decode cX7_leastOf 3 = .ok (.iconst 5, 1) := by decide +kernel
theorem dX7_leastOf_4 : decode cX7_leastOf 4 = .ok (.if_icmp .ge 17, 3) := by decide +kernel
theorem dX7_leastOf_7 : decode cX7_leastOf 7 = .ok (.iload_n 0, 1) := by decide +kernel
theorem dX7_leastOf_8 : decode cX7_leastOf 8 = .ok (.iload_n 1, 1) := by decide +kernel
theorem dX7_leastOf_9 : decode cX7_leastOf 9 = .ok (.invokestatic 133, 3) := by decide +kernel
theorem dX7_leastOf_12 : decode cX7_leastOf 12 = .ok (.ifCond .ne 9, 3) := by decide +kernel
theorem dX7_leastOf_15 : decode cX7_leastOf 15 = .ok (.iinc 1 1, 3) := by decide +kernel
theorem dX7_leastOf_18 : decode cX7_leastOf 18 = .ok (.goto (-16), 3) := by decide +kernel
theorem dX7_leastOf_21 : decode cX7_leastOf 21 = .ok (.iload_n 1, 1) := by decide +kernel
theorem dX7_leastOf_22 : decode cX7_leastOf 22 = .ok (.ireturn, 1) := by decide +kernel
theorem dX7_above_0 : decode cX7_above 0 = .ok (.iconst 0, 1) := by decide +kernel
theorem dX7_above_1 : decode cX7_above 1 = .ok (.istore_n 2, 1) := by decide +kernel
theorem dX7_above_2 : decode cX7_above 2 = .ok (.iconst 0, 1) := by decide +kernel
theorem dX7_above_3 : decode cX7_above 3 = .ok (.istore_n 3, 1) := by decide +kernel
theorem dX7_above_4 : decode cX7_above 4 = .ok (.iload_n 3, 1) := by decide +kernel
theorem dX7_above_5 : decode cX7_above 5 = .ok (.bipush 16, 2) := by decide +kernel
theorem dX7_above_7 : decode cX7_above 7 = .ok (.if_icmp .ge 24, 3) := by decide +kernel
theorem dX7_above_10 : decode cX7_above 10 = .ok (.aload_n 0, 1) := by decide +kernel
theorem dX7_above_11 : decode cX7_above 11 = .ok (.iload_n 3, 1) := by decide +kernel
theorem dX7_above_12 : decode cX7_above 12 = .ok (.iaload, 1) := by decide +kernel
theorem dX7_above_13 : decode cX7_above 13 = .ok (.aload_n 1, 1) := by decide +kernel
theorem dX7_above_14 : decode cX7_above 14 = .ok (.iload_n 3, 1) := by decide +kernel
theorem dX7_above_15 : decode cX7_above 15 = .ok (.iaload, 1) := by decide +kernel
theorem dX7_above_16 : decode cX7_above 16 = .ok (.if_icmp .le 9, 3) := by decide +kernel
theorem dX7_above_19 : decode cX7_above 19 = .ok (.iload_n 2, 1) := by decide +kernel
theorem dX7_above_20 : decode cX7_above 20 = .ok (.iconst 1, 1) := by decide +kernel
theorem dX7_above_21 : decode cX7_above 21 = .ok (.iload_n 3, 1) := by decide +kernel
theorem dX7_above_22 : decode cX7_above 22 = .ok (.ishl, 1) := by decide +kernel
theorem dX7_above_23 : decode cX7_above 23 = .ok (.ior, 1) := by decide +kernel
theorem dX7_above_24 : decode cX7_above 24 = .ok (.istore_n 2, 1) := by decide +kernel
theorem dX7_above_25 : decode cX7_above 25 = .ok (.iinc 3 1, 3) := by decide +kernel
theorem dX7_above_28 : decode cX7_above 28 = .ok (.goto (-24), 3) := by decide +kernel
theorem dX7_above_31 : decode cX7_above 31 = .ok (.iload_n 2, 1) := by decide +kernel
theorem dX7_above_32 : decode cX7_above 32 = .ok (.ireturn, 1) := by decide +kernel
theorem dX7_sum_0 : decode cX7_sum 0 = .ok (.iconst 0, 1) := by decide +kernel
theorem dX7_sum_1 : decode cX7_sum 1 = .ok (.istore_n 1, 1) := by decide +kernel
theorem dX7_sum_2 : decode cX7_sum 2 = .ok (.aload_n 0, 1) := by decide +kernel
theorem dX7_sum_3 : decode cX7_sum 3 = .ok (.astore_n 2, 1) := by decide +kernel
theorem dX7_sum_4 : decode cX7_sum 4 = .ok (.aload_n 2, 1) := by decide +kernel
theorem dX7_sum_5 : decode cX7_sum 5 = .ok (.arraylength, 1) := by decide +kernel
theorem dX7_sum_6 : decode cX7_sum 6 = .ok (.istore_n 3, 1) := by decide +kernel
theorem dX7_sum_7 : decode cX7_sum 7 = .ok (.iconst 0, 1) := by decide +kernel
theorem dX7_sum_8 : decode cX7_sum 8 = .ok (.istore 4, 2) := by decide +kernel
theorem dX7_sum_10 : decode cX7_sum 10 = .ok (.iload 4, 2) := by decide +kernel
theorem dX7_sum_12 : decode cX7_sum 12 = .ok (.iload_n 3, 1) := by decide +kernel
theorem dX7_sum_13 : decode cX7_sum 13 = .ok (.if_icmp .ge 20, 3) := by decide +kernel
theorem dX7_sum_16 : decode cX7_sum 16 = .ok (.aload_n 2, 1) := by decide +kernel
theorem dX7_sum_17 : decode cX7_sum 17 = .ok (.iload 4, 2) := by decide +kernel
theorem dX7_sum_19 : decode cX7_sum 19 = .ok (.iaload, 1) := by decide +kernel
theorem dX7_sum_20 : decode cX7_sum 20 = .ok (.istore 5, 2) := by decide +kernel
theorem dX7_sum_22 : decode cX7_sum 22 = .ok (.iload_n 1, 1) := by decide +kernel
theorem dX7_sum_23 : decode cX7_sum 23 = .ok (.iload 5, 2) := by decide +kernel
theorem dX7_sum_25 : decode cX7_sum 25 = .ok (.iadd, 1) := by decide +kernel
theorem dX7_sum_26 : decode cX7_sum 26 = .ok (.istore_n 1, 1) := by decide +kernel
theorem dX7_sum_27 : decode cX7_sum 27 = .ok (.iinc 4 1, 3) := by decide +kernel
theorem dX7_sum_30 : decode cX7_sum 30 = .ok (.goto (-20), 3) := by decide +kernel
theorem dX7_sum_33 : decode cX7_sum 33 = .ok (.iload_n 1, 1) := by decide +kernel
theorem dX7_sum_34 : decode cX7_sum 34 = .ok (.ireturn, 1) := by decide +kernel
theorem dX7_lit_0 : decode cX7_lit 0 = .ok (.iconst 0, 1) := by decide +kernel
theorem dX7_lit_1 : decode cX7_lit 1 = .ok (.istore_n 1, 1) := by decide +kernel
theorem dX7_lit_2 : decode cX7_lit 2 = .ok (.aload_n 0, 1) := by decide +kernel
theorem dX7_lit_3 : decode cX7_lit 3 = .ok (.getfield 26, 3) := by decide +kernel
theorem dX7_lit_6 : decode cX7_lit 6 = .ok (.astore_n 2, 1) := by decide +kernel
theorem dX7_lit_7 : decode cX7_lit 7 = .ok (.aload_n 2, 1) := by decide +kernel
theorem dX7_lit_8 : decode cX7_lit 8 = .ok (.arraylength, 1) := by decide +kernel
theorem dX7_lit_9 : decode cX7_lit 9 = .ok (.istore_n 3, 1) := by decide +kernel
theorem dX7_lit_10 : decode cX7_lit 10 = .ok (.iconst 0, 1) := by decide +kernel
theorem dX7_lit_11 : decode cX7_lit 11 = .ok (.istore 4, 2) := by decide +kernel
theorem dX7_lit_13 : decode cX7_lit 13 = .ok (.iload 4, 2) := by decide +kernel
theorem dX7_lit_15 : decode cX7_lit 15 = .ok (.iload_n 3, 1) := by decide +kernel
theorem dX7_lit_16 : decode cX7_lit 16 = .ok (.if_icmp .ge 28, 3) := by decide +kernel
theorem dX7_lit_19 : decode cX7_lit 19 = .ok (.aload_n 2, 1) := by decide +kernel
theorem dX7_lit_20 : decode cX7_lit 20 = .ok (.iload 4, 2) := by decide +kernel
theorem dX7_lit_22 : decode cX7_lit 22 = .ok (.iaload, 1) := by decide +kernel
theorem dX7_lit_23 : decode cX7_lit 23 = .ok (.istore 5, 2) := by decide +kernel
theorem dX7_lit_25 : decode cX7_lit 25 = .ok (.iload_n 1, 1) := by decide +kernel
theorem dX7_lit_26 : decode cX7_lit 26 = .ok (.iload 5, 2) := by decide +kernel
theorem dX7_lit_28 : decode cX7_lit 28 = .ok (.ifCond .le 7, 3) := by decide +kernel
theorem dX7_lit_31 : decode cX7_lit 31 = .ok (.iconst 1, 1) := by decide +kernel
theorem dX7_lit_32 : decode cX7_lit 32 = .ok (.goto 4, 3) := by decide +kernel
theorem dX7_lit_35 : decode cX7_lit 35 = .ok (.iconst 0, 1) := by decide +kernel
theorem dX7_lit_36 : decode cX7_lit 36 = .ok (.iadd, 1) := by decide +kernel
theorem dX7_lit_37 : decode cX7_lit 37 = .ok (.istore_n 1, 1) := by decide +kernel
theorem dX7_lit_38 : decode cX7_lit 38 = .ok (.iinc 4 1, 3) := by decide +kernel
theorem dX7_lit_41 : decode cX7_lit 41 = .ok (.goto (-28), 3) := by decide +kernel
theorem dX7_lit_44 : decode cX7_lit 44 = .ok (.iload_n 1, 1) := by decide +kernel
theorem dX7_lit_45 : decode cX7_lit 45 = .ok (.ireturn, 1) := by decide +kernel
theorem dX7_placeAfter_0 : decode cX7_placeAfter 0 = .ok (.iload_n 0, 1) := by decide +kernel
theorem dX7_placeAfter_1 : decode cX7_placeAfter 1 = .ok (.bipush 25, 2) := by decide +kernel
theorem dX7_placeAfter_3 : decode cX7_placeAfter 3 = .ok (.if_icmp .ne 16, 3) := by decide +kernel
theorem dX7_placeAfter_6 : decode cX7_placeAfter 6 = .ok (.iload_n 1, 1) := by decide +kernel
theorem dX7_placeAfter_7 : decode cX7_placeAfter 7 = .ok (.iconst 4, 1) := by decide +kernel
theorem dX7_placeAfter_8 : decode cX7_placeAfter 8 = .ok (.if_icmp .ne 8, 3) := by decide +kernel
theorem dX7_placeAfter_11 : decode cX7_placeAfter 11 = .ok (.bipush 12, 2) := by decide +kernel
theorem dX7_placeAfter_13 : decode cX7_placeAfter 13 = .ok (.goto 5, 3) := by decide +kernel
theorem dX7_placeAfter_16 : decode cX7_placeAfter 16 = .ok (.bipush 25, 2) := by decide +kernel
theorem dX7_placeAfter_18 : decode cX7_placeAfter 18 = .ok (.ireturn, 1) := by decide +kernel
theorem dX7_placeAfter_19 : decode cX7_placeAfter 19 = .ok (.iload_n 0, 1) := by decide +kernel
theorem dX7_placeAfter_20 : decode cX7_placeAfter 20 = .ok (.iconst 5, 1) := by decide +kernel
theorem dX7_placeAfter_21 : decode cX7_placeAfter 21 = .ok (.idiv, 1) := by decide +kernel
theorem dX7_placeAfter_22 : decode cX7_placeAfter 22 = .ok (.istore_n 2, 1) := by decide +kernel
theorem dX7_placeAfter_23 : decode cX7_placeAfter 23 = .ok (.iload_n 0, 1) := by decide +kernel
theorem dX7_placeAfter_24 : decode cX7_placeAfter 24 = .ok (.iconst 5, 1) := by decide +kernel
theorem dX7_placeAfter_25 : decode cX7_placeAfter 25 = .ok (.irem, 1) := by decide +kernel
theorem dX7_placeAfter_26 : decode cX7_placeAfter 26 = .ok (.istore_n 3, 1) := by decide +kernel
theorem dX7_placeAfter_27 : decode cX7_placeAfter 27 = .ok (.iload_n 1, 1) := by decide +kernel
theorem dX7_placeAfter_28 : decode cX7_placeAfter 28 = .ok (.tableswitch 93 0 5 #[40, 52, 65, 77, 93, 90], 40) := by decide +kernel
theorem dX7_placeAfter_68 : decode cX7_placeAfter 68 = .ok (.iload_n 3, 1) := by decide +kernel
theorem dX7_placeAfter_69 : decode cX7_placeAfter 69 = .ok (.ifCond .le 9, 3) := by decide +kernel
theorem dX7_placeAfter_72 : decode cX7_placeAfter 72 = .ok (.iload_n 0, 1) := by decide +kernel
theorem dX7_placeAfter_73 : decode cX7_placeAfter 73 = .ok (.iconst 1, 1) := by decide +kernel
theorem dX7_placeAfter_74 : decode cX7_placeAfter 74 = .ok (.isub, 1) := by decide +kernel
theorem dX7_placeAfter_75 : decode cX7_placeAfter 75 = .ok (.goto 4, 3) := by decide +kernel
theorem dX7_placeAfter_78 : decode cX7_placeAfter 78 = .ok (.iload_n 0, 1) := by decide +kernel
theorem dX7_placeAfter_79 : decode cX7_placeAfter 79 = .ok (.ireturn, 1) := by decide +kernel
theorem dX7_placeAfter_80 : decode cX7_placeAfter 80 = .ok (.iload_n 3, 1) := by decide +kernel
theorem dX7_placeAfter_81 : decode cX7_placeAfter 81 = .ok (.iconst 4, 1) := by decide +kernel
theorem dX7_placeAfter_82 : decode cX7_placeAfter 82 = .ok (.if_icmp .ge 9, 3) := by decide +kernel
theorem dX7_placeAfter_85 : decode cX7_placeAfter 85 = .ok (.iload_n 0, 1) := by decide +kernel
theorem dX7_placeAfter_86 : decode cX7_placeAfter 86 = .ok (.iconst 1, 1) := by decide +kernel
theorem dX7_placeAfter_87 : decode cX7_placeAfter 87 = .ok (.iadd, 1) := by decide +kernel
theorem dX7_placeAfter_88 : decode cX7_placeAfter 88 = .ok (.goto 4, 3) := by decide +kernel
theorem dX7_placeAfter_91 : decode cX7_placeAfter 91 = .ok (.iload_n 0, 1) := by decide +kernel
theorem dX7_placeAfter_92 : decode cX7_placeAfter 92 = .ok (.ireturn, 1) := by decide +kernel
theorem dX7_placeAfter_93 : decode cX7_placeAfter 93 = .ok (.iload_n 2, 1) := by decide +kernel
theorem dX7_placeAfter_94 : decode cX7_placeAfter 94 = .ok (.ifCond .le 9, 3) := by decide +kernel
theorem dX7_placeAfter_97 : decode cX7_placeAfter 97 = .ok (.iload_n 0, 1) := by decide +kernel
theorem dX7_placeAfter_98 : decode cX7_placeAfter 98 = .ok (.iconst 5, 1) := by decide +kernel
theorem dX7_placeAfter_99 : decode cX7_placeAfter 99 = .ok (.isub, 1) := by decide +kernel
theorem dX7_placeAfter_100 : decode cX7_placeAfter 100 = .ok (.goto 4, 3) := by decide +kernel
theorem dX7_placeAfter_103 : decode cX7_placeAfter 103 = .ok (.iload_n 0, 1) := by decide +kernel
theorem dX7_placeAfter_104 : decode cX7_placeAfter 104 = .ok (.ireturn, 1) := by decide +kernel
theorem dX7_placeAfter_105 : decode cX7_placeAfter 105 = .ok (.iload_n 2, 1) := by decide +kernel
theorem dX7_placeAfter_106 : decode cX7_placeAfter 106 = .ok (.iconst 4, 1) := by decide +kernel
theorem dX7_placeAfter_107 : decode cX7_placeAfter 107 = .ok (.if_icmp .ge 9, 3) := by decide +kernel
theorem dX7_placeAfter_110 : decode cX7_placeAfter 110 = .ok (.iload_n 0, 1) := by decide +kernel
theorem dX7_placeAfter_111 : decode cX7_placeAfter 111 = .ok (.iconst 5, 1) := by decide +kernel
theorem dX7_placeAfter_112 : decode cX7_placeAfter 112 = .ok (.iadd, 1) := by decide +kernel
theorem dX7_placeAfter_113 : decode cX7_placeAfter 113 = .ok (.goto 4, 3) := by decide +kernel
theorem dX7_placeAfter_116 : decode cX7_placeAfter 116 = .ok (.iload_n 0, 1) := by decide +kernel
theorem dX7_placeAfter_117 : decode cX7_placeAfter 117 = .ok (.ireturn, 1) := by decide +kernel
theorem dX7_placeAfter_118 : decode cX7_placeAfter 118 = .ok (.bipush 25, 2) := by decide +kernel
theorem dX7_placeAfter_120 : decode cX7_placeAfter 120 = .ok (.ireturn, 1) := by decide +kernel
theorem dX7_placeAfter_121 : decode cX7_placeAfter 121 = .ok (.iload_n 0, 1) := by decide +kernel
theorem dX7_placeAfter_122 : decode cX7_placeAfter 122 = .ok (.ireturn, 1) := by decide +kernel
theorem dX7_seen_0 : decode cX7_seen 0 = .ok (.aload_n 0, 1) := by decide +kernel
theorem dX7_seen_1 : decode cX7_seen 1 = .ok (.getfield 38, 3) := by decide +kernel
theorem dX7_seen_4 : decode cX7_seen 4 = .ok (.iload_n 1, 1) := by decide +kernel
theorem dX7_seen_5 : decode cX7_seen 5 = .ok (.aaload, 1) := by decide +kernel
theorem dX7_seen_6 : decode cX7_seen 6 = .ok (.astore_n 3, 1) := by decide +kernel
theorem dX7_seen_7 : decode cX7_seen 7 = .ok (.aload_n 3, 1) := by decide +kernel
theorem dX7_seen_8 : decode cX7_seen 8 = .ok (.aload_n 0, 1) := by decide +kernel
theorem dX7_seen_9 : decode cX7_seen 9 = .ok (.getfield 26, 3) := by decide +kernel
theorem dX7_seen_12 : decode cX7_seen 12 = .ok (.iload_n 1, 1) := by decide +kernel
theorem dX7_seen_13 : decode cX7_seen 13 = .ok (.iload_n 2, 1) := by decide +kernel
theorem dX7_seen_14 : decode cX7_seen 14 = .ok (.aload_n 0, 1) := by decide +kernel
theorem dX7_seen_15 : decode cX7_seen 15 = .ok (.getfield 10, 3) := by decide +kernel
theorem dX7_seen_18 : decode cX7_seen 18 = .ok (.aload_n 0, 1) := by decide +kernel
theorem dX7_seen_19 : decode cX7_seen 19 = .ok (.getfield 30, 3) := by decide +kernel
theorem dX7_seen_22 : decode cX7_seen 22 = .ok (.invokevirtual 234, 3) := by decide +kernel
theorem dX7_seen_25 : decode cX7_seen 25 = .ok (.aload_n 3, 1) := by decide +kernel
theorem dX7_seen_26 : decode cX7_seen 26 = .ok (.areturn, 1) := by decide +kernel
theorem dX7_seenAfter_0 : decode cX7_seenAfter 0 = .ok (.aload_n 0, 1) := by decide +kernel
theorem dX7_seenAfter_1 : decode cX7_seenAfter 1 = .ok (.getfield 43, 3) := by decide +kernel
theorem dX7_seenAfter_4 : decode cX7_seenAfter 4 = .ok (.aload_n 0, 1) := by decide +kernel
theorem dX7_seenAfter_5 : decode cX7_seenAfter 5 = .ok (.getfield 26, 3) := by decide +kernel
theorem dX7_seenAfter_8 : decode cX7_seenAfter 8 = .ok (.iload_n 1, 1) := by decide +kernel
theorem dX7_seenAfter_9 : decode cX7_seenAfter 9 = .ok (.aload_n 0, 1) := by decide +kernel
theorem dX7_seenAfter_10 : decode cX7_seenAfter 10 = .ok (.getfield 74, 3) := by decide +kernel
theorem dX7_seenAfter_13 : decode cX7_seenAfter 13 = .ok (.iload_n 2, 1) := by decide +kernel
theorem dX7_seenAfter_14 : decode cX7_seenAfter 14 = .ok (.invokestatic 113, 3) := by decide +kernel
theorem dX7_seenAfter_17 : decode cX7_seenAfter 17 = .ok (.aload_n 0, 1) := by decide +kernel
theorem dX7_seenAfter_18 : decode cX7_seenAfter 18 = .ok (.getfield 10, 3) := by decide +kernel
theorem dX7_seenAfter_21 : decode cX7_seenAfter 21 = .ok (.aload_n 0, 1) := by decide +kernel
theorem dX7_seenAfter_22 : decode cX7_seenAfter 22 = .ok (.getfield 30, 3) := by decide +kernel
theorem dX7_seenAfter_25 : decode cX7_seenAfter 25 = .ok (.invokevirtual 234, 3) := by decide +kernel
theorem dX7_seenAfter_28 : decode cX7_seenAfter 28 = .ok (.aload_n 0, 1) := by decide +kernel
theorem dX7_seenAfter_29 : decode cX7_seenAfter 29 = .ok (.getfield 43, 3) := by decide +kernel
theorem dX7_seenAfter_32 : decode cX7_seenAfter 32 = .ok (.areturn, 1) := by decide +kernel
theorem dX7_tireBy_0 : decode cX7_tireBy 0 = .ok (.iconst 0, 1) := by decide +kernel
theorem dX7_tireBy_1 : decode cX7_tireBy 1 = .ok (.istore_n 2, 1) := by decide +kernel
theorem dX7_tireBy_2 : decode cX7_tireBy 2 = .ok (.iload_n 2, 1) := by decide +kernel
theorem dX7_tireBy_3 : decode cX7_tireBy 3 = .ok (.bipush 16, 2) := by decide +kernel
theorem dX7_tireBy_5 : decode cX7_tireBy 5 = .ok (.if_icmp .ge 58, 3) := by decide +kernel
theorem dX7_tireBy_8 : decode cX7_tireBy 8 = .ok (.aload_n 1, 1) := by decide +kernel
theorem dX7_tireBy_9 : decode cX7_tireBy 9 = .ok (.getfield 127, 3) := by decide +kernel
theorem dX7_tireBy_12 : decode cX7_tireBy 12 = .ok (.iload_n 2, 1) := by decide +kernel
theorem dX7_tireBy_13 : decode cX7_tireBy 13 = .ok (.iaload, 1) := by decide +kernel
theorem dX7_tireBy_14 : decode cX7_tireBy 14 = .ok (.ifCond .le 25, 3) := by decide +kernel
theorem dX7_tireBy_17 : decode cX7_tireBy 17 = .ok (.aload_n 0, 1) := by decide +kernel
theorem dX7_tireBy_18 : decode cX7_tireBy 18 = .ok (.getfield 30, 3) := by decide +kernel
theorem dX7_tireBy_21 : decode cX7_tireBy 21 = .ok (.iload_n 2, 1) := by decide +kernel
theorem dX7_tireBy_22 : decode cX7_tireBy 22 = .ok (.bipush 9, 2) := by decide +kernel
theorem dX7_tireBy_24 : decode cX7_tireBy 24 = .ok (.aload_n 0, 1) := by decide +kernel
theorem dX7_tireBy_25 : decode cX7_tireBy 25 = .ok (.getfield 30, 3) := by decide +kernel
theorem dX7_tireBy_28 : decode cX7_tireBy 28 = .ok (.iload_n 2, 1) := by decide +kernel
theorem dX7_tireBy_29 : decode cX7_tireBy 29 = .ok (.iaload, 1) := by decide +kernel
theorem dX7_tireBy_30 : decode cX7_tireBy 30 = .ok (.iconst 1, 1) := by decide +kernel
theorem dX7_tireBy_31 : decode cX7_tireBy 31 = .ok (.iadd, 1) := by decide +kernel
theorem dX7_tireBy_32 : decode cX7_tireBy 32 = .ok (.invokestatic 264, 3) := by decide +kernel
theorem dX7_tireBy_35 : decode cX7_tireBy 35 = .ok (.iastore, 1) := by decide +kernel
theorem dX7_tireBy_36 : decode cX7_tireBy 36 = .ok (.goto 21, 3) := by decide +kernel
theorem dX7_tireBy_39 : decode cX7_tireBy 39 = .ok (.aload_n 0, 1) := by decide +kernel
theorem dX7_tireBy_40 : decode cX7_tireBy 40 = .ok (.getfield 30, 3) := by decide +kernel
theorem dX7_tireBy_43 : decode cX7_tireBy 43 = .ok (.iload_n 2, 1) := by decide +kernel
theorem dX7_tireBy_44 : decode cX7_tireBy 44 = .ok (.iconst 0, 1) := by decide +kernel
theorem dX7_tireBy_45 : decode cX7_tireBy 45 = .ok (.aload_n 0, 1) := by decide +kernel
theorem dX7_tireBy_46 : decode cX7_tireBy 46 = .ok (.getfield 30, 3) := by decide +kernel
theorem dX7_tireBy_49 : decode cX7_tireBy 49 = .ok (.iload_n 2, 1) := by decide +kernel
theorem dX7_tireBy_50 : decode cX7_tireBy 50 = .ok (.iaload, 1) := by decide +kernel
theorem dX7_tireBy_51 : decode cX7_tireBy 51 = .ok (.iconst 1, 1) := by decide +kernel
theorem dX7_tireBy_52 : decode cX7_tireBy 52 = .ok (.isub, 1) := by decide +kernel
theorem dX7_tireBy_53 : decode cX7_tireBy 53 = .ok (.invokestatic 269, 3) := by decide +kernel
theorem dX7_tireBy_56 : decode cX7_tireBy 56 = .ok (.iastore, 1) := by decide +kernel
theorem dX7_tireBy_57 : decode cX7_tireBy 57 = .ok (.iinc 2 1, 3) := by decide +kernel
theorem dX7_tireBy_60 : decode cX7_tireBy 60 = .ok (.goto (-58), 3) := by decide +kernel
theorem dX7_tireBy_63 : decode cX7_tireBy 63 = .ok (.return_, 1) := by decide +kernel
theorem dX7_learn_0 : decode cX7_learn 0 = .ok (.aload_n 0, 1) := by decide +kernel
theorem dX7_learn_1 : decode cX7_learn 1 = .ok (.sipush 999, 3) := by decide +kernel
theorem dX7_learn_4 : decode cX7_learn 4 = .ok (.aload_n 0, 1) := by decide +kernel
theorem dX7_learn_5 : decode cX7_learn 5 = .ok (.getfield 197, 3) := by decide +kernel
theorem dX7_learn_8 : decode cX7_learn 8 = .ok (.iload_n 1, 1) := by decide +kernel
theorem dX7_learn_9 : decode cX7_learn 9 = .ok (.iadd, 1) := by decide +kernel
theorem dX7_learn_10 : decode cX7_learn 10 = .ok (.invokestatic 264, 3) := by decide +kernel
theorem dX7_learn_13 : decode cX7_learn 13 = .ok (.putfield 197, 3) := by decide +kernel
theorem dX7_learn_16 : decode cX7_learn 16 = .ok (.return_, 1) := by decide +kernel
theorem dX7_feelSame_0 : decode cX7_feelSame 0 = .ok (.aload_n 0, 1) := by decide +kernel
theorem dX7_feelSame_1 : decode cX7_feelSame 1 = .ok (.iload_n 1, 1) := by decide +kernel
theorem dX7_feelSame_2 : decode cX7_feelSame 2 = .ok (.iload_n 3, 1) := by decide +kernel
theorem dX7_feelSame_3 : decode cX7_feelSame 3 = .ok (.invokevirtual 117, 3) := by decide +kernel
theorem dX7_feelSame_6 : decode cX7_feelSame 6 = .ok (.aload_n 0, 1) := by decide +kernel
theorem dX7_feelSame_7 : decode cX7_feelSame 7 = .ok (.iload_n 2, 1) := by decide +kernel
theorem dX7_feelSame_8 : decode cX7_feelSame 8 = .ok (.iload_n 3, 1) := by decide +kernel
theorem dX7_feelSame_9 : decode cX7_feelSame 9 = .ok (.invokevirtual 117, 3) := by decide +kernel
theorem dX7_feelSame_12 : decode cX7_feelSame 12 = .ok (.invokevirtual 210, 3) := by decide +kernel
theorem dX7_feelSame_15 : decode cX7_feelSame 15 = .ok (.ireturn, 1) := by decide +kernel
theorem dX7_placesAlike_0 : decode cX7_placesAlike 0 = .ok (.iconst 0, 1) := by decide +kernel
theorem dX7_placesAlike_1 : decode cX7_placesAlike 1 = .ok (.istore_n 3, 1) := by decide +kernel
theorem dX7_placesAlike_2 : decode cX7_placesAlike 2 = .ok (.iconst 0, 1) := by decide +kernel
theorem dX7_placesAlike_3 : decode cX7_placesAlike 3 = .ok (.istore 4, 2) := by decide +kernel
theorem dX7_placesAlike_5 : decode cX7_placesAlike 5 = .ok (.iload 4, 2) := by decide +kernel
theorem dX7_placesAlike_7 : decode cX7_placesAlike 7 = .ok (.bipush 26, 2) := by decide +kernel
theorem dX7_placesAlike_9 : decode cX7_placesAlike 9 = .ok (.if_icmp .ge 27, 3) := by decide +kernel
theorem dX7_placesAlike_12 : decode cX7_placesAlike 12 = .ok (.aload_n 0, 1) := by decide +kernel
theorem dX7_placesAlike_13 : decode cX7_placesAlike 13 = .ok (.iload_n 1, 1) := by decide +kernel
theorem dX7_placesAlike_14 : decode cX7_placesAlike 14 = .ok (.iload_n 2, 1) := by decide +kernel
theorem dX7_placesAlike_15 : decode cX7_placesAlike 15 = .ok (.iload 4, 2) := by decide +kernel
theorem dX7_placesAlike_17 : decode cX7_placesAlike 17 = .ok (.invokevirtual 158, 3) := by decide +kernel
theorem dX7_placesAlike_20 : decode cX7_placesAlike 20 = .ok (.ifCond .eq 10, 3) := by decide +kernel
theorem dX7_placesAlike_23 : decode cX7_placesAlike 23 = .ok (.iload_n 3, 1) := by decide +kernel
theorem dX7_placesAlike_24 : decode cX7_placesAlike 24 = .ok (.iconst 1, 1) := by decide +kernel
theorem dX7_placesAlike_25 : decode cX7_placesAlike 25 = .ok (.iload 4, 2) := by decide +kernel
theorem dX7_placesAlike_27 : decode cX7_placesAlike 27 = .ok (.ishl, 1) := by decide +kernel
theorem dX7_placesAlike_28 : decode cX7_placesAlike 28 = .ok (.ior, 1) := by decide +kernel
theorem dX7_placesAlike_29 : decode cX7_placesAlike 29 = .ok (.istore_n 3, 1) := by decide +kernel
theorem dX7_placesAlike_30 : decode cX7_placesAlike 30 = .ok (.iinc 4 1, 3) := by decide +kernel
theorem dX7_placesAlike_33 : decode cX7_placesAlike 33 = .ok (.goto (-28), 3) := by decide +kernel
theorem dX7_placesAlike_36 : decode cX7_placesAlike 36 = .ok (.iload_n 3, 1) := by decide +kernel
theorem dX7_placesAlike_37 : decode cX7_placesAlike 37 = .ok (.ireturn, 1) := by decide +kernel
theorem dX7_wayApart_0 : decode cX7_wayApart 0 = .ok (.aload_n 0, 1) := by decide +kernel
theorem dX7_wayApart_1 : decode cX7_wayApart 1 = .ok (.getfield 57, 3) := by decide +kernel
theorem dX7_wayApart_4 : decode cX7_wayApart 4 = .ok (.aload_n 0, 1) := by decide +kernel
theorem dX7_wayApart_5 : decode cX7_wayApart 5 = .ok (.getfield 74, 3) := by decide +kernel
theorem dX7_wayApart_8 : decode cX7_wayApart 8 = .ok (.invokevirtual 272, 3) := by decide +kernel
theorem dX7_wayApart_11 : decode cX7_wayApart 11 = .ok (.iconst 0, 1) := by decide +kernel
theorem dX7_wayApart_12 : decode cX7_wayApart 12 = .ok (.istore 4, 2) := by decide +kernel
theorem dX7_wayApart_14 : decode cX7_wayApart 14 = .ok (.iload 4, 2) := by decide +kernel
theorem dX7_wayApart_16 : decode cX7_wayApart 16 = .ok (.bipush 26, 2) := by decide +kernel
theorem dX7_wayApart_18 : decode cX7_wayApart 18 = .ok (.if_icmp .ge 81, 3) := by decide +kernel
theorem dX7_wayApart_21 : decode cX7_wayApart 21 = .ok (.iload 4, 2) := by decide +kernel
theorem dX7_wayApart_23 : decode cX7_wayApart 23 = .ok (.aload_n 0, 1) := by decide +kernel
theorem dX7_wayApart_24 : decode cX7_wayApart 24 = .ok (.getfield 57, 3) := by decide +kernel
theorem dX7_wayApart_27 : decode cX7_wayApart 27 = .ok (.getfield 275, 3) := by decide +kernel
theorem dX7_wayApart_30 : decode cX7_wayApart 30 = .ok (.if_icmp .ge 69, 3) := by decide +kernel
theorem dX7_wayApart_33 : decode cX7_wayApart 33 = .ok (.aload_n 0, 1) := by decide +kernel
theorem dX7_wayApart_34 : decode cX7_wayApart 34 = .ok (.getfield 57, 3) := by decide +kernel
theorem dX7_wayApart_37 : decode cX7_wayApart 37 = .ok (.getfield 278, 3) := by decide +kernel
theorem dX7_wayApart_40 : decode cX7_wayApart 40 = .ok (.iload 4, 2) := by decide +kernel
theorem dX7_wayApart_42 : decode cX7_wayApart 42 = .ok (.iaload, 1) := by decide +kernel
theorem dX7_wayApart_43 : decode cX7_wayApart 43 = .ok (.istore 5, 2) := by decide +kernel
theorem dX7_wayApart_45 : decode cX7_wayApart 45 = .ok (.aload_n 0, 1) := by decide +kernel
theorem dX7_wayApart_46 : decode cX7_wayApart 46 = .ok (.iload_n 1, 1) := by decide +kernel
theorem dX7_wayApart_47 : decode cX7_wayApart 47 = .ok (.iload_n 2, 1) := by decide +kernel
theorem dX7_wayApart_48 : decode cX7_wayApart 48 = .ok (.iload 5, 2) := by decide +kernel
theorem dX7_wayApart_50 : decode cX7_wayApart 50 = .ok (.invokevirtual 158, 3) := by decide +kernel
theorem dX7_wayApart_53 : decode cX7_wayApart 53 = .ok (.ifCond .ne 31, 3) := by decide +kernel
theorem dX7_wayApart_56 : decode cX7_wayApart 56 = .ok (.iload_n 3, 1) := by decide +kernel
theorem dX7_wayApart_57 : decode cX7_wayApart 57 = .ok (.ifCond .ne 16, 3) := by decide +kernel
theorem dX7_wayApart_60 : decode cX7_wayApart 60 = .ok (.aload_n 0, 1) := by decide +kernel
theorem dX7_wayApart_61 : decode cX7_wayApart 61 = .ok (.getfield 57, 3) := by decide +kernel
theorem dX7_wayApart_64 : decode cX7_wayApart 64 = .ok (.getfield 281, 3) := by decide +kernel
theorem dX7_wayApart_67 : decode cX7_wayApart 67 = .ok (.iload 5, 2) := by decide +kernel
theorem dX7_wayApart_69 : decode cX7_wayApart 69 = .ok (.iaload, 1) := by decide +kernel
theorem dX7_wayApart_70 : decode cX7_wayApart 70 = .ok (.goto 13, 3) := by decide +kernel
theorem dX7_wayApart_73 : decode cX7_wayApart 73 = .ok (.aload_n 0, 1) := by decide +kernel
theorem dX7_wayApart_74 : decode cX7_wayApart 74 = .ok (.getfield 57, 3) := by decide +kernel
theorem dX7_wayApart_77 : decode cX7_wayApart 77 = .ok (.getfield 284, 3) := by decide +kernel
theorem dX7_wayApart_80 : decode cX7_wayApart 80 = .ok (.iload 5, 2) := by decide +kernel
theorem dX7_wayApart_82 : decode cX7_wayApart 82 = .ok (.iaload, 1) := by decide +kernel
theorem dX7_wayApart_83 : decode cX7_wayApart 83 = .ok (.ireturn, 1) := by decide +kernel
theorem dX7_wayApart_84 : decode cX7_wayApart 84 = .ok (.aload_n 0, 1) := by decide +kernel
theorem dX7_wayApart_85 : decode cX7_wayApart 85 = .ok (.getfield 57, 3) := by decide +kernel
theorem dX7_wayApart_88 : decode cX7_wayApart 88 = .ok (.iload 5, 2) := by decide +kernel
theorem dX7_wayApart_90 : decode cX7_wayApart 90 = .ok (.invokevirtual 287, 3) := by decide +kernel
theorem dX7_wayApart_93 : decode cX7_wayApart 93 = .ok (.iinc 4 1, 3) := by decide +kernel
theorem dX7_wayApart_96 : decode cX7_wayApart 96 = .ok (.goto (-82), 3) := by decide +kernel
theorem dX7_wayApart_99 : decode cX7_wayApart 99 = .ok (.bipush (-4), 2) := by decide +kernel
theorem dX7_wayApart_101 : decode cX7_wayApart 101 = .ok (.ireturn, 1) := by decide +kernel
theorem dX7_likeHere_0 : decode cX7_likeHere 0 = .ok (.aload_n 0, 1) := by decide +kernel
theorem dX7_likeHere_1 : decode cX7_likeHere 1 = .ok (.getfield 50, 3) := by decide +kernel
theorem dX7_likeHere_4 : decode cX7_likeHere 4 = .ok (.iload_n 1, 1) := by decide +kernel
theorem dX7_likeHere_5 : decode cX7_likeHere 5 = .ok (.invokevirtual 290, 3) := by decide +kernel
theorem dX7_likeHere_8 : decode cX7_likeHere 8 = .ok (.ifCond .ne 52, 3) := by decide +kernel
theorem dX7_likeHere_11 : decode cX7_likeHere 11 = .ok (.iconst 0, 1) := by decide +kernel
theorem dX7_likeHere_12 : decode cX7_likeHere 12 = .ok (.istore_n 3, 1) := by decide +kernel
theorem dX7_likeHere_13 : decode cX7_likeHere 13 = .ok (.iload_n 3, 1) := by decide +kernel
theorem dX7_likeHere_14 : decode cX7_likeHere 14 = .ok (.bipush 6, 2) := by decide +kernel
theorem dX7_likeHere_16 : decode cX7_likeHere 16 = .ok (.if_icmp .ge 32, 3) := by decide +kernel
theorem dX7_likeHere_19 : decode cX7_likeHere 19 = .ok (.aload_n 0, 1) := by decide +kernel
theorem dX7_likeHere_20 : decode cX7_likeHere 20 = .ok (.getfield 38, 3) := by decide +kernel
theorem dX7_likeHere_23 : decode cX7_likeHere 23 = .ok (.iload_n 3, 1) := by decide +kernel
theorem dX7_likeHere_24 : decode cX7_likeHere 24 = .ok (.aaload, 1) := by decide +kernel
theorem dX7_likeHere_25 : decode cX7_likeHere 25 = .ok (.aload_n 0, 1) := by decide +kernel
theorem dX7_likeHere_26 : decode cX7_likeHere 26 = .ok (.getfield 26, 3) := by decide +kernel
theorem dX7_likeHere_29 : decode cX7_likeHere 29 = .ok (.iload_n 3, 1) := by decide +kernel
theorem dX7_likeHere_30 : decode cX7_likeHere 30 = .ok (.iload_n 1, 1) := by decide +kernel
theorem dX7_likeHere_31 : decode cX7_likeHere 31 = .ok (.aload_n 0, 1) := by decide +kernel
theorem dX7_likeHere_32 : decode cX7_likeHere 32 = .ok (.getfield 10, 3) := by decide +kernel
theorem dX7_likeHere_35 : decode cX7_likeHere 35 = .ok (.aload_n 0, 1) := by decide +kernel
theorem dX7_likeHere_36 : decode cX7_likeHere 36 = .ok (.getfield 30, 3) := by decide +kernel
theorem dX7_likeHere_39 : decode cX7_likeHere 39 = .ok (.invokevirtual 234, 3) := by decide +kernel
theorem dX7_likeHere_42 : decode cX7_likeHere 42 = .ok (.iinc 3 1, 3) := by decide +kernel
theorem dX7_likeHere_45 : decode cX7_likeHere 45 = .ok (.goto (-32), 3) := by decide +kernel
theorem dX7_likeHere_48 : decode cX7_likeHere 48 = .ok (.aload_n 0, 1) := by decide +kernel
theorem dX7_likeHere_49 : decode cX7_likeHere 49 = .ok (.getfield 50, 3) := by decide +kernel
theorem dX7_likeHere_52 : decode cX7_likeHere 52 = .ok (.iload_n 1, 1) := by decide +kernel
theorem dX7_likeHere_53 : decode cX7_likeHere 53 = .ok (.aload_n 0, 1) := by decide +kernel
theorem dX7_likeHere_54 : decode cX7_likeHere 54 = .ok (.getfield 38, 3) := by decide +kernel
theorem dX7_likeHere_57 : decode cX7_likeHere 57 = .ok (.invokevirtual 293, 3) := by decide +kernel
theorem dX7_likeHere_60 : decode cX7_likeHere 60 = .ok (.aload_n 0, 1) := by decide +kernel
theorem dX7_likeHere_61 : decode cX7_likeHere 61 = .ok (.getfield 50, 3) := by decide +kernel
theorem dX7_likeHere_64 : decode cX7_likeHere 64 = .ok (.getfield 297, 3) := by decide +kernel
theorem dX7_likeHere_67 : decode cX7_likeHere 67 = .ok (.iload_n 1, 1) := by decide +kernel
theorem dX7_likeHere_68 : decode cX7_likeHere 68 = .ok (.bipush 6, 2) := by decide +kernel
theorem dX7_likeHere_70 : decode cX7_likeHere 70 = .ok (.imul, 1) := by decide +kernel
theorem dX7_likeHere_71 : decode cX7_likeHere 71 = .ok (.iload_n 2, 1) := by decide +kernel
theorem dX7_likeHere_72 : decode cX7_likeHere 72 = .ok (.iadd, 1) := by decide +kernel
theorem dX7_likeHere_73 : decode cX7_likeHere 73 = .ok (.iaload, 1) := by decide +kernel
theorem dX7_likeHere_74 : decode cX7_likeHere 74 = .ok (.ireturn, 1) := by decide +kernel
theorem dX7_toldFrom_0 : decode cX7_toldFrom 0 = .ok (.iconst 0, 1) := by decide +kernel
theorem dX7_toldFrom_1 : decode cX7_toldFrom 1 = .ok (.istore 4, 2) := by decide +kernel
theorem dX7_toldFrom_3 : decode cX7_toldFrom 3 = .ok (.iload_n 1, 1) := by decide +kernel
theorem dX7_toldFrom_4 : decode cX7_toldFrom 4 = .ok (.istore 5, 2) := by decide +kernel
theorem dX7_toldFrom_6 : decode cX7_toldFrom 6 = .ok (.iconst 0, 1) := by decide +kernel
theorem dX7_toldFrom_7 : decode cX7_toldFrom 7 = .ok (.istore 6, 2) := by decide +kernel
theorem dX7_toldFrom_9 : decode cX7_toldFrom 9 = .ok (.iload 6, 2) := by decide +kernel
theorem dX7_toldFrom_11 : decode cX7_toldFrom 11 = .ok (.bipush 6, 2) := by decide +kernel
theorem dX7_toldFrom_13 : decode cX7_toldFrom 13 = .ok (.if_icmp .ge 106, 3) := by decide +kernel
theorem dX7_toldFrom_16 : decode cX7_toldFrom 16 = .ok (.iload 5, 2) := by decide +kernel
theorem dX7_toldFrom_18 : decode cX7_toldFrom 18 = .ok (.iload 6, 2) := by decide +kernel
theorem dX7_toldFrom_20 : decode cX7_toldFrom 20 = .ok (.invokestatic 133, 3) := by decide +kernel
theorem dX7_toldFrom_23 : decode cX7_toldFrom 23 = .ok (.iconst 1, 1) := by decide +kernel
theorem dX7_toldFrom_24 : decode cX7_toldFrom 24 = .ok (.if_icmp .ne 89, 3) := by decide +kernel
theorem dX7_toldFrom_27 : decode cX7_toldFrom 27 = .ok (.iload_n 1, 1) := by decide +kernel
theorem dX7_toldFrom_28 : decode cX7_toldFrom 28 = .ok (.aload_n 0, 1) := by decide +kernel
theorem dX7_toldFrom_29 : decode cX7_toldFrom 29 = .ok (.iload_n 2, 1) := by decide +kernel
theorem dX7_toldFrom_30 : decode cX7_toldFrom 30 = .ok (.iload 6, 2) := by decide +kernel
theorem dX7_toldFrom_32 : decode cX7_toldFrom 32 = .ok (.invokevirtual 183, 3) := by decide +kernel
theorem dX7_toldFrom_35 : decode cX7_toldFrom 35 = .ok (.iand, 1) := by decide +kernel
theorem dX7_toldFrom_36 : decode cX7_toldFrom 36 = .ok (.istore 7, 2) := by decide +kernel
theorem dX7_toldFrom_38 : decode cX7_toldFrom 38 = .ok (.iload 5, 2) := by decide +kernel
theorem dX7_toldFrom_40 : decode cX7_toldFrom 40 = .ok (.iload 7, 2) := by decide +kernel
theorem dX7_toldFrom_42 : decode cX7_toldFrom 42 = .ok (.iconst (-1), 1) := by decide +kernel
theorem dX7_toldFrom_43 : decode cX7_toldFrom 43 = .ok (.ixor, 1) := by decide +kernel
theorem dX7_toldFrom_44 : decode cX7_toldFrom 44 = .ok (.iand, 1) := by decide +kernel
theorem dX7_toldFrom_45 : decode cX7_toldFrom 45 = .ok (.istore 5, 2) := by decide +kernel
theorem dX7_toldFrom_47 : decode cX7_toldFrom 47 = .ok (.iload 7, 2) := by decide +kernel
theorem dX7_toldFrom_49 : decode cX7_toldFrom 49 = .ok (.invokestatic 189, 3) := by decide +kernel
theorem dX7_toldFrom_52 : decode cX7_toldFrom 52 = .ok (.istore 8, 2) := by decide +kernel
theorem dX7_toldFrom_54 : decode cX7_toldFrom 54 = .ok (.iconst 1, 1) := by decide +kernel
theorem dX7_toldFrom_55 : decode cX7_toldFrom 55 = .ok (.istore 9, 2) := by decide +kernel
theorem dX7_toldFrom_57 : decode cX7_toldFrom 57 = .ok (.iconst 0, 1) := by decide +kernel
theorem dX7_toldFrom_58 : decode cX7_toldFrom 58 = .ok (.istore 10, 2) := by decide +kernel
theorem dX7_toldFrom_60 : decode cX7_toldFrom 60 = .ok (.iload 10, 2) := by decide +kernel
theorem dX7_toldFrom_62 : decode cX7_toldFrom 62 = .ok (.bipush 6, 2) := by decide +kernel
theorem dX7_toldFrom_64 : decode cX7_toldFrom 64 = .ok (.if_icmp .ge 42, 3) := by decide +kernel
theorem dX7_toldFrom_67 : decode cX7_toldFrom 67 = .ok (.iload_n 3, 1) := by decide +kernel
theorem dX7_toldFrom_68 : decode cX7_toldFrom 68 = .ok (.ifCond .le 38, 3) := by decide +kernel
theorem dX7_toldFrom_71 : decode cX7_toldFrom 71 = .ok (.iload 9, 2) := by decide +kernel
theorem dX7_toldFrom_73 : decode cX7_toldFrom 73 = .ok (.iload 8, 2) := by decide +kernel
theorem dX7_toldFrom_75 : decode cX7_toldFrom 75 = .ok (.if_icmp .ge 31, 3) := by decide +kernel
theorem dX7_toldFrom_78 : decode cX7_toldFrom 78 = .ok (.iload 9, 2) := by decide +kernel
theorem dX7_toldFrom_80 : decode cX7_toldFrom 80 = .ok (.aload_n 0, 1) := by decide +kernel
theorem dX7_toldFrom_81 : decode cX7_toldFrom 81 = .ok (.iload 7, 2) := by decide +kernel
theorem dX7_toldFrom_83 : decode cX7_toldFrom 83 = .ok (.iload_n 2, 1) := by decide +kernel
theorem dX7_toldFrom_84 : decode cX7_toldFrom 84 = .ok (.iload 10, 2) := by decide +kernel
theorem dX7_toldFrom_86 : decode cX7_toldFrom 86 = .ok (.invokestatic 113, 3) := by decide +kernel
theorem dX7_toldFrom_89 : decode cX7_toldFrom 89 = .ok (.iload_n 3, 1) := by decide +kernel
theorem dX7_toldFrom_90 : decode cX7_toldFrom 90 = .ok (.iconst 1, 1) := by decide +kernel
theorem dX7_toldFrom_91 : decode cX7_toldFrom 91 = .ok (.isub, 1) := by decide +kernel
theorem dX7_toldFrom_92 : decode cX7_toldFrom 92 = .ok (.invokevirtual 176, 3) := by decide +kernel
theorem dX7_toldFrom_95 : decode cX7_toldFrom 95 = .ok (.invokestatic 269, 3) := by decide +kernel
theorem dX7_toldFrom_98 : decode cX7_toldFrom 98 = .ok (.istore 9, 2) := by decide +kernel
theorem dX7_toldFrom_100 : decode cX7_toldFrom 100 = .ok (.iinc 10 1, 3) := by decide +kernel
theorem dX7_toldFrom_103 : decode cX7_toldFrom 103 = .ok (.goto (-43), 3) := by decide +kernel
theorem dX7_toldFrom_106 : decode cX7_toldFrom 106 = .ok (.iload 4, 2) := by decide +kernel
theorem dX7_toldFrom_108 : decode cX7_toldFrom 108 = .ok (.iload 9, 2) := by decide +kernel
theorem dX7_toldFrom_110 : decode cX7_toldFrom 110 = .ok (.iadd, 1) := by decide +kernel
theorem dX7_toldFrom_111 : decode cX7_toldFrom 111 = .ok (.istore 4, 2) := by decide +kernel
theorem dX7_toldFrom_113 : decode cX7_toldFrom 113 = .ok (.iinc 6 1, 3) := by decide +kernel
theorem dX7_toldFrom_116 : decode cX7_toldFrom 116 = .ok (.goto (-107), 3) := by decide +kernel
theorem dX7_toldFrom_119 : decode cX7_toldFrom 119 = .ok (.iload 4, 2) := by decide +kernel
theorem dX7_toldFrom_121 : decode cX7_toldFrom 121 = .ok (.ireturn, 1) := by decide +kernel
theorem dX7_firstMove_0 : decode cX7_firstMove 0 = .ok (.iconst 0, 1) := by decide +kernel
theorem dX7_firstMove_1 : decode cX7_firstMove 1 = .ok (.istore_n 3, 1) := by decide +kernel
theorem dX7_firstMove_2 : decode cX7_firstMove 2 = .ok (.iconst 0, 1) := by decide +kernel
theorem dX7_firstMove_3 : decode cX7_firstMove 3 = .ok (.istore 4, 2) := by decide +kernel
theorem dX7_firstMove_5 : decode cX7_firstMove 5 = .ok (.iconst 0, 1) := by decide +kernel
theorem dX7_firstMove_6 : decode cX7_firstMove 6 = .ok (.istore 5, 2) := by decide +kernel
theorem dX7_firstMove_8 : decode cX7_firstMove 8 = .ok (.iload 5, 2) := by decide +kernel
theorem dX7_firstMove_10 : decode cX7_firstMove 10 = .ok (.bipush 6, 2) := by decide +kernel
theorem dX7_firstMove_12 : decode cX7_firstMove 12 = .ok (.if_icmp .ge 41, 3) := by decide +kernel
theorem dX7_firstMove_15 : decode cX7_firstMove 15 = .ok (.aload_n 0, 1) := by decide +kernel
theorem dX7_firstMove_16 : decode cX7_firstMove 16 = .ok (.iload_n 1, 1) := by decide +kernel
theorem dX7_firstMove_17 : decode cX7_firstMove 17 = .ok (.aload_n 0, 1) := by decide +kernel
theorem dX7_firstMove_18 : decode cX7_firstMove 18 = .ok (.getfield 74, 3) := by decide +kernel
theorem dX7_firstMove_21 : decode cX7_firstMove 21 = .ok (.iload 5, 2) := by decide +kernel
theorem dX7_firstMove_23 : decode cX7_firstMove 23 = .ok (.invokestatic 113, 3) := by decide +kernel
theorem dX7_firstMove_26 : decode cX7_firstMove 26 = .ok (.iload_n 2, 1) := by decide +kernel
theorem dX7_firstMove_27 : decode cX7_firstMove 27 = .ok (.iconst 1, 1) := by decide +kernel
theorem dX7_firstMove_28 : decode cX7_firstMove 28 = .ok (.isub, 1) := by decide +kernel
theorem dX7_firstMove_29 : decode cX7_firstMove 29 = .ok (.invokevirtual 176, 3) := by decide +kernel
theorem dX7_firstMove_32 : decode cX7_firstMove 32 = .ok (.istore 6, 2) := by decide +kernel
theorem dX7_firstMove_34 : decode cX7_firstMove 34 = .ok (.iload 6, 2) := by decide +kernel
theorem dX7_firstMove_36 : decode cX7_firstMove 36 = .ok (.iload_n 3, 1) := by decide +kernel
theorem dX7_firstMove_37 : decode cX7_firstMove 37 = .ok (.if_icmp .le 10, 3) := by decide +kernel
theorem dX7_firstMove_40 : decode cX7_firstMove 40 = .ok (.iload 6, 2) := by decide +kernel
theorem dX7_firstMove_42 : decode cX7_firstMove 42 = .ok (.istore_n 3, 1) := by decide +kernel
theorem dX7_firstMove_43 : decode cX7_firstMove 43 = .ok (.iload 5, 2) := by decide +kernel
theorem dX7_firstMove_45 : decode cX7_firstMove 45 = .ok (.istore 4, 2) := by decide +kernel
theorem dX7_firstMove_47 : decode cX7_firstMove 47 = .ok (.iinc 5 1, 3) := by decide +kernel
theorem dX7_firstMove_50 : decode cX7_firstMove 50 = .ok (.goto (-42), 3) := by decide +kernel
theorem dX7_firstMove_53 : decode cX7_firstMove 53 = .ok (.iload 4, 2) := by decide +kernel
theorem dX7_firstMove_55 : decode cX7_firstMove 55 = .ok (.ireturn, 1) := by decide +kernel
theorem dX7_mostLearnt_0 : decode cX7_mostLearnt 0 = .ok (.bipush 12, 2) := by decide +kernel
theorem dX7_mostLearnt_2 : decode cX7_mostLearnt 2 = .ok (.iconst 4, 1) := by decide +kernel
theorem dX7_mostLearnt_3 : decode cX7_mostLearnt 3 = .ok (.iload_n 1, 1) := by decide +kernel
theorem dX7_mostLearnt_4 : decode cX7_mostLearnt 4 = .ok (.iload_n 2, 1) := by decide +kernel
theorem dX7_mostLearnt_5 : decode cX7_mostLearnt 5 = .ok (.isub, 1) := by decide +kernel
theorem dX7_mostLearnt_6 : decode cX7_mostLearnt 6 = .ok (.imul, 1) := by decide +kernel
theorem dX7_mostLearnt_7 : decode cX7_mostLearnt 7 = .ok (.iadd, 1) := by decide +kernel
theorem dX7_mostLearnt_8 : decode cX7_mostLearnt 8 = .ok (.iload_n 2, 1) := by decide +kernel
theorem dX7_mostLearnt_9 : decode cX7_mostLearnt 9 = .ok (.isub, 1) := by decide +kernel
theorem dX7_mostLearnt_10 : decode cX7_mostLearnt 10 = .ok (.istore_n 3, 1) := by decide +kernel
theorem dX7_mostLearnt_11 : decode cX7_mostLearnt 11 = .ok (.iload_n 3, 1) := by decide +kernel
theorem dX7_mostLearnt_12 : decode cX7_mostLearnt 12 = .ok (.ifCond .ge 5, 3) := by decide +kernel
theorem dX7_mostLearnt_15 : decode cX7_mostLearnt 15 = .ok (.iconst (-1), 1) := by decide +kernel
theorem dX7_mostLearnt_16 : decode cX7_mostLearnt 16 = .ok (.ireturn, 1) := by decide +kernel
theorem dX7_mostLearnt_17 : decode cX7_mostLearnt 17 = .ok (.aload_n 0, 1) := by decide +kernel
theorem dX7_mostLearnt_18 : decode cX7_mostLearnt 18 = .ok (.getfield 10, 3) := by decide +kernel
theorem dX7_mostLearnt_21 : decode cX7_mostLearnt 21 = .ok (.getfield 107, 3) := by decide +kernel
theorem dX7_mostLearnt_24 : decode cX7_mostLearnt 24 = .ok (.bipush 7, 2) := by decide +kernel
theorem dX7_mostLearnt_26 : decode cX7_mostLearnt 26 = .ok (.iaload, 1) := by decide +kernel
theorem dX7_mostLearnt_27 : decode cX7_mostLearnt 27 = .ok (.istore 4, 2) := by decide +kernel
theorem dX7_mostLearnt_29 : decode cX7_mostLearnt 29 = .ok (.aload_n 0, 1) := by decide +kernel
theorem dX7_mostLearnt_30 : decode cX7_mostLearnt 30 = .ok (.getfield 10, 3) := by decide +kernel
theorem dX7_mostLearnt_33 : decode cX7_mostLearnt 33 = .ok (.getfield 107, 3) := by decide +kernel
theorem dX7_mostLearnt_36 : decode cX7_mostLearnt 36 = .ok (.bipush 8, 2) := by decide +kernel
theorem dX7_mostLearnt_38 : decode cX7_mostLearnt 38 = .ok (.iaload, 1) := by decide +kernel
theorem dX7_mostLearnt_39 : decode cX7_mostLearnt 39 = .ok (.istore 5, 2) := by decide +kernel
theorem dX7_mostLearnt_41 : decode cX7_mostLearnt 41 = .ok (.iload 4, 2) := by decide +kernel
theorem dX7_mostLearnt_43 : decode cX7_mostLearnt 43 = .ok (.iload 5, 2) := by decide +kernel
theorem dX7_mostLearnt_45 : decode cX7_mostLearnt 45 = .ok (.if_icmp .le 13, 3) := by decide +kernel
theorem dX7_mostLearnt_48 : decode cX7_mostLearnt 48 = .ok (.iload_n 2, 1) := by decide +kernel
theorem dX7_mostLearnt_49 : decode cX7_mostLearnt 49 = .ok (.iload_n 3, 1) := by decide +kernel
theorem dX7_mostLearnt_50 : decode cX7_mostLearnt 50 = .ok (.iconst 2, 1) := by decide +kernel
theorem dX7_mostLearnt_51 : decode cX7_mostLearnt 51 = .ok (.idiv, 1) := by decide +kernel
theorem dX7_mostLearnt_52 : decode cX7_mostLearnt 52 = .ok (.invokestatic 264, 3) := by decide +kernel
theorem dX7_mostLearnt_55 : decode cX7_mostLearnt 55 = .ok (.goto 4, 3) := by decide +kernel
theorem dX7_mostLearnt_58 : decode cX7_mostLearnt 58 = .ok (.iconst 0, 1) := by decide +kernel
theorem dX7_mostLearnt_59 : decode cX7_mostLearnt 59 = .ok (.istore 6, 2) := by decide +kernel
theorem dX7_mostLearnt_61 : decode cX7_mostLearnt 61 = .ok (.iload 6, 2) := by decide +kernel
theorem dX7_mostLearnt_63 : decode cX7_mostLearnt 63 = .ok (.iload 4, 2) := by decide +kernel
theorem dX7_mostLearnt_65 : decode cX7_mostLearnt 65 = .ok (.imul, 1) := by decide +kernel
theorem dX7_mostLearnt_66 : decode cX7_mostLearnt 66 = .ok (.iload_n 2, 1) := by decide +kernel
theorem dX7_mostLearnt_67 : decode cX7_mostLearnt 67 = .ok (.iload 6, 2) := by decide +kernel
theorem dX7_mostLearnt_69 : decode cX7_mostLearnt 69 = .ok (.isub, 1) := by decide +kernel
theorem dX7_mostLearnt_70 : decode cX7_mostLearnt 70 = .ok (.iload 5, 2) := by decide +kernel
theorem dX7_mostLearnt_72 : decode cX7_mostLearnt 72 = .ok (.imul, 1) := by decide +kernel
theorem dX7_mostLearnt_73 : decode cX7_mostLearnt 73 = .ok (.iadd, 1) := by decide +kernel
theorem dX7_mostLearnt_74 : decode cX7_mostLearnt 74 = .ok (.ireturn, 1) := by decide +kernel
theorem dX8_init_0 : decode cX8_init 0 = .ok (.aload_n 0, 1) := by decide +kernel
theorem dX8_init_1 : decode cX8_init 1 = .ok (.invokespecial 1, 3) := by decide +kernel
theorem dX8_init_4 : decode cX8_init 4 = .ok (.aload_n 0, 1) := by decide +kernel
theorem dX8_init_5 : decode cX8_init 5 = .ok (.sipush 200, 3) := by decide +kernel
theorem dX8_init_8 : decode cX8_init 8 = .ok (.newarray .int, 2) := by decide +kernel
theorem dX8_init_10 : decode cX8_init 10 = .ok (.putfield 7, 3) := by decide +kernel
theorem dX8_init_13 : decode cX8_init 13 = .ok (.aload_n 0, 1) := by decide +kernel
theorem dX8_init_14 : decode cX8_init 14 = .ok (.bipush 17, 2) := by decide +kernel
theorem dX8_init_16 : decode cX8_init 16 = .ok (.newarray .int, 2) := by decide +kernel
theorem dX8_init_18 : decode cX8_init 18 = .ok (.dup, 1) := by decide +kernel
theorem dX8_init_19 : decode cX8_init 19 = .ok (.iconst 0, 1) := by decide +kernel
theorem dX8_init_20 : decode cX8_init 20 = .ok (.iconst 0, 1) := by decide +kernel
theorem dX8_init_21 : decode cX8_init 21 = .ok (.iastore, 1) := by decide +kernel
theorem dX8_init_22 : decode cX8_init 22 = .ok (.dup, 1) := by decide +kernel
theorem dX8_init_23 : decode cX8_init 23 = .ok (.iconst 1, 1) := by decide +kernel
theorem dX8_init_24 : decode cX8_init 24 = .ok (.iconst 3, 1) := by decide +kernel
theorem dX8_init_25 : decode cX8_init 25 = .ok (.iastore, 1) := by decide +kernel
theorem dX8_init_26 : decode cX8_init 26 = .ok (.dup, 1) := by decide +kernel
theorem dX8_init_27 : decode cX8_init 27 = .ok (.iconst 2, 1) := by decide +kernel
theorem dX8_init_28 : decode cX8_init 28 = .ok (.bipush 9, 2) := by decide +kernel
theorem dX8_init_30 : decode cX8_init 30 = .ok (.iastore, 1) := by decide +kernel
theorem dX8_init_31 : decode cX8_init 31 = .ok (.dup, 1) := by decide +kernel
theorem dX8_init_32 : decode cX8_init 32 = .ok (.iconst 3, 1) := by decide +kernel
theorem dX8_init_33 : decode cX8_init 33 = .ok (.bipush 13, 2) := by decide +kernel
theorem dX8_init_35 : decode cX8_init 35 = .ok (.iastore, 1) := by decide +kernel
theorem dX8_init_36 : decode cX8_init 36 = .ok (.dup, 1) := by decide +kernel
theorem dX8_init_37 : decode cX8_init 37 = .ok (.iconst 4, 1) := by decide +kernel
theorem dX8_init_38 : decode cX8_init 38 = .ok (.bipush 17, 2) := by decide +kernel
theorem dX8_init_40 : decode cX8_init 40 = .ok (.iastore, 1) := by decide +kernel
theorem dX8_init_41 : decode cX8_init 41 = .ok (.dup, 1) := by decide +kernel
theorem dX8_init_42 : decode cX8_init 42 = .ok (.iconst 5, 1) := by decide +kernel
theorem dX8_init_43 : decode cX8_init 43 = .ok (.bipush 21, 2) := by decide +kernel
theorem dX8_init_45 : decode cX8_init 45 = .ok (.iastore, 1) := by decide +kernel
theorem dX8_init_46 : decode cX8_init 46 = .ok (.dup, 1) := by decide +kernel
theorem dX8_init_47 : decode cX8_init 47 = .ok (.bipush 6, 2) := by decide +kernel
theorem dX8_init_49 : decode cX8_init 49 = .ok (.bipush 26, 2) := by decide +kernel
theorem dX8_init_51 : decode cX8_init 51 = .ok (.iastore, 1) := by decide +kernel
theorem dX8_init_52 : decode cX8_init 52 = .ok (.dup, 1) := by decide +kernel
theorem dX8_init_53 : decode cX8_init 53 = .ok (.bipush 7, 2) := by decide +kernel
theorem dX8_init_55 : decode cX8_init 55 = .ok (.bipush 30, 2) := by decide +kernel
theorem dX8_init_57 : decode cX8_init 57 = .ok (.iastore, 1) := by decide +kernel
theorem dX8_init_58 : decode cX8_init 58 = .ok (.dup, 1) := by decide +kernel
theorem dX8_init_59 : decode cX8_init 59 = .ok (.bipush 8, 2) := by decide +kernel
theorem dX8_init_61 : decode cX8_init 61 = .ok (.bipush 33, 2) := by decide +kernel
theorem dX8_init_63 : decode cX8_init 63 = .ok (.iastore, 1) := by decide +kernel
theorem dX8_init_64 : decode cX8_init 64 = .ok (.dup, 1) := by decide +kernel
theorem dX8_init_65 : decode cX8_init 65 = .ok (.bipush 9, 2) := by decide +kernel
theorem dX8_init_67 : decode cX8_init 67 = .ok (.bipush 36, 2) := by decide +kernel
theorem dX8_init_69 : decode cX8_init 69 = .ok (.iastore, 1) := by decide +kernel
theorem dX8_init_70 : decode cX8_init 70 = .ok (.dup, 1) := by decide +kernel
theorem dX8_init_71 : decode cX8_init 71 = .ok (.bipush 10, 2) := by decide +kernel
theorem dX8_init_73 : decode cX8_init 73 = .ok (.bipush 41, 2) := by decide +kernel
theorem dX8_init_75 : decode cX8_init 75 = .ok (.iastore, 1) := by decide +kernel
theorem dX8_init_76 : decode cX8_init 76 = .ok (.dup, 1) := by decide +kernel
theorem dX8_init_77 : decode cX8_init 77 = .ok (.bipush 11, 2) := by decide +kernel
theorem dX8_init_79 : decode cX8_init 79 = .ok (.bipush 46, 2) := by decide +kernel
theorem dX8_init_81 : decode cX8_init 81 = .ok (.iastore, 1) := by decide +kernel
theorem dX8_init_82 : decode cX8_init 82 = .ok (.dup, 1) := by decide +kernel
theorem dX8_init_83 : decode cX8_init 83 = .ok (.bipush 12, 2) := by decide +kernel
theorem dX8_init_85 : decode cX8_init 85 = .ok (.bipush 50, 2) := by decide +kernel
theorem dX8_init_87 : decode cX8_init 87 = .ok (.iastore, 1) := by decide +kernel
theorem dX8_init_88 : decode cX8_init 88 = .ok (.dup, 1) := by decide +kernel
theorem dX8_init_89 : decode cX8_init 89 = .ok (.bipush 13, 2) := by decide +kernel
theorem dX8_init_91 : decode cX8_init 91 = .ok (.bipush 55, 2) := by decide +kernel
theorem dX8_init_93 : decode cX8_init 93 = .ok (.iastore, 1) := by decide +kernel
theorem dX8_init_94 : decode cX8_init 94 = .ok (.dup, 1) := by decide +kernel
theorem dX8_init_95 : decode cX8_init 95 = .ok (.bipush 14, 2) := by decide +kernel
theorem dX8_init_97 : decode cX8_init 97 = .ok (.bipush 60, 2) := by decide +kernel
theorem dX8_init_99 : decode cX8_init 99 = .ok (.iastore, 1) := by decide +kernel
theorem dX8_init_100 : decode cX8_init 100 = .ok (.dup, 1) := by decide +kernel
theorem dX8_init_101 : decode cX8_init 101 = .ok (.bipush 15, 2) := by decide +kernel
theorem dX8_init_103 : decode cX8_init 103 = .ok (.bipush 64, 2) := by decide +kernel
theorem dX8_init_105 : decode cX8_init 105 = .ok (.iastore, 1) := by decide +kernel
theorem dX8_init_106 : decode cX8_init 106 = .ok (.dup, 1) := by decide +kernel
theorem dX8_init_107 : decode cX8_init 107 = .ok (.bipush 16, 2) := by decide +kernel
theorem dX8_init_109 : decode cX8_init 109 = .ok (.bipush 69, 2) := by decide +kernel
theorem dX8_init_111 : decode cX8_init 111 = .ok (.iastore, 1) := by decide +kernel
theorem dX8_init_112 : decode cX8_init 112 = .ok (.putfield 13, 3) := by decide +kernel
theorem dX8_init_115 : decode cX8_init 115 = .ok (.aload_n 0, 1) := by decide +kernel
theorem dX8_init_116 : decode cX8_init 116 = .ok (.bipush 69, 2) := by decide +kernel
theorem dX8_init_118 : decode cX8_init 118 = .ok (.newarray .int, 2) := by decide +kernel
theorem dX8_init_120 : decode cX8_init 120 = .ok (.dup, 1) := by decide +kernel
theorem dX8_init_121 : decode cX8_init 121 = .ok (.iconst 0, 1) := by decide +kernel
theorem dX8_init_122 : decode cX8_init 122 = .ok (.bipush 119, 2) := by decide +kernel
theorem dX8_init_124 : decode cX8_init 124 = .ok (.iastore, 1) := by decide +kernel
theorem dX8_init_125 : decode cX8_init 125 = .ok (.dup, 1) := by decide +kernel
theorem dX8_init_126 : decode cX8_init 126 = .ok (.iconst 1, 1) := by decide +kernel
theorem dX8_init_127 : decode cX8_init 127 = .ok (.bipush 97, 2) := by decide +kernel
theorem dX8_init_129 : decode cX8_init 129 = .ok (.iastore, 1) := by decide +kernel
theorem dX8_init_130 : decode cX8_init 130 = .ok (.dup, 1) := by decide +kernel
theorem dX8_init_131 : decode cX8_init 131 = .ok (.iconst 2, 1) := by decide +kernel
theorem dX8_init_132 : decode cX8_init 132 = .ok (.bipush 121, 2) := by decide +kernel
theorem dX8_init_134 : decode cX8_init 134 = .ok (.iastore, 1) := by decide +kernel
theorem dX8_init_135 : decode cX8_init 135 = .ok (.dup, 1) := by decide +kernel
theorem dX8_init_136 : decode cX8_init 136 = .ok (.iconst 3, 1) := by decide +kernel
theorem dX8_init_137 : decode cX8_init 137 = .ok (.bipush 115, 2) := by decide +kernel
theorem dX8_init_139 : decode cX8_init 139 = .ok (.iastore, 1) := by decide +kernel
theorem dX8_init_140 : decode cX8_init 140 = .ok (.dup, 1) := by decide +kernel
theorem dX8_init_141 : decode cX8_init 141 = .ok (.iconst 4, 1) := by decide +kernel
theorem dX8_init_142 : decode cX8_init 142 = .ok (.bipush 112, 2) := by decide +kernel
theorem dX8_init_144 : decode cX8_init 144 = .ok (.iastore, 1) := by decide +kernel
theorem dX8_init_145 : decode cX8_init 145 = .ok (.dup, 1) := by decide +kernel
theorem dX8_init_146 : decode cX8_init 146 = .ok (.iconst 5, 1) := by decide +kernel
theorem dX8_init_147 : decode cX8_init 147 = .ok (.bipush 114, 2) := by decide +kernel
theorem dX8_init_149 : decode cX8_init 149 = .ok (.iastore, 1) := by decide +kernel
theorem dX8_init_150 : decode cX8_init 150 = .ok (.dup, 1) := by decide +kernel
theorem dX8_init_151 : decode cX8_init 151 = .ok (.bipush 6, 2) := by decide +kernel
theorem dX8_init_153 : decode cX8_init 153 = .ok (.bipush 101, 2) := by decide +kernel
theorem dX8_init_155 : decode cX8_init 155 = .ok (.iastore, 1) := by decide +kernel
theorem dX8_init_156 : decode cX8_init 156 = .ok (.dup, 1) := by decide +kernel
theorem dX8_init_157 : decode cX8_init 157 = .ok (.bipush 7, 2) := by decide +kernel
theorem dX8_init_159 : decode cX8_init 159 = .ok (.bipush 97, 2) := by decide +kernel
theorem dX8_init_161 : decode cX8_init 161 = .ok (.iastore, 1) := by decide +kernel
theorem dX8_init_162 : decode cX8_init 162 = .ok (.dup, 1) := by decide +kernel
theorem dX8_init_163 : decode cX8_init 163 = .ok (.bipush 8, 2) := by decide +kernel
theorem dX8_init_165 : decode cX8_init 165 = .ok (.bipush 100, 2) := by decide +kernel
theorem dX8_init_167 : decode cX8_init 167 = .ok (.iastore, 1) := by decide +kernel
theorem dX8_init_168 : decode cX8_init 168 = .ok (.dup, 1) := by decide +kernel
theorem dX8_init_169 : decode cX8_init 169 = .ok (.bipush 9, 2) := by decide +kernel
theorem dX8_init_171 : decode cX8_init 171 = .ok (.bipush 108, 2) := by decide +kernel
theorem dX8_init_173 : decode cX8_init 173 = .ok (.iastore, 1) := by decide +kernel
theorem dX8_init_174 : decode cX8_init 174 = .ok (.dup, 1) := by decide +kernel
theorem dX8_init_175 : decode cX8_init 175 = .ok (.bipush 10, 2) := by decide +kernel
theorem dX8_init_177 : decode cX8_init 177 = .ok (.bipush 101, 2) := by decide +kernel
theorem dX8_init_179 : decode cX8_init 179 = .ok (.iastore, 1) := by decide +kernel
theorem dX8_init_180 : decode cX8_init 180 = .ok (.dup, 1) := by decide +kernel
theorem dX8_init_181 : decode cX8_init 181 = .ok (.bipush 11, 2) := by decide +kernel
theorem dX8_init_183 : decode cX8_init 183 = .ok (.bipush 115, 2) := by decide +kernel
theorem dX8_init_185 : decode cX8_init 185 = .ok (.iastore, 1) := by decide +kernel
theorem dX8_init_186 : decode cX8_init 186 = .ok (.dup, 1) := by decide +kernel
theorem dX8_init_187 : decode cX8_init 187 = .ok (.bipush 12, 2) := by decide +kernel
theorem dX8_init_189 : decode cX8_init 189 = .ok (.bipush 115, 2) := by decide +kernel
theorem dX8_init_191 : decode cX8_init 191 = .ok (.iastore, 1) := by decide +kernel
theorem dX8_init_192 : decode cX8_init 192 = .ok (.dup, 1) := by decide +kernel
theorem dX8_init_193 : decode cX8_init 193 = .ok (.bipush 13, 2) := by decide +kernel
theorem dX8_init_195 : decode cX8_init 195 = .ok (.bipush 116, 2) := by decide +kernel
theorem dX8_init_197 : decode cX8_init 197 = .ok (.iastore, 1) := by decide +kernel
theorem dX8_init_198 : decode cX8_init 198 = .ok (.dup, 1) := by decide +kernel
theorem dX8_init_199 : decode cX8_init 199 = .ok (.bipush 14, 2) := by decide +kernel
theorem dX8_init_201 : decode cX8_init 201 = .ok (.bipush 105, 2) := by decide +kernel
theorem dX8_init_203 : decode cX8_init 203 = .ok (.iastore, 1) := by decide +kernel
theorem dX8_init_204 : decode cX8_init 204 = .ok (.dup, 1) := by decide +kernel
theorem dX8_init_205 : decode cX8_init 205 = .ok (.bipush 15, 2) := by decide +kernel
theorem dX8_init_207 : decode cX8_init 207 = .ok (.bipush 114, 2) := by decide +kernel
theorem dX8_init_209 : decode cX8_init 209 = .ok (.iastore, 1) := by decide +kernel
theorem dX8_init_210 : decode cX8_init 210 = .ok (.dup, 1) := by decide +kernel
theorem dX8_init_211 : decode cX8_init 211 = .ok (.bipush 16, 2) := by decide +kernel
theorem dX8_init_213 : decode cX8_init 213 = .ok (.bipush 101, 2) := by decide +kernel
theorem dX8_init_215 : decode cX8_init 215 = .ok (.iastore, 1) := by decide +kernel
theorem dX8_init_216 : decode cX8_init 216 = .ok (.dup, 1) := by decide +kernel
theorem dX8_init_217 : decode cX8_init 217 = .ok (.bipush 17, 2) := by decide +kernel
theorem dX8_init_219 : decode cX8_init 219 = .ok (.bipush 109, 2) := by decide +kernel
theorem dX8_init_221 : decode cX8_init 221 = .ok (.iastore, 1) := by decide +kernel
theorem dX8_init_222 : decode cX8_init 222 = .ok (.dup, 1) := by decide +kernel
theorem dX8_init_223 : decode cX8_init 223 = .ok (.bipush 18, 2) := by decide +kernel
theorem dX8_init_225 : decode cX8_init 225 = .ok (.bipush 111, 2) := by decide +kernel
theorem dX8_init_227 : decode cX8_init 227 = .ok (.iastore, 1) := by decide +kernel
theorem dX8_init_228 : decode cX8_init 228 = .ok (.dup, 1) := by decide +kernel
theorem dX8_init_229 : decode cX8_init 229 = .ok (.bipush 19, 2) := by decide +kernel
theorem dX8_init_231 : decode cX8_init 231 = .ok (.bipush 115, 2) := by decide +kernel
theorem dX8_init_233 : decode cX8_init 233 = .ok (.iastore, 1) := by decide +kernel
theorem dX8_init_234 : decode cX8_init 234 = .ok (.dup, 1) := by decide +kernel
theorem dX8_init_235 : decode cX8_init 235 = .ok (.bipush 20, 2) := by decide +kernel
theorem dX8_init_237 : decode cX8_init 237 = .ok (.bipush 116, 2) := by decide +kernel
theorem dX8_init_239 : decode cX8_init 239 = .ok (.iastore, 1) := by decide +kernel
theorem dX8_init_240 : decode cX8_init 240 = .ok (.dup, 1) := by decide +kernel
theorem dX8_init_241 : decode cX8_init 241 = .ok (.bipush 21, 2) := by decide +kernel
theorem dX8_init_243 : decode cX8_init 243 = .ok (.bipush 114, 2) := by decide +kernel
theorem dX8_init_245 : decode cX8_init 245 = .ok (.iastore, 1) := by decide +kernel
theorem dX8_init_246 : decode cX8_init 246 = .ok (.dup, 1) := by decide +kernel
theorem dX8_init_247 : decode cX8_init 247 = .ok (.bipush 22, 2) := by decide +kernel
theorem dX8_init_249 : decode cX8_init 249 = .ok (.bipush 111, 2) := by decide +kernel
theorem dX8_init_251 : decode cX8_init 251 = .ok (.iastore, 1) := by decide +kernel
theorem dX8_init_252 : decode cX8_init 252 = .ok (.dup, 1) := by decide +kernel
theorem dX8_init_253 : decode cX8_init 253 = .ok (.bipush 23, 2) := by decide +kernel
theorem dX8_init_255 : decode cX8_init 255 = .ok (.bipush 117, 2) := by decide +kernel
theorem dX8_init_257 : decode cX8_init 257 = .ok (.iastore, 1) := by decide +kernel
theorem dX8_init_258 : decode cX8_init 258 = .ok (.dup, 1) := by decide +kernel
theorem dX8_init_259 : decode cX8_init 259 = .ok (.bipush 24, 2) := by decide +kernel
theorem dX8_init_261 : decode cX8_init 261 = .ok (.bipush 110, 2) := by decide +kernel
theorem dX8_init_263 : decode cX8_init 263 = .ok (.iastore, 1) := by decide +kernel
theorem dX8_init_264 : decode cX8_init 264 = .ok (.dup, 1) := by decide +kernel
theorem dX8_init_265 : decode cX8_init 265 = .ok (.bipush 25, 2) := by decide +kernel
theorem dX8_init_267 : decode cX8_init 267 = .ok (.bipush 100, 2) := by decide +kernel
theorem dX8_init_269 : decode cX8_init 269 = .ok (.iastore, 1) := by decide +kernel
theorem dX8_init_270 : decode cX8_init 270 = .ok (.dup, 1) := by decide +kernel
theorem dX8_init_271 : decode cX8_init 271 = .ok (.bipush 26, 2) := by decide +kernel
theorem dX8_init_273 : decode cX8_init 273 = .ok (.bipush 109, 2) := by decide +kernel
theorem dX8_init_275 : decode cX8_init 275 = .ok (.iastore, 1) := by decide +kernel
theorem dX8_init_276 : decode cX8_init 276 = .ok (.dup, 1) := by decide +kernel
theorem dX8_init_277 : decode cX8_init 277 = .ok (.bipush 27, 2) := by decide +kernel
theorem dX8_init_279 : decode cX8_init 279 = .ok (.bipush 97, 2) := by decide +kernel
theorem dX8_init_281 : decode cX8_init 281 = .ok (.iastore, 1) := by decide +kernel
theorem dX8_init_282 : decode cX8_init 282 = .ok (.dup, 1) := by decide +kernel
theorem dX8_init_283 : decode cX8_init 283 = .ok (.bipush 28, 2) := by decide +kernel
theorem dX8_init_285 : decode cX8_init 285 = .ok (.bipush 115, 2) := by decide +kernel
theorem dX8_init_287 : decode cX8_init 287 = .ok (.iastore, 1) := by decide +kernel
theorem dX8_init_288 : decode cX8_init 288 = .ok (.dup, 1) := by decide +kernel
theorem dX8_init_289 : decode cX8_init 289 = .ok (.bipush 29, 2) := by decide +kernel
theorem dX8_init_291 : decode cX8_init 291 = .ok (.bipush 107, 2) := by decide +kernel
theorem dX8_init_293 : decode cX8_init 293 = .ok (.iastore, 1) := by decide +kernel
theorem dX8_init_294 : decode cX8_init 294 = .ok (.dup, 1) := by decide +kernel
theorem dX8_init_295 : decode cX8_init 295 = .ok (.bipush 30, 2) := by decide +kernel
theorem dX8_init_297 : decode cX8_init 297 = .ok (.bipush 111, 2) := by decide +kernel
theorem dX8_init_299 : decode cX8_init 299 = .ok (.iastore, 1) := by decide +kernel
theorem dX8_init_300 : decode cX8_init 300 = .ok (.dup, 1) := by decide +kernel
theorem dX8_init_301 : decode cX8_init 301 = .ok (.bipush 31, 2) := by decide +kernel
theorem dX8_init_303 : decode cX8_init 303 = .ok (.bipush 119, 2) := by decide +kernel
theorem dX8_init_305 : decode cX8_init 305 = .ok (.iastore, 1) := by decide +kernel
theorem dX8_init_306 : decode cX8_init 306 = .ok (.dup, 1) := by decide +kernel
theorem dX8_init_307 : decode cX8_init 307 = .ok (.bipush 32, 2) := by decide +kernel
theorem dX8_init_309 : decode cX8_init 309 = .ok (.bipush 110, 2) := by decide +kernel
theorem dX8_init_311 : decode cX8_init 311 = .ok (.iastore, 1) := by decide +kernel
theorem dX8_init_312 : decode cX8_init 312 = .ok (.dup, 1) := by decide +kernel
theorem dX8_init_313 : decode cX8_init 313 = .ok (.bipush 33, 2) := by decide +kernel
theorem dX8_init_315 : decode cX8_init 315 = .ok (.bipush 108, 2) := by decide +kernel
theorem dX8_init_317 : decode cX8_init 317 = .ok (.iastore, 1) := by decide +kernel
theorem dX8_init_318 : decode cX8_init 318 = .ok (.dup, 1) := by decide +kernel
theorem dX8_init_319 : decode cX8_init 319 = .ok (.bipush 34, 2) := by decide +kernel
theorem dX8_init_321 : decode cX8_init 321 = .ok (.bipush 101, 2) := by decide +kernel
theorem dX8_init_323 : decode cX8_init 323 = .ok (.iastore, 1) := by decide +kernel
theorem dX8_init_324 : decode cX8_init 324 = .ok (.dup, 1) := by decide +kernel
theorem dX8_init_325 : decode cX8_init 325 = .ok (.bipush 35, 2) := by decide +kernel
theorem dX8_init_327 : decode cX8_init 327 = .ok (.bipush 100, 2) := by decide +kernel
theorem dX8_init_329 : decode cX8_init 329 = .ok (.iastore, 1) := by decide +kernel
theorem dX8_init_330 : decode cX8_init 330 = .ok (.dup, 1) := by decide +kernel
theorem dX8_init_331 : decode cX8_init 331 = .ok (.bipush 36, 2) := by decide +kernel
theorem dX8_init_333 : decode cX8_init 333 = .ok (.bipush 115, 2) := by decide +kernel
theorem dX8_init_335 : decode cX8_init 335 = .ok (.iastore, 1) := by decide +kernel
theorem dX8_init_336 : decode cX8_init 336 = .ok (.dup, 1) := by decide +kernel
theorem dX8_init_337 : decode cX8_init 337 = .ok (.bipush 37, 2) := by decide +kernel
theorem dX8_init_339 : decode cX8_init 339 = .ok (.bipush 116, 2) := by decide +kernel
theorem dX8_init_341 : decode cX8_init 341 = .ok (.iastore, 1) := by decide +kernel
theorem dX8_init_342 : decode cX8_init 342 = .ok (.dup, 1) := by decide +kernel
theorem dX8_init_343 : decode cX8_init 343 = .ok (.bipush 38, 2) := by decide +kernel
theorem dX8_init_345 : decode cX8_init 345 = .ok (.bipush 105, 2) := by decide +kernel
theorem dX8_init_347 : decode cX8_init 347 = .ok (.iastore, 1) := by decide +kernel
theorem dX8_init_348 : decode cX8_init 348 = .ok (.dup, 1) := by decide +kernel
theorem dX8_init_349 : decode cX8_init 349 = .ok (.bipush 39, 2) := by decide +kernel
theorem dX8_init_351 : decode cX8_init 351 = .ok (.bipush 108, 2) := by decide +kernel
theorem dX8_init_353 : decode cX8_init 353 = .ok (.iastore, 1) := by decide +kernel
theorem dX8_init_354 : decode cX8_init 354 = .ok (.dup, 1) := by decide +kernel
theorem dX8_init_355 : decode cX8_init 355 = .ok (.bipush 40, 2) := by decide +kernel
theorem dX8_init_357 : decode cX8_init 357 = .ok (.bipush 108, 2) := by decide +kernel
theorem dX8_init_359 : decode cX8_init 359 = .ok (.iastore, 1) := by decide +kernel
theorem dX8_init_360 : decode cX8_init 360 = .ok (.dup, 1) := by decide +kernel
theorem dX8_init_361 : decode cX8_init 361 = .ok (.bipush 41, 2) := by decide +kernel
theorem dX8_init_363 : decode cX8_init 363 = .ok (.bipush 116, 2) := by decide +kernel
theorem dX8_init_365 : decode cX8_init 365 = .ok (.iastore, 1) := by decide +kernel
theorem dX8_init_366 : decode cX8_init 366 = .ok (.dup, 1) := by decide +kernel
theorem dX8_init_367 : decode cX8_init 367 = .ok (.bipush 42, 2) := by decide +kernel
theorem dX8_init_369 : decode cX8_init 369 = .ok (.bipush 104, 2) := by decide +kernel
theorem dX8_init_371 : decode cX8_init 371 = .ok (.iastore, 1) := by decide +kernel
theorem dX8_init_372 : decode cX8_init 372 = .ok (.dup, 1) := by decide +kernel
theorem dX8_init_373 : decode cX8_init 373 = .ok (.bipush 43, 2) := by decide +kernel
theorem dX8_init_375 : decode cX8_init 375 = .ok (.bipush 101, 2) := by decide +kernel
theorem dX8_init_377 : decode cX8_init 377 = .ok (.iastore, 1) := by decide +kernel
theorem dX8_init_378 : decode cX8_init 378 = .ok (.dup, 1) := by decide +kernel
theorem dX8_init_379 : decode cX8_init 379 = .ok (.bipush 44, 2) := by decide +kernel
theorem dX8_init_381 : decode cX8_init 381 = .ok (.bipush 114, 2) := by decide +kernel
theorem dX8_init_383 : decode cX8_init 383 = .ok (.iastore, 1) := by decide +kernel
theorem dX8_init_384 : decode cX8_init 384 = .ok (.dup, 1) := by decide +kernel
theorem dX8_init_385 : decode cX8_init 385 = .ok (.bipush 45, 2) := by decide +kernel
theorem dX8_init_387 : decode cX8_init 387 = .ok (.bipush 101, 2) := by decide +kernel
theorem dX8_init_389 : decode cX8_init 389 = .ok (.iastore, 1) := by decide +kernel
theorem dX8_init_390 : decode cX8_init 390 = .ok (.dup, 1) := by decide +kernel
theorem dX8_init_391 : decode cX8_init 391 = .ok (.bipush 46, 2) := by decide +kernel
theorem dX8_init_393 : decode cX8_init 393 = .ok (.bipush 100, 2) := by decide +kernel
theorem dX8_init_395 : decode cX8_init 395 = .ok (.iastore, 1) := by decide +kernel
theorem dX8_init_396 : decode cX8_init 396 = .ok (.dup, 1) := by decide +kernel
theorem dX8_init_397 : decode cX8_init 397 = .ok (.bipush 47, 2) := by decide +kernel
theorem dX8_init_399 : decode cX8_init 399 = .ok (.bipush 101, 2) := by decide +kernel
theorem dX8_init_401 : decode cX8_init 401 = .ok (.iastore, 1) := by decide +kernel
theorem dX8_init_402 : decode cX8_init 402 = .ok (.dup, 1) := by decide +kernel
theorem dX8_init_403 : decode cX8_init 403 = .ok (.bipush 48, 2) := by decide +kernel
theorem dX8_init_405 : decode cX8_init 405 = .ok (.bipush 97, 2) := by decide +kernel
theorem dX8_init_407 : decode cX8_init 407 = .ok (.iastore, 1) := by decide +kernel
theorem dX8_init_408 : decode cX8_init 408 = .ok (.dup, 1) := by decide +kernel
theorem dX8_init_409 : decode cX8_init 409 = .ok (.bipush 49, 2) := by decide +kernel
theorem dX8_init_411 : decode cX8_init 411 = .ok (.bipush 100, 2) := by decide +kernel
theorem dX8_init_413 : decode cX8_init 413 = .ok (.iastore, 1) := by decide +kernel
theorem dX8_init_414 : decode cX8_init 414 = .ok (.dup, 1) := by decide +kernel
theorem dX8_init_415 : decode cX8_init 415 = .ok (.bipush 50, 2) := by decide +kernel
theorem dX8_init_417 : decode cX8_init 417 = .ok (.bipush 108, 2) := by decide +kernel
theorem dX8_init_419 : decode cX8_init 419 = .ok (.iastore, 1) := by decide +kernel
theorem dX8_init_420 : decode cX8_init 420 = .ok (.dup, 1) := by decide +kernel
theorem dX8_init_421 : decode cX8_init 421 = .ok (.bipush 51, 2) := by decide +kernel
theorem dX8_init_423 : decode cX8_init 423 = .ok (.bipush 101, 2) := by decide +kernel
theorem dX8_init_425 : decode cX8_init 425 = .ok (.iastore, 1) := by decide +kernel
theorem dX8_init_426 : decode cX8_init 426 = .ok (.dup, 1) := by decide +kernel
theorem dX8_init_427 : decode cX8_init 427 = .ok (.bipush 52, 2) := by decide +kernel
theorem dX8_init_429 : decode cX8_init 429 = .ok (.bipush 97, 2) := by decide +kernel
theorem dX8_init_431 : decode cX8_init 431 = .ok (.iastore, 1) := by decide +kernel
theorem dX8_init_432 : decode cX8_init 432 = .ok (.dup, 1) := by decide +kernel
theorem dX8_init_433 : decode cX8_init 433 = .ok (.bipush 53, 2) := by decide +kernel
theorem dX8_init_435 : decode cX8_init 435 = .ok (.bipush 115, 2) := by decide +kernel
theorem dX8_init_437 : decode cX8_init 437 = .ok (.iastore, 1) := by decide +kernel
theorem dX8_init_438 : decode cX8_init 438 = .ok (.dup, 1) := by decide +kernel
theorem dX8_init_439 : decode cX8_init 439 = .ok (.bipush 54, 2) := by decide +kernel
theorem dX8_init_441 : decode cX8_init 441 = .ok (.bipush 116, 2) := by decide +kernel
theorem dX8_init_443 : decode cX8_init 443 = .ok (.iastore, 1) := by decide +kernel
theorem dX8_init_444 : decode cX8_init 444 = .ok (.dup, 1) := by decide +kernel
theorem dX8_init_445 : decode cX8_init 445 = .ok (.bipush 55, 2) := by decide +kernel
theorem dX8_init_447 : decode cX8_init 447 = .ok (.bipush 112, 2) := by decide +kernel
theorem dX8_init_449 : decode cX8_init 449 = .ok (.iastore, 1) := by decide +kernel
theorem dX8_init_450 : decode cX8_init 450 = .ok (.dup, 1) := by decide +kernel
theorem dX8_init_451 : decode cX8_init 451 = .ok (.bipush 56, 2) := by decide +kernel
theorem dX8_init_453 : decode cX8_init 453 = .ok (.bipush 108, 2) := by decide +kernel
theorem dX8_init_455 : decode cX8_init 455 = .ok (.iastore, 1) := by decide +kernel
theorem dX8_init_456 : decode cX8_init 456 = .ok (.dup, 1) := by decide +kernel
theorem dX8_init_457 : decode cX8_init 457 = .ok (.bipush 57, 2) := by decide +kernel
theorem dX8_init_459 : decode cX8_init 459 = .ok (.bipush 97, 2) := by decide +kernel
theorem dX8_init_461 : decode cX8_init 461 = .ok (.iastore, 1) := by decide +kernel
theorem dX8_init_462 : decode cX8_init 462 = .ok (.dup, 1) := by decide +kernel
theorem dX8_init_463 : decode cX8_init 463 = .ok (.bipush 58, 2) := by decide +kernel
theorem dX8_init_465 : decode cX8_init 465 = .ok (.bipush 105, 2) := by decide +kernel
theorem dX8_init_467 : decode cX8_init 467 = .ok (.iastore, 1) := by decide +kernel
theorem dX8_init_468 : decode cX8_init 468 = .ok (.dup, 1) := by decide +kernel
theorem dX8_init_469 : decode cX8_init 469 = .ok (.bipush 59, 2) := by decide +kernel
theorem dX8_init_471 : decode cX8_init 471 = .ok (.bipush 110, 2) := by decide +kernel
theorem dX8_init_473 : decode cX8_init 473 = .ok (.iastore, 1) := by decide +kernel
theorem dX8_init_474 : decode cX8_init 474 = .ok (.dup, 1) := by decide +kernel
theorem dX8_init_475 : decode cX8_init 475 = .ok (.bipush 60, 2) := by decide +kernel
theorem dX8_init_477 : decode cX8_init 477 = .ok (.bipush 100, 2) := by decide +kernel
theorem dX8_init_479 : decode cX8_init 479 = .ok (.iastore, 1) := by decide +kernel
theorem dX8_init_480 : decode cX8_init 480 = .ok (.dup, 1) := by decide +kernel
theorem dX8_init_481 : decode cX8_init 481 = .ok (.bipush 61, 2) := by decide +kernel
theorem dX8_init_483 : decode cX8_init 483 = .ok (.bipush 97, 2) := by decide +kernel
theorem dX8_init_485 : decode cX8_init 485 = .ok (.iastore, 1) := by decide +kernel
theorem dX8_init_486 : decode cX8_init 486 = .ok (.dup, 1) := by decide +kernel
theorem dX8_init_487 : decode cX8_init 487 = .ok (.bipush 62, 2) := by decide +kernel
theorem dX8_init_489 : decode cX8_init 489 = .ok (.bipush 114, 2) := by decide +kernel
theorem dX8_init_491 : decode cX8_init 491 = .ok (.iastore, 1) := by decide +kernel
theorem dX8_init_492 : decode cX8_init 492 = .ok (.dup, 1) := by decide +kernel
theorem dX8_init_493 : decode cX8_init 493 = .ok (.bipush 63, 2) := by decide +kernel
theorem dX8_init_495 : decode cX8_init 495 = .ok (.bipush 107, 2) := by decide +kernel
theorem dX8_init_497 : decode cX8_init 497 = .ok (.iastore, 1) := by decide +kernel
theorem dX8_init_498 : decode cX8_init 498 = .ok (.dup, 1) := by decide +kernel
theorem dX8_init_499 : decode cX8_init 499 = .ok (.bipush 64, 2) := by decide +kernel
theorem dX8_init_501 : decode cX8_init 501 = .ok (.bipush 101, 2) := by decide +kernel
theorem dX8_init_503 : decode cX8_init 503 = .ok (.iastore, 1) := by decide +kernel
theorem dX8_init_504 : decode cX8_init 504 = .ok (.dup, 1) := by decide +kernel
theorem dX8_init_505 : decode cX8_init 505 = .ok (.bipush 65, 2) := by decide +kernel
theorem dX8_init_507 : decode cX8_init 507 = .ok (.bipush 100, 2) := by decide +kernel
theorem dX8_init_509 : decode cX8_init 509 = .ok (.iastore, 1) := by decide +kernel
theorem dX8_init_510 : decode cX8_init 510 = .ok (.dup, 1) := by decide +kernel
theorem dX8_init_511 : decode cX8_init 511 = .ok (.bipush 66, 2) := by decide +kernel
theorem dX8_init_513 : decode cX8_init 513 = .ok (.bipush 103, 2) := by decide +kernel
theorem dX8_init_515 : decode cX8_init 515 = .ok (.iastore, 1) := by decide +kernel
theorem dX8_init_516 : decode cX8_init 516 = .ok (.dup, 1) := by decide +kernel
theorem dX8_init_517 : decode cX8_init 517 = .ok (.bipush 67, 2) := by decide +kernel
theorem dX8_init_519 : decode cX8_init 519 = .ok (.bipush 101, 2) := by decide +kernel
theorem dX8_init_521 : decode cX8_init 521 = .ok (.iastore, 1) := by decide +kernel
theorem dX8_init_522 : decode cX8_init 522 = .ok (.dup, 1) := by decide +kernel
theorem dX8_init_523 : decode cX8_init 523 = .ok (.bipush 68, 2) := by decide +kernel
theorem dX8_init_525 : decode cX8_init 525 = .ok (.bipush 115, 2) := by decide +kernel
theorem dX8_init_527 : decode cX8_init 527 = .ok (.iastore, 1) := by decide +kernel
theorem dX8_init_528 : decode cX8_init 528 = .ok (.putfield 16, 3) := by decide +kernel
theorem dX8_init_531 : decode cX8_init 531 = .ok (.aload_n 0, 1) := by decide +kernel
theorem dX8_init_532 : decode cX8_init 532 = .ok (.bipush 28, 2) := by decide +kernel
theorem dX8_init_534 : decode cX8_init 534 = .ok (.newarray .int, 2) := by decide +kernel
theorem dX8_init_536 : decode cX8_init 536 = .ok (.dup, 1) := by decide +kernel
theorem dX8_init_537 : decode cX8_init 537 = .ok (.iconst 0, 1) := by decide +kernel
theorem dX8_init_538 : decode cX8_init 538 = .ok (.iconst 0, 1) := by decide +kernel
theorem dX8_init_539 : decode cX8_init 539 = .ok (.iastore, 1) := by decide +kernel
theorem dX8_init_540 : decode cX8_init 540 = .ok (.dup, 1) := by decide +kernel
theorem dX8_init_541 : decode cX8_init 541 = .ok (.iconst 1, 1) := by decide +kernel
theorem dX8_init_542 : decode cX8_init 542 = .ok (.iconst 0, 1) := by decide +kernel
theorem dX8_init_543 : decode cX8_init 543 = .ok (.iastore, 1) := by decide +kernel
theorem dX8_init_544 : decode cX8_init 544 = .ok (.dup, 1) := by decide +kernel
theorem dX8_init_545 : decode cX8_init 545 = .ok (.iconst 2, 1) := by decide +kernel
theorem dX8_init_546 : decode cX8_init 546 = .ok (.iconst 0, 1) := by decide +kernel
theorem dX8_init_547 : decode cX8_init 547 = .ok (.iastore, 1) := by decide +kernel
theorem dX8_init_548 : decode cX8_init 548 = .ok (.dup, 1) := by decide +kernel
theorem dX8_init_549 : decode cX8_init 549 = .ok (.iconst 3, 1) := by decide +kernel
theorem dX8_init_550 : decode cX8_init 550 = .ok (.iconst 0, 1) := by decide +kernel
theorem dX8_init_551 : decode cX8_init 551 = .ok (.iastore, 1) := by decide +kernel
theorem dX8_init_552 : decode cX8_init 552 = .ok (.dup, 1) := by decide +kernel
theorem dX8_init_553 : decode cX8_init 553 = .ok (.iconst 4, 1) := by decide +kernel
theorem dX8_init_554 : decode cX8_init 554 = .ok (.bipush 9, 2) := by decide +kernel
theorem dX8_init_556 : decode cX8_init 556 = .ok (.iastore, 1) := by decide +kernel
theorem dX8_init_557 : decode cX8_init 557 = .ok (.dup, 1) := by decide +kernel
theorem dX8_init_558 : decode cX8_init 558 = .ok (.iconst 5, 1) := by decide +kernel
theorem dX8_init_559 : decode cX8_init 559 = .ok (.iconst 0, 1) := by decide +kernel
theorem dX8_init_560 : decode cX8_init 560 = .ok (.iastore, 1) := by decide +kernel
theorem dX8_init_561 : decode cX8_init 561 = .ok (.dup, 1) := by decide +kernel
theorem dX8_init_562 : decode cX8_init 562 = .ok (.bipush 6, 2) := by decide +kernel
theorem dX8_init_564 : decode cX8_init 564 = .ok (.bipush 9, 2) := by decide +kernel
theorem dX8_init_566 : decode cX8_init 566 = .ok (.iastore, 1) := by decide +kernel
theorem dX8_init_567 : decode cX8_init 567 = .ok (.dup, 1) := by decide +kernel
theorem dX8_init_568 : decode cX8_init 568 = .ok (.bipush 7, 2) := by decide +kernel
theorem dX8_init_570 : decode cX8_init 570 = .ok (.bipush 8, 2) := by decide +kernel
theorem dX8_init_572 : decode cX8_init 572 = .ok (.iastore, 1) := by decide +kernel
theorem dX8_init_573 : decode cX8_init 573 = .ok (.dup, 1) := by decide +kernel
theorem dX8_init_574 : decode cX8_init 574 = .ok (.bipush 8, 2) := by decide +kernel
theorem dX8_init_576 : decode cX8_init 576 = .ok (.iconst 1, 1) := by decide +kernel
theorem dX8_init_577 : decode cX8_init 577 = .ok (.iastore, 1) := by decide +kernel
theorem dX8_init_578 : decode cX8_init 578 = .ok (.dup, 1) := by decide +kernel
theorem dX8_init_579 : decode cX8_init 579 = .ok (.bipush 9, 2) := by decide +kernel
theorem dX8_init_581 : decode cX8_init 581 = .ok (.iconst 0, 1) := by decide +kernel
theorem dX8_init_582 : decode cX8_init 582 = .ok (.iastore, 1) := by decide +kernel
theorem dX8_init_583 : decode cX8_init 583 = .ok (.dup, 1) := by decide +kernel
theorem dX8_init_584 : decode cX8_init 584 = .ok (.bipush 10, 2) := by decide +kernel
theorem dX8_init_586 : decode cX8_init 586 = .ok (.bipush 40, 2) := by decide +kernel
theorem dX8_init_588 : decode cX8_init 588 = .ok (.iastore, 1) := by decide +kernel
theorem dX8_init_589 : decode cX8_init 589 = .ok (.dup, 1) := by decide +kernel
theorem dX8_init_590 : decode cX8_init 590 = .ok (.bipush 11, 2) := by decide +kernel
theorem dX8_init_592 : decode cX8_init 592 = .ok (.iconst 0, 1) := by decide +kernel
theorem dX8_init_593 : decode cX8_init 593 = .ok (.iastore, 1) := by decide +kernel
theorem dX8_init_594 : decode cX8_init 594 = .ok (.dup, 1) := by decide +kernel
theorem dX8_init_595 : decode cX8_init 595 = .ok (.bipush 12, 2) := by decide +kernel
theorem dX8_init_597 : decode cX8_init 597 = .ok (.iconst 1, 1) := by decide +kernel
theorem dX8_init_598 : decode cX8_init 598 = .ok (.iastore, 1) := by decide +kernel
theorem dX8_init_599 : decode cX8_init 599 = .ok (.dup, 1) := by decide +kernel
theorem dX8_init_600 : decode cX8_init 600 = .ok (.bipush 13, 2) := by decide +kernel
theorem dX8_init_602 : decode cX8_init 602 = .ok (.iconst 1, 1) := by decide +kernel
theorem dX8_init_603 : decode cX8_init 603 = .ok (.iastore, 1) := by decide +kernel
theorem dX8_init_604 : decode cX8_init 604 = .ok (.dup, 1) := by decide +kernel
theorem dX8_init_605 : decode cX8_init 605 = .ok (.bipush 14, 2) := by decide +kernel
theorem dX8_init_607 : decode cX8_init 607 = .ok (.iconst 1, 1) := by decide +kernel
theorem dX8_init_608 : decode cX8_init 608 = .ok (.iastore, 1) := by decide +kernel
theorem dX8_init_609 : decode cX8_init 609 = .ok (.dup, 1) := by decide +kernel
theorem dX8_init_610 : decode cX8_init 610 = .ok (.bipush 15, 2) := by decide +kernel
theorem dX8_init_612 : decode cX8_init 612 = .ok (.iconst 1, 1) := by decide +kernel
theorem dX8_init_613 : decode cX8_init 613 = .ok (.iastore, 1) := by decide +kernel
theorem dX8_init_614 : decode cX8_init 614 = .ok (.dup, 1) := by decide +kernel
theorem dX8_init_615 : decode cX8_init 615 = .ok (.bipush 16, 2) := by decide +kernel
theorem dX8_init_617 : decode cX8_init 617 = .ok (.iconst 1, 1) := by decide +kernel
theorem dX8_init_618 : decode cX8_init 618 = .ok (.iastore, 1) := by decide +kernel
theorem dX8_init_619 : decode cX8_init 619 = .ok (.dup, 1) := by decide +kernel
theorem dX8_init_620 : decode cX8_init 620 = .ok (.bipush 17, 2) := by decide +kernel
theorem dX8_init_622 : decode cX8_init 622 = .ok (.iconst 1, 1) := by decide +kernel
theorem dX8_init_623 : decode cX8_init 623 = .ok (.iastore, 1) := by decide +kernel
theorem dX8_init_624 : decode cX8_init 624 = .ok (.dup, 1) := by decide +kernel
theorem dX8_init_625 : decode cX8_init 625 = .ok (.bipush 18, 2) := by decide +kernel
theorem dX8_init_627 : decode cX8_init 627 = .ok (.iconst 1, 1) := by decide +kernel
theorem dX8_init_628 : decode cX8_init 628 = .ok (.iastore, 1) := by decide +kernel
theorem dX8_init_629 : decode cX8_init 629 = .ok (.dup, 1) := by decide +kernel
theorem dX8_init_630 : decode cX8_init 630 = .ok (.bipush 19, 2) := by decide +kernel
theorem dX8_init_632 : decode cX8_init 632 = .ok (.iconst 1, 1) := by decide +kernel
theorem dX8_init_633 : decode cX8_init 633 = .ok (.iastore, 1) := by decide +kernel
theorem dX8_init_634 : decode cX8_init 634 = .ok (.dup, 1) := by decide +kernel
theorem dX8_init_635 : decode cX8_init 635 = .ok (.bipush 20, 2) := by decide +kernel
theorem dX8_init_637 : decode cX8_init 637 = .ok (.iconst 1, 1) := by decide +kernel
theorem dX8_init_638 : decode cX8_init 638 = .ok (.iastore, 1) := by decide +kernel
theorem dX8_init_639 : decode cX8_init 639 = .ok (.dup, 1) := by decide +kernel
theorem dX8_init_640 : decode cX8_init 640 = .ok (.bipush 21, 2) := by decide +kernel
theorem dX8_init_642 : decode cX8_init 642 = .ok (.iconst 1, 1) := by decide +kernel
theorem dX8_init_643 : decode cX8_init 643 = .ok (.iastore, 1) := by decide +kernel
theorem dX8_init_644 : decode cX8_init 644 = .ok (.dup, 1) := by decide +kernel
theorem dX8_init_645 : decode cX8_init 645 = .ok (.bipush 22, 2) := by decide +kernel
theorem dX8_init_647 : decode cX8_init 647 = .ok (.iconst 1, 1) := by decide +kernel
theorem dX8_init_648 : decode cX8_init 648 = .ok (.iastore, 1) := by decide +kernel
theorem dX8_init_649 : decode cX8_init 649 = .ok (.dup, 1) := by decide +kernel
theorem dX8_init_650 : decode cX8_init 650 = .ok (.bipush 23, 2) := by decide +kernel
theorem dX8_init_652 : decode cX8_init 652 = .ok (.iconst 1, 1) := by decide +kernel
theorem dX8_init_653 : decode cX8_init 653 = .ok (.iastore, 1) := by decide +kernel
theorem dX8_init_654 : decode cX8_init 654 = .ok (.dup, 1) := by decide +kernel
theorem dX8_init_655 : decode cX8_init 655 = .ok (.bipush 24, 2) := by decide +kernel
theorem dX8_init_657 : decode cX8_init 657 = .ok (.iconst 1, 1) := by decide +kernel
theorem dX8_init_658 : decode cX8_init 658 = .ok (.iastore, 1) := by decide +kernel
theorem dX8_init_659 : decode cX8_init 659 = .ok (.dup, 1) := by decide +kernel
theorem dX8_init_660 : decode cX8_init 660 = .ok (.bipush 25, 2) := by decide +kernel
theorem dX8_init_662 : decode cX8_init 662 = .ok (.iconst 1, 1) := by decide +kernel
theorem dX8_init_663 : decode cX8_init 663 = .ok (.iastore, 1) := by decide +kernel
theorem dX8_init_664 : decode cX8_init 664 = .ok (.dup, 1) := by decide +kernel
theorem dX8_init_665 : decode cX8_init 665 = .ok (.bipush 26, 2) := by decide +kernel
theorem dX8_init_667 : decode cX8_init 667 = .ok (.iconst 1, 1) := by decide +kernel
theorem dX8_init_668 : decode cX8_init 668 = .ok (.iastore, 1) := by decide +kernel
theorem dX8_init_669 : decode cX8_init 669 = .ok (.dup, 1) := by decide +kernel
theorem dX8_init_670 : decode cX8_init 670 = .ok (.bipush 27, 2) := by decide +kernel
theorem dX8_init_672 : decode cX8_init 672 = .ok (.iconst 1, 1) := by decide +kernel
theorem dX8_init_673 : decode cX8_init 673 = .ok (.iastore, 1) := by decide +kernel
theorem dX8_init_674 : decode cX8_init 674 = .ok (.putfield 19, 3) := by decide +kernel
theorem dX8_init_677 : decode cX8_init 677 = .ok (.aload_n 0, 1) := by decide +kernel
theorem dX8_init_678 : decode cX8_init 678 = .ok (.bipush 13, 2) := by decide +kernel
theorem dX8_init_680 : decode cX8_init 680 = .ok (.newarray .int, 2) := by decide +kernel
theorem dX8_init_682 : decode cX8_init 682 = .ok (.dup, 1) := by decide +kernel
theorem dX8_init_683 : decode cX8_init 683 = .ok (.iconst 0, 1) := by decide +kernel
theorem dX8_init_684 : decode cX8_init 684 = .ok (.iconst 0, 1) := by decide +kernel
theorem dX8_init_685 : decode cX8_init 685 = .ok (.iastore, 1) := by decide +kernel
theorem dX8_init_686 : decode cX8_init 686 = .ok (.dup, 1) := by decide +kernel
theorem dX8_init_687 : decode cX8_init 687 = .ok (.iconst 1, 1) := by decide +kernel
theorem dX8_init_688 : decode cX8_init 688 = .ok (.iconst 0, 1) := by decide +kernel
theorem dX8_init_689 : decode cX8_init 689 = .ok (.iastore, 1) := by decide +kernel
theorem dX8_init_690 : decode cX8_init 690 = .ok (.dup, 1) := by decide +kernel
theorem dX8_init_691 : decode cX8_init 691 = .ok (.iconst 2, 1) := by decide +kernel
theorem dX8_init_692 : decode cX8_init 692 = .ok (.iconst 0, 1) := by decide +kernel
theorem dX8_init_693 : decode cX8_init 693 = .ok (.iastore, 1) := by decide +kernel
theorem dX8_init_694 : decode cX8_init 694 = .ok (.dup, 1) := by decide +kernel
theorem dX8_init_695 : decode cX8_init 695 = .ok (.iconst 3, 1) := by decide +kernel
theorem dX8_init_696 : decode cX8_init 696 = .ok (.iconst 0, 1) := by decide +kernel
theorem dX8_init_697 : decode cX8_init 697 = .ok (.iastore, 1) := by decide +kernel
theorem dX8_init_698 : decode cX8_init 698 = .ok (.dup, 1) := by decide +kernel
theorem dX8_init_699 : decode cX8_init 699 = .ok (.iconst 4, 1) := by decide +kernel
theorem dX8_init_700 : decode cX8_init 700 = .ok (.iconst 1, 1) := by decide +kernel
theorem dX8_init_701 : decode cX8_init 701 = .ok (.iastore, 1) := by decide +kernel
theorem dX8_init_702 : decode cX8_init 702 = .ok (.dup, 1) := by decide +kernel
theorem dX8_init_703 : decode cX8_init 703 = .ok (.iconst 5, 1) := by decide +kernel
theorem dX8_init_704 : decode cX8_init 704 = .ok (.iconst 0, 1) := by decide +kernel
theorem dX8_init_705 : decode cX8_init 705 = .ok (.iastore, 1) := by decide +kernel
theorem dX8_init_706 : decode cX8_init 706 = .ok (.dup, 1) := by decide +kernel
theorem dX8_init_707 : decode cX8_init 707 = .ok (.bipush 6, 2) := by decide +kernel
theorem dX8_init_709 : decode cX8_init 709 = .ok (.iconst 1, 1) := by decide +kernel
theorem dX8_init_710 : decode cX8_init 710 = .ok (.iastore, 1) := by decide +kernel
theorem dX8_init_711 : decode cX8_init 711 = .ok (.dup, 1) := by decide +kernel
theorem dX8_init_712 : decode cX8_init 712 = .ok (.bipush 7, 2) := by decide +kernel
theorem dX8_init_714 : decode cX8_init 714 = .ok (.iconst 0, 1) := by decide +kernel
theorem dX8_init_715 : decode cX8_init 715 = .ok (.iastore, 1) := by decide +kernel
theorem dX8_init_716 : decode cX8_init 716 = .ok (.dup, 1) := by decide +kernel
theorem dX8_init_717 : decode cX8_init 717 = .ok (.bipush 8, 2) := by decide +kernel
theorem dX8_init_719 : decode cX8_init 719 = .ok (.iconst 0, 1) := by decide +kernel
theorem dX8_init_720 : decode cX8_init 720 = .ok (.iastore, 1) := by decide +kernel
theorem dX8_init_721 : decode cX8_init 721 = .ok (.dup, 1) := by decide +kernel
theorem dX8_init_722 : decode cX8_init 722 = .ok (.bipush 9, 2) := by decide +kernel
theorem dX8_init_724 : decode cX8_init 724 = .ok (.iconst 0, 1) := by decide +kernel
theorem dX8_init_725 : decode cX8_init 725 = .ok (.iastore, 1) := by decide +kernel
theorem dX8_init_726 : decode cX8_init 726 = .ok (.dup, 1) := by decide +kernel
theorem dX8_init_727 : decode cX8_init 727 = .ok (.bipush 10, 2) := by decide +kernel
theorem dX8_init_729 : decode cX8_init 729 = .ok (.iconst 1, 1) := by decide +kernel
theorem dX8_init_730 : decode cX8_init 730 = .ok (.iastore, 1) := by decide +kernel
theorem dX8_init_731 : decode cX8_init 731 = .ok (.dup, 1) := by decide +kernel
theorem dX8_init_732 : decode cX8_init 732 = .ok (.bipush 11, 2) := by decide +kernel
theorem dX8_init_734 : decode cX8_init 734 = .ok (.iconst 0, 1) := by decide +kernel
theorem dX8_init_735 : decode cX8_init 735 = .ok (.iastore, 1) := by decide +kernel
theorem dX8_init_736 : decode cX8_init 736 = .ok (.dup, 1) := by decide +kernel
theorem dX8_init_737 : decode cX8_init 737 = .ok (.bipush 12, 2) := by decide +kernel
theorem dX8_init_739 : decode cX8_init 739 = .ok (.iconst 1, 1) := by decide +kernel
theorem dX8_init_740 : decode cX8_init 740 = .ok (.iastore, 1) := by decide +kernel
theorem dX8_init_741 : decode cX8_init 741 = .ok (.putfield 22, 3) := by decide +kernel
theorem dX8_init_744 : decode cX8_init 744 = .ok (.aload_n 0, 1) := by decide +kernel
theorem dX8_init_745 : decode cX8_init 745 = .ok (.bipush 13, 2) := by decide +kernel
theorem dX8_init_747 : decode cX8_init 747 = .ok (.newarray .int, 2) := by decide +kernel
theorem dX8_init_749 : decode cX8_init 749 = .ok (.dup, 1) := by decide +kernel
theorem dX8_init_750 : decode cX8_init 750 = .ok (.iconst 0, 1) := by decide +kernel
theorem dX8_init_751 : decode cX8_init 751 = .ok (.iconst 0, 1) := by decide +kernel
theorem dX8_init_752 : decode cX8_init 752 = .ok (.iastore, 1) := by decide +kernel
theorem dX8_init_753 : decode cX8_init 753 = .ok (.dup, 1) := by decide +kernel
theorem dX8_init_754 : decode cX8_init 754 = .ok (.iconst 1, 1) := by decide +kernel
theorem dX8_init_755 : decode cX8_init 755 = .ok (.iconst 4, 1) := by decide +kernel
theorem dX8_init_756 : decode cX8_init 756 = .ok (.iastore, 1) := by decide +kernel
theorem dX8_init_757 : decode cX8_init 757 = .ok (.dup, 1) := by decide +kernel
theorem dX8_init_758 : decode cX8_init 758 = .ok (.iconst 2, 1) := by decide +kernel
theorem dX8_init_759 : decode cX8_init 759 = .ok (.iconst 3, 1) := by decide +kernel
theorem dX8_init_760 : decode cX8_init 760 = .ok (.iastore, 1) := by decide +kernel
theorem dX8_init_761 : decode cX8_init 761 = .ok (.dup, 1) := by decide +kernel
theorem dX8_init_762 : decode cX8_init 762 = .ok (.iconst 3, 1) := by decide +kernel
theorem dX8_init_763 : decode cX8_init 763 = .ok (.bipush 9, 2) := by decide +kernel
theorem dX8_init_765 : decode cX8_init 765 = .ok (.iastore, 1) := by decide +kernel
theorem dX8_init_766 : decode cX8_init 766 = .ok (.dup, 1) := by decide +kernel
theorem dX8_init_767 : decode cX8_init 767 = .ok (.iconst 4, 1) := by decide +kernel
theorem dX8_init_768 : decode cX8_init 768 = .ok (.bipush 9, 2) := by decide +kernel
theorem dX8_init_770 : decode cX8_init 770 = .ok (.iastore, 1) := by decide +kernel
theorem dX8_init_771 : decode cX8_init 771 = .ok (.dup, 1) := by decide +kernel
theorem dX8_init_772 : decode cX8_init 772 = .ok (.iconst 5, 1) := by decide +kernel
theorem dX8_init_773 : decode cX8_init 773 = .ok (.iconst 0, 1) := by decide +kernel
theorem dX8_init_774 : decode cX8_init 774 = .ok (.iastore, 1) := by decide +kernel
theorem dX8_init_775 : decode cX8_init 775 = .ok (.dup, 1) := by decide +kernel
theorem dX8_init_776 : decode cX8_init 776 = .ok (.bipush 6, 2) := by decide +kernel
theorem dX8_init_778 : decode cX8_init 778 = .ok (.bipush 9, 2) := by decide +kernel
theorem dX8_init_780 : decode cX8_init 780 = .ok (.iastore, 1) := by decide +kernel
theorem dX8_init_781 : decode cX8_init 781 = .ok (.dup, 1) := by decide +kernel
theorem dX8_init_782 : decode cX8_init 782 = .ok (.bipush 7, 2) := by decide +kernel
theorem dX8_init_784 : decode cX8_init 784 = .ok (.bipush 20, 2) := by decide +kernel
theorem dX8_init_786 : decode cX8_init 786 = .ok (.iastore, 1) := by decide +kernel
theorem dX8_init_787 : decode cX8_init 787 = .ok (.dup, 1) := by decide +kernel
theorem dX8_init_788 : decode cX8_init 788 = .ok (.bipush 8, 2) := by decide +kernel
theorem dX8_init_790 : decode cX8_init 790 = .ok (.bipush 20, 2) := by decide +kernel
theorem dX8_init_792 : decode cX8_init 792 = .ok (.iastore, 1) := by decide +kernel
theorem dX8_init_793 : decode cX8_init 793 = .ok (.dup, 1) := by decide +kernel
theorem dX8_init_794 : decode cX8_init 794 = .ok (.bipush 9, 2) := by decide +kernel
theorem dX8_init_796 : decode cX8_init 796 = .ok (.bipush 20, 2) := by decide +kernel
theorem dX8_init_798 : decode cX8_init 798 = .ok (.iastore, 1) := by decide +kernel
theorem dX8_init_799 : decode cX8_init 799 = .ok (.dup, 1) := by decide +kernel
theorem dX8_init_800 : decode cX8_init 800 = .ok (.bipush 10, 2) := by decide +kernel
theorem dX8_init_802 : decode cX8_init 802 = .ok (.bipush 99, 2) := by decide +kernel
theorem dX8_init_804 : decode cX8_init 804 = .ok (.iastore, 1) := by decide +kernel
theorem dX8_init_805 : decode cX8_init 805 = .ok (.dup, 1) := by decide +kernel
theorem dX8_init_806 : decode cX8_init 806 = .ok (.bipush 11, 2) := by decide +kernel
theorem dX8_init_808 : decode cX8_init 808 = .ok (.bipush 15, 2) := by decide +kernel
theorem dX8_init_810 : decode cX8_init 810 = .ok (.iastore, 1) := by decide +kernel
theorem dX8_init_811 : decode cX8_init 811 = .ok (.dup, 1) := by decide +kernel
theorem dX8_init_812 : decode cX8_init 812 = .ok (.bipush 12, 2) := by decide +kernel
theorem dX8_init_814 : decode cX8_init 814 = .ok (.bipush 9, 2) := by decide +kernel
theorem dX8_init_816 : decode cX8_init 816 = .ok (.iastore, 1) := by decide +kernel
theorem dX8_init_817 : decode cX8_init 817 = .ok (.putfield 25, 3) := by decide +kernel
theorem dX8_init_820 : decode cX8_init 820 = .ok (.aload_n 0, 1) := by decide +kernel
theorem dX8_init_821 : decode cX8_init 821 = .ok (.bipush 28, 2) := by decide +kernel
theorem dX8_init_823 : decode cX8_init 823 = .ok (.newarray .int, 2) := by decide +kernel
theorem dX8_init_825 : decode cX8_init 825 = .ok (.dup, 1) := by decide +kernel
theorem dX8_init_826 : decode cX8_init 826 = .ok (.iconst 0, 1) := by decide +kernel
theorem dX8_init_827 : decode cX8_init 827 = .ok (.iconst 0, 1) := by decide +kernel
theorem dX8_init_828 : decode cX8_init 828 = .ok (.iastore, 1) := by decide +kernel
theorem dX8_init_829 : decode cX8_init 829 = .ok (.dup, 1) := by decide +kernel
theorem dX8_init_830 : decode cX8_init 830 = .ok (.iconst 1, 1) := by decide +kernel
theorem dX8_init_831 : decode cX8_init 831 = .ok (.iconst 0, 1) := by decide +kernel
theorem dX8_init_832 : decode cX8_init 832 = .ok (.iastore, 1) := by decide +kernel
theorem dX8_init_833 : decode cX8_init 833 = .ok (.dup, 1) := by decide +kernel
theorem dX8_init_834 : decode cX8_init 834 = .ok (.iconst 2, 1) := by decide +kernel
theorem dX8_init_835 : decode cX8_init 835 = .ok (.iconst 0, 1) := by decide +kernel
theorem dX8_init_836 : decode cX8_init 836 = .ok (.iastore, 1) := by decide +kernel
theorem dX8_init_837 : decode cX8_init 837 = .ok (.dup, 1) := by decide +kernel
theorem dX8_init_838 : decode cX8_init 838 = .ok (.iconst 3, 1) := by decide +kernel
theorem dX8_init_839 : decode cX8_init 839 = .ok (.iconst 0, 1) := by decide +kernel
theorem dX8_init_840 : decode cX8_init 840 = .ok (.iastore, 1) := by decide +kernel
theorem dX8_init_841 : decode cX8_init 841 = .ok (.dup, 1) := by decide +kernel
theorem dX8_init_842 : decode cX8_init 842 = .ok (.iconst 4, 1) := by decide +kernel
theorem dX8_init_843 : decode cX8_init 843 = .ok (.bipush 9, 2) := by decide +kernel
theorem dX8_init_845 : decode cX8_init 845 = .ok (.iastore, 1) := by decide +kernel
theorem dX8_init_846 : decode cX8_init 846 = .ok (.dup, 1) := by decide +kernel
theorem dX8_init_847 : decode cX8_init 847 = .ok (.iconst 5, 1) := by decide +kernel
theorem dX8_init_848 : decode cX8_init 848 = .ok (.iconst 0, 1) := by decide +kernel
theorem dX8_init_849 : decode cX8_init 849 = .ok (.iastore, 1) := by decide +kernel
theorem dX8_init_850 : decode cX8_init 850 = .ok (.dup, 1) := by decide +kernel
theorem dX8_init_851 : decode cX8_init 851 = .ok (.bipush 6, 2) := by decide +kernel
theorem dX8_init_853 : decode cX8_init 853 = .ok (.bipush 9, 2) := by decide +kernel
theorem dX8_init_855 : decode cX8_init 855 = .ok (.iastore, 1) := by decide +kernel
theorem dX8_init_856 : decode cX8_init 856 = .ok (.dup, 1) := by decide +kernel
theorem dX8_init_857 : decode cX8_init 857 = .ok (.bipush 7, 2) := by decide +kernel
theorem dX8_init_859 : decode cX8_init 859 = .ok (.bipush 8, 2) := by decide +kernel
theorem dX8_init_861 : decode cX8_init 861 = .ok (.iastore, 1) := by decide +kernel
theorem dX8_init_862 : decode cX8_init 862 = .ok (.dup, 1) := by decide +kernel
theorem dX8_init_863 : decode cX8_init 863 = .ok (.bipush 8, 2) := by decide +kernel
theorem dX8_init_865 : decode cX8_init 865 = .ok (.iconst 1, 1) := by decide +kernel
theorem dX8_init_866 : decode cX8_init 866 = .ok (.iastore, 1) := by decide +kernel
theorem dX8_init_867 : decode cX8_init 867 = .ok (.dup, 1) := by decide +kernel
theorem dX8_init_868 : decode cX8_init 868 = .ok (.bipush 9, 2) := by decide +kernel
theorem dX8_init_870 : decode cX8_init 870 = .ok (.iconst 0, 1) := by decide +kernel
theorem dX8_init_871 : decode cX8_init 871 = .ok (.iastore, 1) := by decide +kernel
theorem dX8_init_872 : decode cX8_init 872 = .ok (.dup, 1) := by decide +kernel
theorem dX8_init_873 : decode cX8_init 873 = .ok (.bipush 10, 2) := by decide +kernel
theorem dX8_init_875 : decode cX8_init 875 = .ok (.bipush 40, 2) := by decide +kernel
theorem dX8_init_877 : decode cX8_init 877 = .ok (.iastore, 1) := by decide +kernel
theorem dX8_init_878 : decode cX8_init 878 = .ok (.dup, 1) := by decide +kernel
theorem dX8_init_879 : decode cX8_init 879 = .ok (.bipush 11, 2) := by decide +kernel
theorem dX8_init_881 : decode cX8_init 881 = .ok (.iconst 0, 1) := by decide +kernel
theorem dX8_init_882 : decode cX8_init 882 = .ok (.iastore, 1) := by decide +kernel
theorem dX8_init_883 : decode cX8_init 883 = .ok (.dup, 1) := by decide +kernel
theorem dX8_init_884 : decode cX8_init 884 = .ok (.bipush 12, 2) := by decide +kernel
theorem dX8_init_886 : decode cX8_init 886 = .ok (.iconst 1, 1) := by decide +kernel
theorem dX8_init_887 : decode cX8_init 887 = .ok (.iastore, 1) := by decide +kernel
theorem dX8_init_888 : decode cX8_init 888 = .ok (.dup, 1) := by decide +kernel
theorem dX8_init_889 : decode cX8_init 889 = .ok (.bipush 13, 2) := by decide +kernel
theorem dX8_init_891 : decode cX8_init 891 = .ok (.iconst 1, 1) := by decide +kernel
theorem dX8_init_892 : decode cX8_init 892 = .ok (.iastore, 1) := by decide +kernel
theorem dX8_init_893 : decode cX8_init 893 = .ok (.dup, 1) := by decide +kernel
theorem dX8_init_894 : decode cX8_init 894 = .ok (.bipush 14, 2) := by decide +kernel
theorem dX8_init_896 : decode cX8_init 896 = .ok (.iconst 1, 1) := by decide +kernel
theorem dX8_init_897 : decode cX8_init 897 = .ok (.iastore, 1) := by decide +kernel
theorem dX8_init_898 : decode cX8_init 898 = .ok (.dup, 1) := by decide +kernel
theorem dX8_init_899 : decode cX8_init 899 = .ok (.bipush 15, 2) := by decide +kernel
theorem dX8_init_901 : decode cX8_init 901 = .ok (.iconst 1, 1) := by decide +kernel
theorem dX8_init_902 : decode cX8_init 902 = .ok (.iastore, 1) := by decide +kernel
theorem dX8_init_903 : decode cX8_init 903 = .ok (.dup, 1) := by decide +kernel
theorem dX8_init_904 : decode cX8_init 904 = .ok (.bipush 16, 2) := by decide +kernel
theorem dX8_init_906 : decode cX8_init 906 = .ok (.iconst 1, 1) := by decide +kernel
theorem dX8_init_907 : decode cX8_init 907 = .ok (.iastore, 1) := by decide +kernel
theorem dX8_init_908 : decode cX8_init 908 = .ok (.dup, 1) := by decide +kernel
theorem dX8_init_909 : decode cX8_init 909 = .ok (.bipush 17, 2) := by decide +kernel
theorem dX8_init_911 : decode cX8_init 911 = .ok (.iconst 1, 1) := by decide +kernel
theorem dX8_init_912 : decode cX8_init 912 = .ok (.iastore, 1) := by decide +kernel
theorem dX8_init_913 : decode cX8_init 913 = .ok (.dup, 1) := by decide +kernel
theorem dX8_init_914 : decode cX8_init 914 = .ok (.bipush 18, 2) := by decide +kernel
theorem dX8_init_916 : decode cX8_init 916 = .ok (.iconst 1, 1) := by decide +kernel
theorem dX8_init_917 : decode cX8_init 917 = .ok (.iastore, 1) := by decide +kernel
theorem dX8_init_918 : decode cX8_init 918 = .ok (.dup, 1) := by decide +kernel
theorem dX8_init_919 : decode cX8_init 919 = .ok (.bipush 19, 2) := by decide +kernel
theorem dX8_init_921 : decode cX8_init 921 = .ok (.iconst 1, 1) := by decide +kernel
theorem dX8_init_922 : decode cX8_init 922 = .ok (.iastore, 1) := by decide +kernel
theorem dX8_init_923 : decode cX8_init 923 = .ok (.dup, 1) := by decide +kernel
theorem dX8_init_924 : decode cX8_init 924 = .ok (.bipush 20, 2) := by decide +kernel
theorem dX8_init_926 : decode cX8_init 926 = .ok (.iconst 1, 1) := by decide +kernel
theorem dX8_init_927 : decode cX8_init 927 = .ok (.iastore, 1) := by decide +kernel
theorem dX8_init_928 : decode cX8_init 928 = .ok (.dup, 1) := by decide +kernel
theorem dX8_init_929 : decode cX8_init 929 = .ok (.bipush 21, 2) := by decide +kernel
theorem dX8_init_931 : decode cX8_init 931 = .ok (.iconst 1, 1) := by decide +kernel
theorem dX8_init_932 : decode cX8_init 932 = .ok (.iastore, 1) := by decide +kernel
theorem dX8_init_933 : decode cX8_init 933 = .ok (.dup, 1) := by decide +kernel
theorem dX8_init_934 : decode cX8_init 934 = .ok (.bipush 22, 2) := by decide +kernel
theorem dX8_init_936 : decode cX8_init 936 = .ok (.iconst 1, 1) := by decide +kernel
theorem dX8_init_937 : decode cX8_init 937 = .ok (.iastore, 1) := by decide +kernel
theorem dX8_init_938 : decode cX8_init 938 = .ok (.dup, 1) := by decide +kernel
theorem dX8_init_939 : decode cX8_init 939 = .ok (.bipush 23, 2) := by decide +kernel
theorem dX8_init_941 : decode cX8_init 941 = .ok (.iconst 1, 1) := by decide +kernel
theorem dX8_init_942 : decode cX8_init 942 = .ok (.iastore, 1) := by decide +kernel
theorem dX8_init_943 : decode cX8_init 943 = .ok (.dup, 1) := by decide +kernel
theorem dX8_init_944 : decode cX8_init 944 = .ok (.bipush 24, 2) := by decide +kernel
theorem dX8_init_946 : decode cX8_init 946 = .ok (.iconst 1, 1) := by decide +kernel
theorem dX8_init_947 : decode cX8_init 947 = .ok (.iastore, 1) := by decide +kernel
theorem dX8_init_948 : decode cX8_init 948 = .ok (.dup, 1) := by decide +kernel
theorem dX8_init_949 : decode cX8_init 949 = .ok (.bipush 25, 2) := by decide +kernel
theorem dX8_init_951 : decode cX8_init 951 = .ok (.iconst 1, 1) := by decide +kernel
theorem dX8_init_952 : decode cX8_init 952 = .ok (.iastore, 1) := by decide +kernel
theorem dX8_init_953 : decode cX8_init 953 = .ok (.dup, 1) := by decide +kernel
theorem dX8_init_954 : decode cX8_init 954 = .ok (.bipush 26, 2) := by decide +kernel
theorem dX8_init_956 : decode cX8_init 956 = .ok (.iconst 1, 1) := by decide +kernel
theorem dX8_init_957 : decode cX8_init 957 = .ok (.iastore, 1) := by decide +kernel
theorem dX8_init_958 : decode cX8_init 958 = .ok (.dup, 1) := by decide +kernel
theorem dX8_init_959 : decode cX8_init 959 = .ok (.bipush 27, 2) := by decide +kernel
theorem dX8_init_961 : decode cX8_init 961 = .ok (.iconst 1, 1) := by decide +kernel
theorem dX8_init_962 : decode cX8_init 962 = .ok (.iastore, 1) := by decide +kernel
theorem dX8_init_963 : decode cX8_init 963 = .ok (.putfield 28, 3) := by decide +kernel
theorem dX8_init_966 : decode cX8_init 966 = .ok (.aload_n 0, 1) := by decide +kernel
theorem dX8_init_967 : decode cX8_init 967 = .ok (.bipush 28, 2) := by decide +kernel
theorem dX8_init_969 : decode cX8_init 969 = .ok (.newarray .int, 2) := by decide +kernel
theorem dX8_init_971 : decode cX8_init 971 = .ok (.putfield 31, 3) := by decide +kernel
theorem dX8_init_974 : decode cX8_init 974 = .ok (.aload_n 0, 1) := by decide +kernel
theorem dX8_init_975 : decode cX8_init 975 = .ok (.sipush 384, 3) := by decide +kernel
theorem dX8_init_978 : decode cX8_init 978 = .ok (.newarray .int, 2) := by decide +kernel
theorem dX8_init_980 : decode cX8_init 980 = .ok (.putfield 34, 3) := by decide +kernel
theorem dX8_init_983 : decode cX8_init 983 = .ok (.aload_n 0, 1) := by decide +kernel
theorem dX8_init_984 : decode cX8_init 984 = .ok (.bipush 25, 2) := by decide +kernel
theorem dX8_init_986 : decode cX8_init 986 = .ok (.putfield 37, 3) := by decide +kernel
theorem dX8_init_989 : decode cX8_init 989 = .ok (.aload_n 0, 1) := by decide +kernel
theorem dX8_init_990 : decode cX8_init 990 = .ok (.bipush 16, 2) := by decide +kernel
theorem dX8_init_992 : decode cX8_init 992 = .ok (.newarray .int, 2) := by decide +kernel
theorem dX8_init_994 : decode cX8_init 994 = .ok (.putfield 41, 3) := by decide +kernel
theorem dX8_init_997 : decode cX8_init 997 = .ok (.aload_n 0, 1) := by decide +kernel
theorem dX8_init_998 : decode cX8_init 998 = .ok (.bipush 16, 2) := by decide +kernel
theorem dX8_init_1000 : decode cX8_init 1000 = .ok (.newarray .int, 2) := by decide +kernel
theorem dX8_init_1002 : decode cX8_init 1002 = .ok (.putfield 44, 3) := by decide +kernel
theorem dX8_init_1005 : decode cX8_init 1005 = .ok (.aload_n 0, 1) := by decide +kernel
theorem dX8_init_1006 : decode cX8_init 1006 = .ok (.bipush 16, 2) := by decide +kernel
theorem dX8_init_1008 : decode cX8_init 1008 = .ok (.newarray .int, 2) := by decide +kernel
theorem dX8_init_1010 : decode cX8_init 1010 = .ok (.putfield 47, 3) := by decide +kernel
theorem dX8_init_1013 : decode cX8_init 1013 = .ok (.aload_n 0, 1) := by decide +kernel
theorem dX8_init_1014 : decode cX8_init 1014 = .ok (.bipush 16, 2) := by decide +kernel
theorem dX8_init_1016 : decode cX8_init 1016 = .ok (.newarray .int, 2) := by decide +kernel
theorem dX8_init_1018 : decode cX8_init 1018 = .ok (.putfield 50, 3) := by decide +kernel
theorem dX8_init_1021 : decode cX8_init 1021 = .ok (.aload_n 0, 1) := by decide +kernel
theorem dX8_init_1022 : decode cX8_init 1022 = .ok (.bipush 16, 2) := by decide +kernel
theorem dX8_init_1024 : decode cX8_init 1024 = .ok (.newarray .int, 2) := by decide +kernel
theorem dX8_init_1026 : decode cX8_init 1026 = .ok (.putfield 53, 3) := by decide +kernel
theorem dX8_init_1029 : decode cX8_init 1029 = .ok (.aload_n 0, 1) := by decide +kernel
theorem dX8_init_1030 : decode cX8_init 1030 = .ok (.sipush 156, 3) := by decide +kernel
theorem dX8_init_1033 : decode cX8_init 1033 = .ok (.newarray .int, 2) := by decide +kernel
theorem dX8_init_1035 : decode cX8_init 1035 = .ok (.putfield 56, 3) := by decide +kernel
theorem dX8_init_1038 : decode cX8_init 1038 = .ok (.aload_n 0, 1) := by decide +kernel
theorem dX8_init_1039 : decode cX8_init 1039 = .ok (.bipush 16, 2) := by decide +kernel
theorem dX8_init_1041 : decode cX8_init 1041 = .ok (.newarray .int, 2) := by decide +kernel
theorem dX8_init_1043 : decode cX8_init 1043 = .ok (.putfield 59, 3) := by decide +kernel
theorem dX8_init_1046 : decode cX8_init 1046 = .ok (.aload_n 0, 1) := by decide +kernel
theorem dX8_init_1047 : decode cX8_init 1047 = .ok (.bipush 26, 2) := by decide +kernel
theorem dX8_init_1049 : decode cX8_init 1049 = .ok (.newarray .int, 2) := by decide +kernel
theorem dX8_init_1051 : decode cX8_init 1051 = .ok (.putfield 62, 3) := by decide +kernel
theorem dX8_init_1054 : decode cX8_init 1054 = .ok (.aload_n 0, 1) := by decide +kernel
theorem dX8_init_1055 : decode cX8_init 1055 = .ok (.sipush 6656, 3) := by decide +kernel
theorem dX8_init_1058 : decode cX8_init 1058 = .ok (.newarray .int, 2) := by decide +kernel
theorem dX8_init_1060 : decode cX8_init 1060 = .ok (.putfield 65, 3) := by decide +kernel
theorem dX8_init_1063 : decode cX8_init 1063 = .ok (.aload_n 0, 1) := by decide +kernel
theorem dX8_init_1064 : decode cX8_init 1064 = .ok (.sipush 793, 3) := by decide +kernel
theorem dX8_init_1067 : decode cX8_init 1067 = .ok (.newarray .int, 2) := by decide +kernel
theorem dX8_init_1069 : decode cX8_init 1069 = .ok (.putfield 68, 3) := by decide +kernel
theorem dX8_init_1072 : decode cX8_init 1072 = .ok (.aload_n 0, 1) := by decide +kernel
theorem dX8_init_1073 : decode cX8_init 1073 = .ok (.sipush 793, 3) := by decide +kernel
theorem dX8_init_1076 : decode cX8_init 1076 = .ok (.newarray .int, 2) := by decide +kernel
theorem dX8_init_1078 : decode cX8_init 1078 = .ok (.putfield 71, 3) := by decide +kernel
theorem dX8_init_1081 : decode cX8_init 1081 = .ok (.aload_n 0, 1) := by decide +kernel
theorem dX8_init_1082 : decode cX8_init 1082 = .ok (.bipush 12, 2) := by decide +kernel
theorem dX8_init_1084 : decode cX8_init 1084 = .ok (.newarray .int, 2) := by decide +kernel
theorem dX8_init_1086 : decode cX8_init 1086 = .ok (.putfield 74, 3) := by decide +kernel
theorem dX8_init_1089 : decode cX8_init 1089 = .ok (.aload_n 0, 1) := by decide +kernel
theorem dX8_init_1090 : decode cX8_init 1090 = .ok (.bipush 12, 2) := by decide +kernel
theorem dX8_init_1092 : decode cX8_init 1092 = .ok (.newarray .int, 2) := by decide +kernel
theorem dX8_init_1094 : decode cX8_init 1094 = .ok (.putfield 77, 3) := by decide +kernel
theorem dX8_init_1097 : decode cX8_init 1097 = .ok (.aload_n 0, 1) := by decide +kernel
theorem dX8_init_1098 : decode cX8_init 1098 = .ok (.bipush 12, 2) := by decide +kernel
theorem dX8_init_1100 : decode cX8_init 1100 = .ok (.newarray .int, 2) := by decide +kernel
theorem dX8_init_1102 : decode cX8_init 1102 = .ok (.putfield 80, 3) := by decide +kernel
theorem dX8_init_1105 : decode cX8_init 1105 = .ok (.aload_n 0, 1) := by decide +kernel
theorem dX8_init_1106 : decode cX8_init 1106 = .ok (.bipush 12, 2) := by decide +kernel
theorem dX8_init_1108 : decode cX8_init 1108 = .ok (.newarray .boolean, 2) := by decide +kernel
theorem dX8_init_1110 : decode cX8_init 1110 = .ok (.putfield 83, 3) := by decide +kernel
theorem dX8_init_1113 : decode cX8_init 1113 = .ok (.aload_n 0, 1) := by decide +kernel
theorem dX8_init_1114 : decode cX8_init 1114 = .ok (.iconst 4, 1) := by decide +kernel
theorem dX8_init_1115 : decode cX8_init 1115 = .ok (.newarray .int, 2) := by decide +kernel
theorem dX8_init_1117 : decode cX8_init 1117 = .ok (.dup, 1) := by decide +kernel
theorem dX8_init_1118 : decode cX8_init 1118 = .ok (.iconst 0, 1) := by decide +kernel
theorem dX8_init_1119 : decode cX8_init 1119 = .ok (.bipush (-4), 2) := by decide +kernel
theorem dX8_init_1121 : decode cX8_init 1121 = .ok (.iastore, 1) := by decide +kernel
theorem dX8_init_1122 : decode cX8_init 1122 = .ok (.dup, 1) := by decide +kernel
theorem dX8_init_1123 : decode cX8_init 1123 = .ok (.iconst 1, 1) := by decide +kernel
theorem dX8_init_1124 : decode cX8_init 1124 = .ok (.bipush (-4), 2) := by decide +kernel
theorem dX8_init_1126 : decode cX8_init 1126 = .ok (.iastore, 1) := by decide +kernel
theorem dX8_init_1127 : decode cX8_init 1127 = .ok (.dup, 1) := by decide +kernel
theorem dX8_init_1128 : decode cX8_init 1128 = .ok (.iconst 2, 1) := by decide +kernel
theorem dX8_init_1129 : decode cX8_init 1129 = .ok (.bipush (-4), 2) := by decide +kernel
theorem dX8_init_1131 : decode cX8_init 1131 = .ok (.iastore, 1) := by decide +kernel
theorem dX8_init_1132 : decode cX8_init 1132 = .ok (.dup, 1) := by decide +kernel
theorem dX8_init_1133 : decode cX8_init 1133 = .ok (.iconst 3, 1) := by decide +kernel
theorem dX8_init_1134 : decode cX8_init 1134 = .ok (.bipush (-4), 2) := by decide +kernel
theorem dX8_init_1136 : decode cX8_init 1136 = .ok (.iastore, 1) := by decide +kernel
theorem dX8_init_1137 : decode cX8_init 1137 = .ok (.putfield 87, 3) := by decide +kernel
theorem dX8_init_1140 : decode cX8_init 1140 = .ok (.aload_n 0, 1) := by decide +kernel
theorem dX8_init_1141 : decode cX8_init 1141 = .ok (.iconst 4, 1) := by decide +kernel
theorem dX8_init_1142 : decode cX8_init 1142 = .ok (.newarray .int, 2) := by decide +kernel
theorem dX8_init_1144 : decode cX8_init 1144 = .ok (.putfield 90, 3) := by decide +kernel
theorem dX8_init_1147 : decode cX8_init 1147 = .ok (.aload_n 0, 1) := by decide +kernel
theorem dX8_init_1148 : decode cX8_init 1148 = .ok (.sipush 256, 3) := by decide +kernel
theorem dX8_init_1151 : decode cX8_init 1151 = .ok (.newarray .int, 2) := by decide +kernel
theorem dX8_init_1153 : decode cX8_init 1153 = .ok (.putfield 93, 3) := by decide +kernel
theorem dX8_init_1156 : decode cX8_init 1156 = .ok (.return_, 1) := by decide +kernel
theorem dX8_in_0 : decode cX8_in 0 = .ok (.lload_n 0, 1) := by decide +kernel
theorem dX8_in_1 : decode cX8_in 1 = .ok (.lload_n 2, 1) := by decide +kernel
theorem dX8_in_2 : decode cX8_in 2 = .ok (.lcmp, 1) := by decide +kernel
theorem dX8_in_3 : decode cX8_in 3 = .ok (.ifCond .lt 14, 3) := by decide +kernel
theorem dX8_in_6 : decode cX8_in 6 = .ok (.lload_n 0, 1) := by decide +kernel
theorem dX8_in_7 : decode cX8_in 7 = .ok (.lload 4, 2) := by decide +kernel
theorem dX8_in_9 : decode cX8_in 9 = .ok (.lcmp, 1) := by decide +kernel
theorem dX8_in_10 : decode cX8_in 10 = .ok (.ifCond .gt 7, 3) := by decide +kernel
theorem dX8_in_13 : decode cX8_in 13 = .ok (.iconst 1, 1) := by decide +kernel
theorem dX8_in_14 : decode cX8_in 14 = .ok (.goto 4, 3) := by decide +kernel
theorem dX8_in_17 : decode cX8_in 17 = .ok (.iconst 0, 1) := by decide +kernel
theorem dX8_in_18 : decode cX8_in 18 = .ok (.ireturn, 1) := by decide +kernel
theorem dX8_feed_0 : decode cX8_feed 0 = .ok (.aload_n 0, 1) := by decide +kernel
theorem dX8_feed_1 : decode cX8_feed 1 = .ok (.getfield 96, 3) := by decide +kernel
theorem dX8_feed_4 : decode cX8_feed 4 = .ok (.bipush 8, 2) := by decide +kernel
theorem dX8_feed_6 : decode cX8_feed 6 = .ok (.iadd, 1) := by decide +kernel
theorem dX8_feed_7 : decode cX8_feed 7 = .ok (.sipush 200, 3) := by decide +kernel
theorem dX8_feed_10 : decode cX8_feed 10 = .ok (.if_icmp .le 6, 3) := by decide +kernel
theorem dX8_feed_13 : decode cX8_feed 13 = .ok (.bipush (-3), 2) := by decide +kernel
theorem dX8_feed_15 : decode cX8_feed 15 = .ok (.ireturn, 1) := by decide +kernel
theorem dX8_feed_16 : decode cX8_feed 16 = .ok (.bipush 56, 2) := by decide +kernel
theorem dX8_feed_18 : decode cX8_feed 18 = .ok (.istore_n 3, 1) := by decide +kernel
theorem dX8_feed_19 : decode cX8_feed 19 = .ok (.iload_n 3, 1) := by decide +kernel
theorem dX8_feed_20 : decode cX8_feed 20 = .ok (.ifCond .lt 36, 3) := by decide +kernel
theorem dX8_feed_23 : decode cX8_feed 23 = .ok (.aload_n 0, 1) := by decide +kernel
theorem dX8_feed_24 : decode cX8_feed 24 = .ok (.getfield 7, 3) := by decide +kernel
theorem dX8_feed_27 : decode cX8_feed 27 = .ok (.aload_n 0, 1) := by decide +kernel
theorem dX8_feed_28 : decode cX8_feed 28 = .ok (.getfield 96, 3) := by decide +kernel
theorem dX8_feed_31 : decode cX8_feed 31 = .ok (.lload_n 1, 1) := by decide +kernel
theorem dX8_feed_32 : decode cX8_feed 32 = .ok (.iload_n 3, 1) := by decide +kernel
theorem dX8_feed_33 : decode cX8_feed 33 = .ok (.lshr, 1) := by decide +kernel
theorem dX8_feed_34 : decode cX8_feed 34 = .ok (.l2i, 1) := by decide +kernel
theorem dX8_feed_35 : decode cX8_feed 35 = .ok (.sipush 255, 3) := by decide +kernel
theorem dX8_feed_38 : decode cX8_feed 38 = .ok (.iand, 1) := by decide +kernel
theorem dX8_feed_39 : decode cX8_feed 39 = .ok (.iastore, 1) := by decide +kernel
theorem dX8_feed_40 : decode cX8_feed 40 = .ok (.aload_n 0, 1) := by decide +kernel
theorem dX8_feed_41 : decode cX8_feed 41 = .ok (.dup, 1) := by decide +kernel
theorem dX8_feed_42 : decode cX8_feed 42 = .ok (.getfield 96, 3) := by decide +kernel
theorem dX8_feed_45 : decode cX8_feed 45 = .ok (.iconst 1, 1) := by decide +kernel
theorem dX8_feed_46 : decode cX8_feed 46 = .ok (.iadd, 1) := by decide +kernel
theorem dX8_feed_47 : decode cX8_feed 47 = .ok (.putfield 96, 3) := by decide +kernel
theorem dX8_feed_50 : decode cX8_feed 50 = .ok (.iinc 3 (-8), 3) := by decide +kernel
theorem dX8_feed_53 : decode cX8_feed 53 = .ok (.goto (-34), 3) := by decide +kernel
theorem dX8_feed_56 : decode cX8_feed 56 = .ok (.aload_n 0, 1) := by decide +kernel
theorem dX8_feed_57 : decode cX8_feed 57 = .ok (.getfield 96, 3) := by decide +kernel
theorem dX8_feed_60 : decode cX8_feed 60 = .ok (.ireturn, 1) := by decide +kernel
theorem dX8_end_0 : decode cX8_end 0 = .ok (.iload_n 1, 1) := by decide +kernel
theorem dX8_end_1 : decode cX8_end 1 = .ok (.i2l, 1) := by decide +kernel
theorem dX8_end_2 : decode cX8_end 2 = .ok (.lconst 0, 1) := by decide +kernel
theorem dX8_end_3 : decode cX8_end 3 = .ok (.aload_n 0, 1) := by decide +kernel
theorem dX8_end_4 : decode cX8_end 4 = .ok (.getfield 96, 3) := by decide +kernel
theorem dX8_end_7 : decode cX8_end 7 = .ok (.i2l, 1) := by decide +kernel
theorem dX8_end_8 : decode cX8_end 8 = .ok (.invokestatic 99, 3) := by decide +kernel
theorem dX8_end_11 : decode cX8_end 11 = .ok (.ifCond .ne 5, 3) := by decide +kernel
theorem dX8_end_14 : decode cX8_end 14 = .ok (.iconst (-1), 1) := by decide +kernel
theorem dX8_end_15 : decode cX8_end 15 = .ok (.ireturn, 1) := by decide +kernel
theorem dX8_end_16 : decode cX8_end 16 = .ok (.aload_n 0, 1) := by decide +kernel
theorem dX8_end_17 : decode cX8_end 17 = .ok (.getfield 96, 3) := by decide +kernel
theorem dX8_end_20 : decode cX8_end 20 = .ok (.istore_n 2, 1) := by decide +kernel
theorem dX8_end_21 : decode cX8_end 21 = .ok (.aload_n 0, 1) := by decide +kernel
theorem dX8_end_22 : decode cX8_end 22 = .ok (.iload_n 1, 1) := by decide +kernel
theorem dX8_end_23 : decode cX8_end 23 = .ok (.putfield 96, 3) := by decide +kernel
theorem dX8_end_26 : decode cX8_end 26 = .ok (.iload_n 2, 1) := by decide +kernel
theorem dX8_end_27 : decode cX8_end 27 = .ok (.ireturn, 1) := by decide +kernel
theorem dX8_byteAt_0 : decode cX8_byteAt 0 = .ok (.iload_n 1, 1) := by decide +kernel
theorem dX8_byteAt_1 : decode cX8_byteAt 1 = .ok (.aload_n 0, 1) := by decide +kernel
theorem dX8_byteAt_2 : decode cX8_byteAt 2 = .ok (.getfield 96, 3) := by decide +kernel
theorem dX8_byteAt_5 : decode cX8_byteAt 5 = .ok (.if_icmp .ge 12, 3) := by decide +kernel
theorem dX8_byteAt_8 : decode cX8_byteAt 8 = .ok (.aload_n 0, 1) := by decide +kernel
theorem dX8_byteAt_9 : decode cX8_byteAt 9 = .ok (.getfield 7, 3) := by decide +kernel
theorem dX8_byteAt_12 : decode cX8_byteAt 12 = .ok (.iload_n 1, 1) := by decide +kernel
theorem dX8_byteAt_13 : decode cX8_byteAt 13 = .ok (.iaload, 1) := by decide +kernel
theorem dX8_byteAt_14 : decode cX8_byteAt 14 = .ok (.goto 5, 3) := by decide +kernel
theorem dX8_byteAt_17 : decode cX8_byteAt 17 = .ok (.bipush (-4), 2) := by decide +kernel
theorem dX8_byteAt_19 : decode cX8_byteAt 19 = .ok (.ireturn, 1) := by decide +kernel
theorem dX8_fails_0 : decode cX8_fails 0 = .ok (.aload_n 0, 1) := by decide +kernel
theorem dX8_fails_1 : decode cX8_fails 1 = .ok (.getfield 103, 3) := by decide +kernel
theorem dX8_fails_4 : decode cX8_fails 4 = .ok (.ifCond .ne 16, 3) := by decide +kernel
theorem dX8_fails_7 : decode cX8_fails 7 = .ok (.aload_n 0, 1) := by decide +kernel
theorem dX8_fails_8 : decode cX8_fails 8 = .ok (.iload_n 1, 1) := by decide +kernel
theorem dX8_fails_9 : decode cX8_fails 9 = .ok (.putfield 103, 3) := by decide +kernel
theorem dX8_fails_12 : decode cX8_fails 12 = .ok (.aload_n 0, 1) := by decide +kernel
theorem dX8_fails_13 : decode cX8_fails 13 = .ok (.aload_n 0, 1) := by decide +kernel
theorem dX8_fails_14 : decode cX8_fails 14 = .ok (.getfield 106, 3) := by decide +kernel
theorem dX8_fails_17 : decode cX8_fails 17 = .ok (.putfield 109, 3) := by decide +kernel
theorem dX8_fails_20 : decode cX8_fails 20 = .ok (.return_, 1) := by decide +kernel
theorem dX8_nameAt_0 : decode cX8_nameAt 0 = .ok (.iconst 0, 1) := by decide +kernel
theorem dX8_nameAt_1 : decode cX8_nameAt 1 = .ok (.istore_n 3, 1) := by decide +kernel
theorem dX8_nameAt_2 : decode cX8_nameAt 2 = .ok (.iload_n 3, 1) := by decide +kernel
theorem dX8_nameAt_3 : decode cX8_nameAt 3 = .ok (.bipush 16, 2) := by decide +kernel
theorem dX8_nameAt_5 : decode cX8_nameAt 5 = .ok (.if_icmp .ge 98, 3) := by decide +kernel
theorem dX8_nameAt_8 : decode cX8_nameAt 8 = .ok (.iload_n 2, 1) := by decide +kernel
theorem dX8_nameAt_9 : decode cX8_nameAt 9 = .ok (.iload_n 1, 1) := by decide +kernel
theorem dX8_nameAt_10 : decode cX8_nameAt 10 = .ok (.isub, 1) := by decide +kernel
theorem dX8_nameAt_11 : decode cX8_nameAt 11 = .ok (.aload_n 0, 1) := by decide +kernel
theorem dX8_nameAt_12 : decode cX8_nameAt 12 = .ok (.getfield 13, 3) := by decide +kernel
theorem dX8_nameAt_15 : decode cX8_nameAt 15 = .ok (.iload_n 3, 1) := by decide +kernel
theorem dX8_nameAt_16 : decode cX8_nameAt 16 = .ok (.iconst 1, 1) := by decide +kernel
theorem dX8_nameAt_17 : decode cX8_nameAt 17 = .ok (.iadd, 1) := by decide +kernel
theorem dX8_nameAt_18 : decode cX8_nameAt 18 = .ok (.iaload, 1) := by decide +kernel
theorem dX8_nameAt_19 : decode cX8_nameAt 19 = .ok (.aload_n 0, 1) := by decide +kernel
theorem dX8_nameAt_20 : decode cX8_nameAt 20 = .ok (.getfield 13, 3) := by decide +kernel
theorem dX8_nameAt_23 : decode cX8_nameAt 23 = .ok (.iload_n 3, 1) := by decide +kernel
theorem dX8_nameAt_24 : decode cX8_nameAt 24 = .ok (.iaload, 1) := by decide +kernel
theorem dX8_nameAt_25 : decode cX8_nameAt 25 = .ok (.isub, 1) := by decide +kernel
theorem dX8_nameAt_26 : decode cX8_nameAt 26 = .ok (.if_icmp .ne 7, 3) := by decide +kernel
theorem dX8_nameAt_29 : decode cX8_nameAt 29 = .ok (.iconst 1, 1) := by decide +kernel
theorem dX8_nameAt_30 : decode cX8_nameAt 30 = .ok (.goto 4, 3) := by decide +kernel
theorem dX8_nameAt_33 : decode cX8_nameAt 33 = .ok (.iconst 0, 1) := by decide +kernel
theorem dX8_nameAt_34 : decode cX8_nameAt 34 = .ok (.istore 4, 2) := by decide +kernel
theorem dX8_nameAt_36 : decode cX8_nameAt 36 = .ok (.iconst 0, 1) := by decide +kernel
theorem dX8_nameAt_37 : decode cX8_nameAt 37 = .ok (.istore 5, 2) := by decide +kernel
theorem dX8_nameAt_39 : decode cX8_nameAt 39 = .ok (.iload 4, 2) := by decide +kernel
theorem dX8_nameAt_41 : decode cX8_nameAt 41 = .ok (.ifCond .eq 49, 3) := by decide +kernel
theorem dX8_nameAt_44 : decode cX8_nameAt 44 = .ok (.iload 5, 2) := by decide +kernel
theorem dX8_nameAt_46 : decode cX8_nameAt 46 = .ok (.iload_n 2, 1) := by decide +kernel
theorem dX8_nameAt_47 : decode cX8_nameAt 47 = .ok (.iload_n 1, 1) := by decide +kernel
theorem dX8_nameAt_48 : decode cX8_nameAt 48 = .ok (.isub, 1) := by decide +kernel
theorem dX8_nameAt_49 : decode cX8_nameAt 49 = .ok (.if_icmp .ge 41, 3) := by decide +kernel
theorem dX8_nameAt_52 : decode cX8_nameAt 52 = .ok (.aload_n 0, 1) := by decide +kernel
theorem dX8_nameAt_53 : decode cX8_nameAt 53 = .ok (.iload_n 1, 1) := by decide +kernel
theorem dX8_nameAt_54 : decode cX8_nameAt 54 = .ok (.iload 5, 2) := by decide +kernel
theorem dX8_nameAt_56 : decode cX8_nameAt 56 = .ok (.iadd, 1) := by decide +kernel
theorem dX8_nameAt_57 : decode cX8_nameAt 57 = .ok (.invokevirtual 112, 3) := by decide +kernel
theorem dX8_nameAt_60 : decode cX8_nameAt 60 = .ok (.aload_n 0, 1) := by decide +kernel
theorem dX8_nameAt_61 : decode cX8_nameAt 61 = .ok (.getfield 16, 3) := by decide +kernel
