theorem dX9_in_0 : decode cX9_in 0 = .ok (.iload_n 0, 1) := by decide +kernel
theorem dX9_in_1 : decode cX9_in 1 = .ok (.iload_n 1, 1) := by decide +kernel
theorem dX9_in_2 : decode cX9_in 2 = .ok (.if_icmp .lt 12, 3) := by decide +kernel
theorem dX9_in_5 : decode cX9_in 5 = .ok (.iload_n 0, 1) := by decide +kernel
theorem dX9_in_6 : decode cX9_in 6 = .ok (.iload_n 2, 1) := by decide +kernel
theorem dX9_in_7 : decode cX9_in 7 = .ok (.if_icmp .gt 7, 3) := by decide +kernel
theorem dX9_in_10 : decode cX9_in 10 = .ok (.iconst 1, 1) := by decide +kernel
theorem dX9_in_11 : decode cX9_in 11 = .ok (.goto 4, 3) := by decide +kernel
theorem dX9_in_14 : decode cX9_in 14 = .ok (.iconst 0, 1) := by decide +kernel
theorem dX9_in_15 : decode cX9_in 15 = .ok (.ireturn, 1) := by decide +kernel
theorem dX9_within_0 : decode cX9_within 0 = .ok (.iload_n 0, 1) := by decide +kernel
theorem dX9_within_1 : decode cX9_within 1 = .ok (.iload_n 1, 1) := by decide +kernel
theorem dX9_within_2 : decode cX9_within 2 = .ok (.if_icmp .ge 7, 3) := by decide +kernel
theorem dX9_within_5 : decode cX9_within 5 = .ok (.iload_n 1, 1) := by decide +kernel
theorem dX9_within_6 : decode cX9_within 6 = .ok (.goto 13, 3) := by decide +kernel
theorem dX9_within_9 : decode cX9_within 9 = .ok (.iload_n 0, 1) := by decide +kernel
theorem dX9_within_10 : decode cX9_within 10 = .ok (.iload_n 2, 1) := by decide +kernel
theorem dX9_within_11 : decode cX9_within 11 = .ok (.if_icmp .le 7, 3) := by decide +kernel
theorem dX9_within_14 : decode cX9_within 14 = .ok (.iload_n 2, 1) := by decide +kernel
theorem dX9_within_15 : decode cX9_within 15 = .ok (.goto 4, 3) := by decide +kernel
theorem dX9_within_18 : decode cX9_within 18 = .ok (.iload_n 0, 1) := by decide +kernel
theorem dX9_within_19 : decode cX9_within 19 = .ok (.ireturn, 1) := by decide +kernel
theorem dX9_ones_0 : decode cX9_ones 0 = .ok (.iconst 0, 1) := by decide +kernel
theorem dX9_ones_1 : decode cX9_ones 1 = .ok (.istore_n 1, 1) := by decide +kernel
theorem dX9_ones_2 : decode cX9_ones 2 = .ok (.iconst 0, 1) := by decide +kernel
theorem dX9_ones_3 : decode cX9_ones 3 = .ok (.istore_n 2, 1) := by decide +kernel
theorem dX9_ones_4 : decode cX9_ones 4 = .ok (.iload_n 2, 1) := by decide +kernel
theorem dX9_ones_5 : decode cX9_ones 5 = .ok (.bipush 8, 2) := by decide +kernel
theorem dX9_ones_7 : decode cX9_ones 7 = .ok (.if_icmp .ge 17, 3) := by decide +kernel
theorem dX9_ones_10 : decode cX9_ones 10 = .ok (.iload_n 1, 1) := by decide +kernel
theorem dX9_ones_11 : decode cX9_ones 11 = .ok (.iload_n 0, 1) := by decide +kernel
theorem dX9_ones_12 : decode cX9_ones 12 = .ok (.iload_n 2, 1) := by decide +kernel
theorem dX9_ones_13 : decode cX9_ones 13 = .ok (.ishr, 1) := by decide +kernel
theorem dX9_ones_14 : decode cX9_ones 14 = .ok (.iconst 1, 1) := by decide +kernel
theorem dX9_ones_15 : decode cX9_ones 15 = .ok (.iand, 1) := by decide +kernel
theorem dX9_ones_16 : decode cX9_ones 16 = .ok (.iadd, 1) := by decide +kernel
theorem dX9_ones_17 : decode cX9_ones 17 = .ok (.istore_n 1, 1) := by decide +kernel
theorem dX9_ones_18 : decode cX9_ones 18 = .ok (.iinc 2 1, 3) := by decide +kernel
theorem dX9_ones_21 : decode cX9_ones 21 = .ok (.goto (-17), 3) := by decide +kernel
theorem dX9_ones_24 : decode cX9_ones 24 = .ok (.iload_n 1, 1) := by decide +kernel
theorem dX9_ones_25 : decode cX9_ones 25 = .ok (.ireturn, 1) := by decide +kernel
theorem dX9_isMan_0 : decode cX9_isMan 0 = .ok (.iload_n 1, 1) := by decide +kernel
theorem dX9_isMan_1 : decode cX9_isMan 1 = .ok (.iconst 0, 1) := by decide +kernel
theorem dX9_isMan_2 : decode cX9_isMan 2 = .ok (.aload_n 0, 1) := by decide +kernel
theorem dX9_isMan_3 : decode cX9_isMan 3 = .ok (.getfield 81, 3) := by decide +kernel
theorem dX9_isMan_6 : decode cX9_isMan 6 = .ok (.iconst 1, 1) := by decide +kernel
theorem dX9_isMan_7 : decode cX9_isMan 7 = .ok (.isub, 1) := by decide +kernel
theorem dX9_isMan_8 : decode cX9_isMan 8 = .ok (.invokestatic 84, 3) := by decide +kernel
theorem dX9_isMan_11 : decode cX9_isMan 11 = .ok (.ireturn, 1) := by decide +kernel
theorem dX9_isVow_0 : decode cX9_isVow 0 = .ok (.iload_n 1, 1) := by decide +kernel
theorem dX9_isVow_1 : decode cX9_isVow 1 = .ok (.iconst 0, 1) := by decide +kernel
theorem dX9_isVow_2 : decode cX9_isVow 2 = .ok (.aload_n 0, 1) := by decide +kernel
theorem dX9_isVow_3 : decode cX9_isVow 3 = .ok (.getfield 88, 3) := by decide +kernel
theorem dX9_isVow_6 : decode cX9_isVow 6 = .ok (.iconst 1, 1) := by decide +kernel
theorem dX9_isVow_7 : decode cX9_isVow 7 = .ok (.isub, 1) := by decide +kernel
theorem dX9_isVow_8 : decode cX9_isVow 8 = .ok (.invokestatic 84, 3) := by decide +kernel
theorem dX9_isVow_11 : decode cX9_isVow 11 = .ok (.ireturn, 1) := by decide +kernel
theorem dX9_stands_0 : decode cX9_stands 0 = .ok (.aload_n 0, 1) := by decide +kernel
theorem dX9_stands_1 : decode cX9_stands 1 = .ok (.getfield 19, 3) := by decide +kernel
theorem dX9_stands_4 : decode cX9_stands 4 = .ok (.bipush 6, 2) := by decide +kernel
theorem dX9_stands_6 : decode cX9_stands 6 = .ok (.iload_n 1, 1) := by decide +kernel
theorem dX9_stands_7 : decode cX9_stands 7 = .ok (.imul, 1) := by decide +kernel
theorem dX9_stands_8 : decode cX9_stands 8 = .ok (.iconst 5, 1) := by decide +kernel
theorem dX9_stands_9 : decode cX9_stands 9 = .ok (.iadd, 1) := by decide +kernel
theorem dX9_stands_10 : decode cX9_stands 10 = .ok (.iaload, 1) := by decide +kernel
theorem dX9_stands_11 : decode cX9_stands 11 = .ok (.ifCond .ne 7, 3) := by decide +kernel
theorem dX9_stands_14 : decode cX9_stands 14 = .ok (.iconst 1, 1) := by decide +kernel
theorem dX9_stands_15 : decode cX9_stands 15 = .ok (.goto 4, 3) := by decide +kernel
theorem dX9_stands_18 : decode cX9_stands 18 = .ok (.iconst 0, 1) := by decide +kernel
theorem dX9_stands_19 : decode cX9_stands 19 = .ok (.ireturn, 1) := by decide +kernel
theorem dX9_count_0 : decode cX9_count 0 = .ok (.iload_n 1, 1) := by decide +kernel
theorem dX9_count_1 : decode cX9_count 1 = .ok (.tableswitch 69 0 5 #[39, 44, 49, 54, 59, 64], 39) := by decide +kernel
theorem dX9_count_40 : decode cX9_count 40 = .ok (.aload_n 0, 1) := by decide +kernel
theorem dX9_count_41 : decode cX9_count 41 = .ok (.getfield 81, 3) := by decide +kernel
theorem dX9_count_44 : decode cX9_count 44 = .ok (.ireturn, 1) := by decide +kernel
theorem dX9_count_45 : decode cX9_count 45 = .ok (.aload_n 0, 1) := by decide +kernel
theorem dX9_count_46 : decode cX9_count 46 = .ok (.getfield 88, 3) := by decide +kernel
theorem dX9_count_49 : decode cX9_count 49 = .ok (.ireturn, 1) := by decide +kernel
theorem dX9_count_50 : decode cX9_count 50 = .ok (.aload_n 0, 1) := by decide +kernel
theorem dX9_count_51 : decode cX9_count 51 = .ok (.getfield 91, 3) := by decide +kernel
theorem dX9_count_54 : decode cX9_count 54 = .ok (.ireturn, 1) := by decide +kernel
theorem dX9_count_55 : decode cX9_count 55 = .ok (.aload_n 0, 1) := by decide +kernel
theorem dX9_count_56 : decode cX9_count 56 = .ok (.getfield 94, 3) := by decide +kernel
theorem dX9_count_59 : decode cX9_count 59 = .ok (.ireturn, 1) := by decide +kernel
theorem dX9_count_60 : decode cX9_count 60 = .ok (.aload_n 0, 1) := by decide +kernel
theorem dX9_count_61 : decode cX9_count 61 = .ok (.getfield 97, 3) := by decide +kernel
theorem dX9_count_64 : decode cX9_count 64 = .ok (.ireturn, 1) := by decide +kernel
theorem dX9_count_65 : decode cX9_count 65 = .ok (.aload_n 0, 1) := by decide +kernel
theorem dX9_count_66 : decode cX9_count 66 = .ok (.getfield 73, 3) := by decide +kernel
theorem dX9_count_69 : decode cX9_count 69 = .ok (.ireturn, 1) := by decide +kernel
theorem dX9_count_70 : decode cX9_count 70 = .ok (.bipush (-2), 2) := by decide +kernel
theorem dX9_count_72 : decode cX9_count 72 = .ok (.ireturn, 1) := by decide +kernel
theorem dX9_isByte_0 : decode cX9_isByte 0 = .ok (.iload_n 0, 1) := by decide +kernel
theorem dX9_isByte_1 : decode cX9_isByte 1 = .ok (.iconst 0, 1) := by decide +kernel
theorem dX9_isByte_2 : decode cX9_isByte 2 = .ok (.sipush 255, 3) := by decide +kernel
theorem dX9_isByte_5 : decode cX9_isByte 5 = .ok (.invokestatic 84, 3) := by decide +kernel
theorem dX9_isByte_8 : decode cX9_isByte 8 = .ok (.ireturn, 1) := by decide +kernel
theorem dX9_feed_0 : decode cX9_feed 0 = .ok (.iload_n 1, 1) := by decide +kernel
theorem dX9_feed_1 : decode cX9_feed 1 = .ok (.iconst 1, 1) := by decide +kernel
theorem dX9_feed_2 : decode cX9_feed 2 = .ok (.iconst 5, 1) := by decide +kernel
theorem dX9_feed_3 : decode cX9_feed 3 = .ok (.invokestatic 84, 3) := by decide +kernel
theorem dX9_feed_6 : decode cX9_feed 6 = .ok (.ifCond .eq 41, 3) := by decide +kernel
theorem dX9_feed_9 : decode cX9_feed 9 = .ok (.iload_n 2, 1) := by decide +kernel
theorem dX9_feed_10 : decode cX9_feed 10 = .ok (.invokestatic 100, 3) := by decide +kernel
theorem dX9_feed_13 : decode cX9_feed 13 = .ok (.ifCond .eq 34, 3) := by decide +kernel
theorem dX9_feed_16 : decode cX9_feed 16 = .ok (.iload_n 3, 1) := by decide +kernel
theorem dX9_feed_17 : decode cX9_feed 17 = .ok (.invokestatic 100, 3) := by decide +kernel
theorem dX9_feed_20 : decode cX9_feed 20 = .ok (.ifCond .eq 27, 3) := by decide +kernel
theorem dX9_feed_23 : decode cX9_feed 23 = .ok (.iload 4, 2) := by decide +kernel
theorem dX9_feed_25 : decode cX9_feed 25 = .ok (.invokestatic 100, 3) := by decide +kernel
theorem dX9_feed_28 : decode cX9_feed 28 = .ok (.ifCond .eq 19, 3) := by decide +kernel
theorem dX9_feed_31 : decode cX9_feed 31 = .ok (.iload 5, 2) := by decide +kernel
theorem dX9_feed_33 : decode cX9_feed 33 = .ok (.invokestatic 100, 3) := by decide +kernel
theorem dX9_feed_36 : decode cX9_feed 36 = .ok (.ifCond .eq 11, 3) := by decide +kernel
theorem dX9_feed_39 : decode cX9_feed 39 = .ok (.iload 6, 2) := by decide +kernel
theorem dX9_feed_41 : decode cX9_feed 41 = .ok (.invokestatic 100, 3) := by decide +kernel
theorem dX9_feed_44 : decode cX9_feed 44 = .ok (.ifCond .ne 6, 3) := by decide +kernel
theorem dX9_feed_47 : decode cX9_feed 47 = .ok (.bipush (-2), 2) := by decide +kernel
theorem dX9_feed_49 : decode cX9_feed 49 = .ok (.ireturn, 1) := by decide +kernel
theorem dX9_feed_50 : decode cX9_feed 50 = .ok (.aload_n 0, 1) := by decide +kernel
theorem dX9_feed_51 : decode cX9_feed 51 = .ok (.getfield 73, 3) := by decide +kernel
theorem dX9_feed_54 : decode cX9_feed 54 = .ok (.iload_n 1, 1) := by decide +kernel
theorem dX9_feed_55 : decode cX9_feed 55 = .ok (.iadd, 1) := by decide +kernel
theorem dX9_feed_56 : decode cX9_feed 56 = .ok (.sipush 160, 3) := by decide +kernel
theorem dX9_feed_59 : decode cX9_feed 59 = .ok (.if_icmp .le 6, 3) := by decide +kernel
theorem dX9_feed_62 : decode cX9_feed 62 = .ok (.bipush (-4), 2) := by decide +kernel
theorem dX9_feed_64 : decode cX9_feed 64 = .ok (.ireturn, 1) := by decide +kernel
theorem dX9_feed_65 : decode cX9_feed 65 = .ok (.iconst 0, 1) := by decide +kernel
theorem dX9_feed_66 : decode cX9_feed 66 = .ok (.istore 7, 2) := by decide +kernel
theorem dX9_feed_68 : decode cX9_feed 68 = .ok (.iload 7, 2) := by decide +kernel
theorem dX9_feed_70 : decode cX9_feed 70 = .ok (.iload_n 1, 1) := by decide +kernel
theorem dX9_feed_71 : decode cX9_feed 71 = .ok (.if_icmp .ge 71, 3) := by decide +kernel
theorem dX9_feed_74 : decode cX9_feed 74 = .ok (.aload_n 0, 1) := by decide +kernel
theorem dX9_feed_75 : decode cX9_feed 75 = .ok (.getfield 22, 3) := by decide +kernel
theorem dX9_feed_78 : decode cX9_feed 78 = .ok (.aload_n 0, 1) := by decide +kernel
theorem dX9_feed_79 : decode cX9_feed 79 = .ok (.getfield 73, 3) := by decide +kernel
theorem dX9_feed_82 : decode cX9_feed 82 = .ok (.iload 7, 2) := by decide +kernel
theorem dX9_feed_84 : decode cX9_feed 84 = .ok (.ifCond .ne 7, 3) := by decide +kernel
theorem dX9_feed_87 : decode cX9_feed 87 = .ok (.iload_n 2, 1) := by decide +kernel
theorem dX9_feed_88 : decode cX9_feed 88 = .ok (.goto 37, 3) := by decide +kernel
theorem dX9_feed_91 : decode cX9_feed 91 = .ok (.iload 7, 2) := by decide +kernel
theorem dX9_feed_93 : decode cX9_feed 93 = .ok (.iconst 1, 1) := by decide +kernel
theorem dX9_feed_94 : decode cX9_feed 94 = .ok (.if_icmp .ne 7, 3) := by decide +kernel
theorem dX9_feed_97 : decode cX9_feed 97 = .ok (.iload_n 3, 1) := by decide +kernel
theorem dX9_feed_98 : decode cX9_feed 98 = .ok (.goto 27, 3) := by decide +kernel
theorem dX9_feed_101 : decode cX9_feed 101 = .ok (.iload 7, 2) := by decide +kernel
theorem dX9_feed_103 : decode cX9_feed 103 = .ok (.iconst 2, 1) := by decide +kernel
theorem dX9_feed_104 : decode cX9_feed 104 = .ok (.if_icmp .ne 8, 3) := by decide +kernel
theorem dX9_feed_107 : decode cX9_feed 107 = .ok (.iload 4, 2) := by decide +kernel
theorem dX9_feed_109 : decode cX9_feed 109 = .ok (.goto 16, 3) := by decide +kernel
theorem dX9_feed_112 : decode cX9_feed 112 = .ok (.iload 7, 2) := by decide +kernel
theorem dX9_feed_114 : decode cX9_feed 114 = .ok (.iconst 3, 1) := by decide +kernel
theorem dX9_feed_115 : decode cX9_feed 115 = .ok (.if_icmp .ne 8, 3) := by decide +kernel
theorem dX9_feed_118 : decode cX9_feed 118 = .ok (.iload 5, 2) := by decide +kernel
theorem dX9_feed_120 : decode cX9_feed 120 = .ok (.goto 5, 3) := by decide +kernel
theorem dX9_feed_123 : decode cX9_feed 123 = .ok (.iload 6, 2) := by decide +kernel
theorem dX9_feed_125 : decode cX9_feed 125 = .ok (.iastore, 1) := by decide +kernel
theorem dX9_feed_126 : decode cX9_feed 126 = .ok (.aload_n 0, 1) := by decide +kernel
theorem dX9_feed_127 : decode cX9_feed 127 = .ok (.dup, 1) := by decide +kernel
theorem dX9_feed_128 : decode cX9_feed 128 = .ok (.getfield 73, 3) := by decide +kernel
theorem dX9_feed_131 : decode cX9_feed 131 = .ok (.iconst 1, 1) := by decide +kernel
theorem dX9_feed_132 : decode cX9_feed 132 = .ok (.iadd, 1) := by decide +kernel
theorem dX9_feed_133 : decode cX9_feed 133 = .ok (.putfield 73, 3) := by decide +kernel
theorem dX9_feed_136 : decode cX9_feed 136 = .ok (.iinc 7 1, 3) := by decide +kernel
theorem dX9_feed_139 : decode cX9_feed 139 = .ok (.goto (-71), 3) := by decide +kernel
theorem dX9_feed_142 : decode cX9_feed 142 = .ok (.aload_n 0, 1) := by decide +kernel
theorem dX9_feed_143 : decode cX9_feed 143 = .ok (.getfield 73, 3) := by decide +kernel
theorem dX9_feed_146 : decode cX9_feed 146 = .ok (.ireturn, 1) := by decide +kernel
theorem dX9_wordFrom_0 : decode cX9_wordFrom 0 = .ok (.iconst 0, 1) := by decide +kernel
theorem dX9_wordFrom_1 : decode cX9_wordFrom 1 = .ok (.istore_n 3, 1) := by decide +kernel
theorem dX9_wordFrom_2 : decode cX9_wordFrom 2 = .ok (.iload_n 3, 1) := by decide +kernel
theorem dX9_wordFrom_3 : decode cX9_wordFrom 3 = .ok (.bipush 12, 2) := by decide +kernel
theorem dX9_wordFrom_5 : decode cX9_wordFrom 5 = .ok (.if_icmp .ge 96, 3) := by decide +kernel
theorem dX9_wordFrom_8 : decode cX9_wordFrom 8 = .ok (.iload_n 2, 1) := by decide +kernel
theorem dX9_wordFrom_9 : decode cX9_wordFrom 9 = .ok (.iload_n 1, 1) := by decide +kernel
theorem dX9_wordFrom_10 : decode cX9_wordFrom 10 = .ok (.isub, 1) := by decide +kernel
theorem dX9_wordFrom_11 : decode cX9_wordFrom 11 = .ok (.bipush 8, 2) := by decide +kernel
theorem dX9_wordFrom_13 : decode cX9_wordFrom 13 = .ok (.if_icmp .gt 7, 3) := by decide +kernel
theorem dX9_wordFrom_16 : decode cX9_wordFrom 16 = .ok (.iconst 1, 1) := by decide +kernel
theorem dX9_wordFrom_17 : decode cX9_wordFrom 17 = .ok (.goto 4, 3) := by decide +kernel
theorem dX9_wordFrom_20 : decode cX9_wordFrom 20 = .ok (.iconst 0, 1) := by decide +kernel
theorem dX9_wordFrom_21 : decode cX9_wordFrom 21 = .ok (.istore 4, 2) := by decide +kernel
theorem dX9_wordFrom_23 : decode cX9_wordFrom 23 = .ok (.iconst 0, 1) := by decide +kernel
theorem dX9_wordFrom_24 : decode cX9_wordFrom 24 = .ok (.istore 5, 2) := by decide +kernel
theorem dX9_wordFrom_26 : decode cX9_wordFrom 26 = .ok (.iload 5, 2) := by decide +kernel
theorem dX9_wordFrom_28 : decode cX9_wordFrom 28 = .ok (.bipush 8, 2) := by decide +kernel
theorem dX9_wordFrom_30 : decode cX9_wordFrom 30 = .ok (.if_icmp .ge 58, 3) := by decide +kernel
theorem dX9_wordFrom_33 : decode cX9_wordFrom 33 = .ok (.iload 4, 2) := by decide +kernel
theorem dX9_wordFrom_35 : decode cX9_wordFrom 35 = .ok (.ifCond .eq 53, 3) := by decide +kernel
theorem dX9_wordFrom_38 : decode cX9_wordFrom 38 = .ok (.aload_n 0, 1) := by decide +kernel
theorem dX9_wordFrom_39 : decode cX9_wordFrom 39 = .ok (.getfield 46, 3) := by decide +kernel
theorem dX9_wordFrom_42 : decode cX9_wordFrom 42 = .ok (.bipush 8, 2) := by decide +kernel
theorem dX9_wordFrom_44 : decode cX9_wordFrom 44 = .ok (.iload_n 3, 1) := by decide +kernel
theorem dX9_wordFrom_45 : decode cX9_wordFrom 45 = .ok (.imul, 1) := by decide +kernel
theorem dX9_wordFrom_46 : decode cX9_wordFrom 46 = .ok (.iload 5, 2) := by decide +kernel
theorem dX9_wordFrom_48 : decode cX9_wordFrom 48 = .ok (.iadd, 1) := by decide +kernel
theorem dX9_wordFrom_49 : decode cX9_wordFrom 49 = .ok (.iaload, 1) := by decide +kernel
theorem dX9_wordFrom_50 : decode cX9_wordFrom 50 = .ok (.iload_n 1, 1) := by decide +kernel
theorem dX9_wordFrom_51 : decode cX9_wordFrom 51 = .ok (.iload 5, 2) := by decide +kernel
theorem dX9_wordFrom_53 : decode cX9_wordFrom 53 = .ok (.iadd, 1) := by decide +kernel
theorem dX9_wordFrom_54 : decode cX9_wordFrom 54 = .ok (.iload_n 2, 1) := by decide +kernel
theorem dX9_wordFrom_55 : decode cX9_wordFrom 55 = .ok (.if_icmp .ge 15, 3) := by decide +kernel
theorem dX9_wordFrom_58 : decode cX9_wordFrom 58 = .ok (.aload_n 0, 1) := by decide +kernel
theorem dX9_wordFrom_59 : decode cX9_wordFrom 59 = .ok (.getfield 22, 3) := by decide +kernel
theorem dX9_wordFrom_62 : decode cX9_wordFrom 62 = .ok (.iload_n 1, 1) := by decide +kernel
theorem dX9_wordFrom_63 : decode cX9_wordFrom 63 = .ok (.iload 5, 2) := by decide +kernel
theorem dX9_wordFrom_65 : decode cX9_wordFrom 65 = .ok (.iadd, 1) := by decide +kernel
theorem dX9_wordFrom_66 : decode cX9_wordFrom 66 = .ok (.iaload, 1) := by decide +kernel
theorem dX9_wordFrom_67 : decode cX9_wordFrom 67 = .ok (.goto 5, 3) := by decide +kernel
theorem dX9_wordFrom_70 : decode cX9_wordFrom 70 = .ok (.bipush 32, 2) := by decide +kernel
theorem dX9_wordFrom_72 : decode cX9_wordFrom 72 = .ok (.if_icmp .ne 7, 3) := by decide +kernel
theorem dX9_wordFrom_75 : decode cX9_wordFrom 75 = .ok (.iconst 1, 1) := by decide +kernel
theorem dX9_wordFrom_76 : decode cX9_wordFrom 76 = .ok (.goto 4, 3) := by decide +kernel
theorem dX9_wordFrom_79 : decode cX9_wordFrom 79 = .ok (.iconst 0, 1) := by decide +kernel
theorem dX9_wordFrom_80 : decode cX9_wordFrom 80 = .ok (.istore 4, 2) := by decide +kernel
theorem dX9_wordFrom_82 : decode cX9_wordFrom 82 = .ok (.iinc 5 1, 3) := by decide +kernel
theorem dX9_wordFrom_85 : decode cX9_wordFrom 85 = .ok (.goto (-59), 3) := by decide +kernel
theorem dX9_wordFrom_88 : decode cX9_wordFrom 88 = .ok (.iload 4, 2) := by decide +kernel
theorem dX9_wordFrom_90 : decode cX9_wordFrom 90 = .ok (.ifCond .eq 5, 3) := by decide +kernel
theorem dX9_wordFrom_93 : decode cX9_wordFrom 93 = .ok (.iload_n 3, 1) := by decide +kernel
theorem dX9_wordFrom_94 : decode cX9_wordFrom 94 = .ok (.ireturn, 1) := by decide +kernel
theorem dX9_wordFrom_95 : decode cX9_wordFrom 95 = .ok (.iinc 3 1, 3) := by decide +kernel
theorem dX9_wordFrom_98 : decode cX9_wordFrom 98 = .ok (.goto (-96), 3) := by decide +kernel
theorem dX9_wordFrom_101 : decode cX9_wordFrom 101 = .ok (.bipush 12, 2) := by decide +kernel
theorem dX9_wordFrom_103 : decode cX9_wordFrom 103 = .ok (.ireturn, 1) := by decide +kernel
theorem dX9_next_0 : decode cX9_next 0 = .ok (.aload_n 0, 1) := by decide +kernel
theorem dX9_next_1 : decode cX9_next 1 = .ok (.getfield 104, 3) := by decide +kernel
theorem dX9_next_4 : decode cX9_next 4 = .ok (.aload_n 0, 1) := by decide +kernel
theorem dX9_next_5 : decode cX9_next 5 = .ok (.getfield 73, 3) := by decide +kernel
theorem dX9_next_8 : decode cX9_next 8 = .ok (.if_icmp .ge 44, 3) := by decide +kernel
theorem dX9_next_11 : decode cX9_next 11 = .ok (.aload_n 0, 1) := by decide +kernel
theorem dX9_next_12 : decode cX9_next 12 = .ok (.getfield 22, 3) := by decide +kernel
theorem dX9_next_15 : decode cX9_next 15 = .ok (.aload_n 0, 1) := by decide +kernel
theorem dX9_next_16 : decode cX9_next 16 = .ok (.getfield 104, 3) := by decide +kernel
theorem dX9_next_19 : decode cX9_next 19 = .ok (.iaload, 1) := by decide +kernel
theorem dX9_next_20 : decode cX9_next 20 = .ok (.bipush 32, 2) := by decide +kernel
theorem dX9_next_22 : decode cX9_next 22 = .ok (.if_icmp .eq 17, 3) := by decide +kernel
theorem dX9_next_25 : decode cX9_next 25 = .ok (.aload_n 0, 1) := by decide +kernel
theorem dX9_next_26 : decode cX9_next 26 = .ok (.getfield 22, 3) := by decide +kernel
theorem dX9_next_29 : decode cX9_next 29 = .ok (.aload_n 0, 1) := by decide +kernel
theorem dX9_next_30 : decode cX9_next 30 = .ok (.getfield 104, 3) := by decide +kernel
theorem dX9_next_33 : decode cX9_next 33 = .ok (.iaload, 1) := by decide +kernel
theorem dX9_next_34 : decode cX9_next 34 = .ok (.bipush 10, 2) := by decide +kernel
theorem dX9_next_36 : decode cX9_next 36 = .ok (.if_icmp .ne 16, 3) := by decide +kernel
theorem dX9_next_39 : decode cX9_next 39 = .ok (.aload_n 0, 1) := by decide +kernel
theorem dX9_next_40 : decode cX9_next 40 = .ok (.dup, 1) := by decide +kernel
theorem dX9_next_41 : decode cX9_next 41 = .ok (.getfield 104, 3) := by decide +kernel
theorem dX9_next_44 : decode cX9_next 44 = .ok (.iconst 1, 1) := by decide +kernel
theorem dX9_next_45 : decode cX9_next 45 = .ok (.iadd, 1) := by decide +kernel
theorem dX9_next_46 : decode cX9_next 46 = .ok (.putfield 104, 3) := by decide +kernel
theorem dX9_next_49 : decode cX9_next 49 = .ok (.goto (-49), 3) := by decide +kernel
theorem dX9_next_52 : decode cX9_next 52 = .ok (.aload_n 0, 1) := by decide +kernel
theorem dX9_next_53 : decode cX9_next 53 = .ok (.aload_n 0, 1) := by decide +kernel
theorem dX9_next_54 : decode cX9_next 54 = .ok (.getfield 104, 3) := by decide +kernel
theorem dX9_next_57 : decode cX9_next 57 = .ok (.putfield 107, 3) := by decide +kernel
theorem dX9_next_60 : decode cX9_next 60 = .ok (.aload_n 0, 1) := by decide +kernel
theorem dX9_next_61 : decode cX9_next 61 = .ok (.iconst 0, 1) := by decide +kernel
theorem dX9_next_62 : decode cX9_next 62 = .ok (.putfield 110, 3) := by decide +kernel
theorem dX9_next_65 : decode cX9_next 65 = .ok (.aload_n 0, 1) := by decide +kernel
theorem dX9_next_66 : decode cX9_next 66 = .ok (.iconst 0, 1) := by decide +kernel
theorem dX9_next_67 : decode cX9_next 67 = .ok (.putfield 113, 3) := by decide +kernel
theorem dX9_next_70 : decode cX9_next 70 = .ok (.aload_n 0, 1) := by decide +kernel
theorem dX9_next_71 : decode cX9_next 71 = .ok (.getfield 104, 3) := by decide +kernel
theorem dX9_next_74 : decode cX9_next 74 = .ok (.aload_n 0, 1) := by decide +kernel
theorem dX9_next_75 : decode cX9_next 75 = .ok (.getfield 73, 3) := by decide +kernel
theorem dX9_next_78 : decode cX9_next 78 = .ok (.if_icmp .ne 4, 3) := by decide +kernel
theorem dX9_next_81 : decode cX9_next 81 = .ok (.return_, 1) := by decide +kernel
theorem dX9_next_82 : decode cX9_next 82 = .ok (.aload_n 0, 1) := by decide +kernel
theorem dX9_next_83 : decode cX9_next 83 = .ok (.getfield 22, 3) := by decide +kernel
theorem dX9_next_86 : decode cX9_next 86 = .ok (.aload_n 0, 1) := by decide +kernel
theorem dX9_next_87 : decode cX9_next 87 = .ok (.getfield 104, 3) := by decide +kernel
theorem dX9_next_90 : decode cX9_next 90 = .ok (.iaload, 1) := by decide +kernel
theorem dX9_next_91 : decode cX9_next 91 = .ok (.istore_n 1, 1) := by decide +kernel
theorem dX9_next_92 : decode cX9_next 92 = .ok (.iload_n 1, 1) := by decide +kernel
theorem dX9_next_93 : decode cX9_next 93 = .ok (.bipush 97, 2) := by decide +kernel
theorem dX9_next_95 : decode cX9_next 95 = .ok (.bipush 122, 2) := by decide +kernel
theorem dX9_next_97 : decode cX9_next 97 = .ok (.invokestatic 84, 3) := by decide +kernel
theorem dX9_next_100 : decode cX9_next 100 = .ok (.ifCond .eq 117, 3) := by decide +kernel
theorem dX9_next_103 : decode cX9_next 103 = .ok (.aload_n 0, 1) := by decide +kernel
theorem dX9_next_104 : decode cX9_next 104 = .ok (.getfield 104, 3) := by decide +kernel
theorem dX9_next_107 : decode cX9_next 107 = .ok (.aload_n 0, 1) := by decide +kernel
theorem dX9_next_108 : decode cX9_next 108 = .ok (.getfield 73, 3) := by decide +kernel
theorem dX9_next_111 : decode cX9_next 111 = .ok (.if_icmp .ge 35, 3) := by decide +kernel
theorem dX9_next_114 : decode cX9_next 114 = .ok (.aload_n 0, 1) := by decide +kernel
theorem dX9_next_115 : decode cX9_next 115 = .ok (.getfield 22, 3) := by decide +kernel
theorem dX9_next_118 : decode cX9_next 118 = .ok (.aload_n 0, 1) := by decide +kernel
theorem dX9_next_119 : decode cX9_next 119 = .ok (.getfield 104, 3) := by decide +kernel
theorem dX9_next_122 : decode cX9_next 122 = .ok (.iaload, 1) := by decide +kernel
theorem dX9_next_123 : decode cX9_next 123 = .ok (.bipush 97, 2) := by decide +kernel
theorem dX9_next_125 : decode cX9_next 125 = .ok (.bipush 122, 2) := by decide +kernel
theorem dX9_next_127 : decode cX9_next 127 = .ok (.invokestatic 84, 3) := by decide +kernel
theorem dX9_next_130 : decode cX9_next 130 = .ok (.ifCond .eq 16, 3) := by decide +kernel
theorem dX9_next_133 : decode cX9_next 133 = .ok (.aload_n 0, 1) := by decide +kernel
theorem dX9_next_134 : decode cX9_next 134 = .ok (.dup, 1) := by decide +kernel
theorem dX9_next_135 : decode cX9_next 135 = .ok (.getfield 104, 3) := by decide +kernel
theorem dX9_next_138 : decode cX9_next 138 = .ok (.iconst 1, 1) := by decide +kernel
theorem dX9_next_139 : decode cX9_next 139 = .ok (.iadd, 1) := by decide +kernel
theorem dX9_next_140 : decode cX9_next 140 = .ok (.putfield 104, 3) := by decide +kernel
theorem dX9_next_143 : decode cX9_next 143 = .ok (.goto (-40), 3) := by decide +kernel
theorem dX9_next_146 : decode cX9_next 146 = .ok (.aload_n 0, 1) := by decide +kernel
theorem dX9_next_147 : decode cX9_next 147 = .ok (.aload_n 0, 1) := by decide +kernel
theorem dX9_next_148 : decode cX9_next 148 = .ok (.getfield 107, 3) := by decide +kernel
theorem dX9_next_151 : decode cX9_next 151 = .ok (.aload_n 0, 1) := by decide +kernel
theorem dX9_next_152 : decode cX9_next 152 = .ok (.getfield 104, 3) := by decide +kernel
theorem dX9_next_155 : decode cX9_next 155 = .ok (.invokevirtual 116, 3) := by decide +kernel
theorem dX9_next_158 : decode cX9_next 158 = .ok (.istore_n 2, 1) := by decide +kernel
theorem dX9_next_159 : decode cX9_next 159 = .ok (.aload_n 0, 1) := by decide +kernel
theorem dX9_next_160 : decode cX9_next 160 = .ok (.iload_n 2, 1) := by decide +kernel
theorem dX9_next_161 : decode cX9_next 161 = .ok (.iconst 3, 1) := by decide +kernel
theorem dX9_next_162 : decode cX9_next 162 = .ok (.if_icmp .ge 7, 3) := by decide +kernel
theorem dX9_next_165 : decode cX9_next 165 = .ok (.iconst 3, 1) := by decide +kernel
theorem dX9_next_166 : decode cX9_next 166 = .ok (.goto 29, 3) := by decide +kernel
theorem dX9_next_169 : decode cX9_next 169 = .ok (.iload_n 2, 1) := by decide +kernel
theorem dX9_next_170 : decode cX9_next 170 = .ok (.bipush 9, 2) := by decide +kernel
theorem dX9_next_172 : decode cX9_next 172 = .ok (.if_icmp .ge 7, 3) := by decide +kernel
theorem dX9_next_175 : decode cX9_next 175 = .ok (.iconst 2, 1) := by decide +kernel
theorem dX9_next_176 : decode cX9_next 176 = .ok (.goto 19, 3) := by decide +kernel
theorem dX9_next_179 : decode cX9_next 179 = .ok (.iload_n 2, 1) := by decide +kernel
theorem dX9_next_180 : decode cX9_next 180 = .ok (.bipush 12, 2) := by decide +kernel
theorem dX9_next_182 : decode cX9_next 182 = .ok (.if_icmp .ne 7, 3) := by decide +kernel
theorem dX9_next_185 : decode cX9_next 185 = .ok (.iconst (-1), 1) := by decide +kernel
theorem dX9_next_186 : decode cX9_next 186 = .ok (.goto 9, 3) := by decide +kernel
theorem dX9_next_189 : decode cX9_next 189 = .ok (.iconst 4, 1) := by decide +kernel
theorem dX9_next_190 : decode cX9_next 190 = .ok (.iload_n 2, 1) := by decide +kernel
theorem dX9_next_191 : decode cX9_next 191 = .ok (.iadd, 1) := by decide +kernel
theorem dX9_next_192 : decode cX9_next 192 = .ok (.bipush 9, 2) := by decide +kernel
theorem dX9_next_194 : decode cX9_next 194 = .ok (.isub, 1) := by decide +kernel
theorem dX9_next_195 : decode cX9_next 195 = .ok (.putfield 110, 3) := by decide +kernel
theorem dX9_next_198 : decode cX9_next 198 = .ok (.aload_n 0, 1) := by decide +kernel
theorem dX9_next_199 : decode cX9_next 199 = .ok (.iload_n 2, 1) := by decide +kernel
theorem dX9_next_200 : decode cX9_next 200 = .ok (.iconst 3, 1) := by decide +kernel
theorem dX9_next_201 : decode cX9_next 201 = .ok (.if_icmp .ge 7, 3) := by decide +kernel
theorem dX9_next_204 : decode cX9_next 204 = .ok (.iload_n 2, 1) := by decide +kernel
theorem dX9_next_205 : decode cX9_next 205 = .ok (.goto 6, 3) := by decide +kernel
theorem dX9_next_208 : decode cX9_next 208 = .ok (.iload_n 2, 1) := by decide +kernel
theorem dX9_next_209 : decode cX9_next 209 = .ok (.iconst 3, 1) := by decide +kernel
theorem dX9_next_210 : decode cX9_next 210 = .ok (.isub, 1) := by decide +kernel
theorem dX9_next_211 : decode cX9_next 211 = .ok (.putfield 113, 3) := by decide +kernel
theorem dX9_next_214 : decode cX9_next 214 = .ok (.goto 189, 3) := by decide +kernel
theorem dX9_next_217 : decode cX9_next 217 = .ok (.iload_n 1, 1) := by decide +kernel
theorem dX9_next_218 : decode cX9_next 218 = .ok (.bipush 48, 2) := by decide +kernel
theorem dX9_next_220 : decode cX9_next 220 = .ok (.bipush 57, 2) := by decide +kernel
theorem dX9_next_222 : decode cX9_next 222 = .ok (.invokestatic 84, 3) := by decide +kernel
theorem dX9_next_225 : decode cX9_next 225 = .ok (.ifCond .eq 101, 3) := by decide +kernel
theorem dX9_next_228 : decode cX9_next 228 = .ok (.iconst 0, 1) := by decide +kernel
theorem dX9_next_229 : decode cX9_next 229 = .ok (.istore_n 2, 1) := by decide +kernel
theorem dX9_next_230 : decode cX9_next 230 = .ok (.aload_n 0, 1) := by decide +kernel
theorem dX9_next_231 : decode cX9_next 231 = .ok (.getfield 104, 3) := by decide +kernel
theorem dX9_next_234 : decode cX9_next 234 = .ok (.aload_n 0, 1) := by decide +kernel
theorem dX9_next_235 : decode cX9_next 235 = .ok (.getfield 73, 3) := by decide +kernel
theorem dX9_next_238 : decode cX9_next 238 = .ok (.if_icmp .ge 71, 3) := by decide +kernel
theorem dX9_next_241 : decode cX9_next 241 = .ok (.aload_n 0, 1) := by decide +kernel
theorem dX9_next_242 : decode cX9_next 242 = .ok (.getfield 22, 3) := by decide +kernel
theorem dX9_next_245 : decode cX9_next 245 = .ok (.aload_n 0, 1) := by decide +kernel
theorem dX9_next_246 : decode cX9_next 246 = .ok (.getfield 104, 3) := by decide +kernel
theorem dX9_next_249 : decode cX9_next 249 = .ok (.iaload, 1) := by decide +kernel
theorem dX9_next_250 : decode cX9_next 250 = .ok (.bipush 48, 2) := by decide +kernel
theorem dX9_next_252 : decode cX9_next 252 = .ok (.bipush 57, 2) := by decide +kernel
theorem dX9_next_254 : decode cX9_next 254 = .ok (.invokestatic 84, 3) := by decide +kernel
theorem dX9_next_257 : decode cX9_next 257 = .ok (.ifCond .eq 52, 3) := by decide +kernel
theorem dX9_next_260 : decode cX9_next 260 = .ok (.aload_n 0, 1) := by decide +kernel
theorem dX9_next_261 : decode cX9_next 261 = .ok (.iload_n 2, 1) := by decide +kernel
theorem dX9_next_262 : decode cX9_next 262 = .ok (.iconst 4, 1) := by decide +kernel
theorem dX9_next_263 : decode cX9_next 263 = .ok (.if_icmp .ge 26, 3) := by decide +kernel
theorem dX9_next_266 : decode cX9_next 266 = .ok (.bipush 10, 2) := by decide +kernel
theorem dX9_next_268 : decode cX9_next 268 = .ok (.aload_n 0, 1) := by decide +kernel
theorem dX9_next_269 : decode cX9_next 269 = .ok (.getfield 113, 3) := by decide +kernel
theorem dX9_next_272 : decode cX9_next 272 = .ok (.imul, 1) := by decide +kernel
theorem dX9_next_273 : decode cX9_next 273 = .ok (.aload_n 0, 1) := by decide +kernel
theorem dX9_next_274 : decode cX9_next 274 = .ok (.getfield 22, 3) := by decide +kernel
theorem dX9_next_277 : decode cX9_next 277 = .ok (.aload_n 0, 1) := by decide +kernel
theorem dX9_next_278 : decode cX9_next 278 = .ok (.getfield 104, 3) := by decide +kernel
theorem dX9_next_281 : decode cX9_next 281 = .ok (.iaload, 1) := by decide +kernel
theorem dX9_next_282 : decode cX9_next 282 = .ok (.iadd, 1) := by decide +kernel
theorem dX9_next_283 : decode cX9_next 283 = .ok (.bipush 48, 2) := by decide +kernel
theorem dX9_next_285 : decode cX9_next 285 = .ok (.isub, 1) := by decide +kernel
theorem dX9_next_286 : decode cX9_next 286 = .ok (.goto 4, 3) := by decide +kernel
theorem dX9_next_289 : decode cX9_next 289 = .ok (.iconst 0, 1) := by decide +kernel
theorem dX9_next_290 : decode cX9_next 290 = .ok (.putfield 113, 3) := by decide +kernel
theorem dX9_next_293 : decode cX9_next 293 = .ok (.iinc 2 1, 3) := by decide +kernel
theorem dX9_next_296 : decode cX9_next 296 = .ok (.aload_n 0, 1) := by decide +kernel
theorem dX9_next_297 : decode cX9_next 297 = .ok (.dup, 1) := by decide +kernel
theorem dX9_next_298 : decode cX9_next 298 = .ok (.getfield 104, 3) := by decide +kernel
theorem dX9_next_301 : decode cX9_next 301 = .ok (.iconst 1, 1) := by decide +kernel
theorem dX9_next_302 : decode cX9_next 302 = .ok (.iadd, 1) := by decide +kernel
theorem dX9_next_303 : decode cX9_next 303 = .ok (.putfield 104, 3) := by decide +kernel
theorem dX9_next_306 : decode cX9_next 306 = .ok (.goto (-76), 3) := by decide +kernel
theorem dX9_next_309 : decode cX9_next 309 = .ok (.aload_n 0, 1) := by decide +kernel
theorem dX9_next_310 : decode cX9_next 310 = .ok (.iload_n 2, 1) := by decide +kernel
theorem dX9_next_311 : decode cX9_next 311 = .ok (.iconst 4, 1) := by decide +kernel
theorem dX9_next_312 : decode cX9_next 312 = .ok (.if_icmp .le 7, 3) := by decide +kernel
theorem dX9_next_315 : decode cX9_next 315 = .ok (.iconst (-1), 1) := by decide +kernel
theorem dX9_next_316 : decode cX9_next 316 = .ok (.goto 4, 3) := by decide +kernel
theorem dX9_next_319 : decode cX9_next 319 = .ok (.iconst 1, 1) := by decide +kernel
theorem dX9_next_320 : decode cX9_next 320 = .ok (.putfield 110, 3) := by decide +kernel
theorem dX9_next_323 : decode cX9_next 323 = .ok (.goto 80, 3) := by decide +kernel
theorem dX9_next_326 : decode cX9_next 326 = .ok (.iload_n 1, 1) := by decide +kernel
theorem dX9_next_327 : decode cX9_next 327 = .ok (.bipush 40, 2) := by decide +kernel
theorem dX9_next_329 : decode cX9_next 329 = .ok (.if_icmp .eq 45, 3) := by decide +kernel
theorem dX9_next_332 : decode cX9_next 332 = .ok (.iload_n 1, 1) := by decide +kernel
theorem dX9_next_333 : decode cX9_next 333 = .ok (.bipush 41, 2) := by decide +kernel
theorem dX9_next_335 : decode cX9_next 335 = .ok (.if_icmp .eq 39, 3) := by decide +kernel
theorem dX9_next_338 : decode cX9_next 338 = .ok (.iload_n 1, 1) := by decide +kernel
theorem dX9_next_339 : decode cX9_next 339 = .ok (.bipush 59, 2) := by decide +kernel
theorem dX9_next_341 : decode cX9_next 341 = .ok (.if_icmp .eq 33, 3) := by decide +kernel
theorem dX9_next_344 : decode cX9_next 344 = .ok (.iload_n 1, 1) := by decide +kernel
theorem dX9_next_345 : decode cX9_next 345 = .ok (.bipush 43, 2) := by decide +kernel
theorem dX9_next_347 : decode cX9_next 347 = .ok (.if_icmp .eq 27, 3) := by decide +kernel
theorem dX9_next_350 : decode cX9_next 350 = .ok (.iload_n 1, 1) := by decide +kernel
theorem dX9_next_351 : decode cX9_next 351 = .ok (.bipush 45, 2) := by decide +kernel
theorem dX9_next_353 : decode cX9_next 353 = .ok (.if_icmp .eq 21, 3) := by decide +kernel
theorem dX9_next_356 : decode cX9_next 356 = .ok (.iload_n 1, 1) := by decide +kernel
theorem dX9_next_357 : decode cX9_next 357 = .ok (.bipush 42, 2) := by decide +kernel
theorem dX9_next_359 : decode cX9_next 359 = .ok (.if_icmp .eq 15, 3) := by decide +kernel
theorem dX9_next_362 : decode cX9_next 362 = .ok (.iload_n 1, 1) := by decide +kernel
theorem dX9_next_363 : decode cX9_next 363 = .ok (.bipush 60, 2) := by decide +kernel
theorem dX9_next_365 : decode cX9_next 365 = .ok (.if_icmp .eq 9, 3) := by decide +kernel
theorem dX9_next_368 : decode cX9_next 368 = .ok (.iload_n 1, 1) := by decide +kernel
theorem dX9_next_369 : decode cX9_next 369 = .ok (.bipush 61, 2) := by decide +kernel
theorem dX9_next_371 : decode cX9_next 371 = .ok (.if_icmp .ne 7, 3) := by decide +kernel
theorem dX9_next_374 : decode cX9_next 374 = .ok (.iconst 1, 1) := by decide +kernel
theorem dX9_next_375 : decode cX9_next 375 = .ok (.goto 4, 3) := by decide +kernel
theorem dX9_next_378 : decode cX9_next 378 = .ok (.iconst 0, 1) := by decide +kernel
theorem dX9_next_379 : decode cX9_next 379 = .ok (.istore_n 2, 1) := by decide +kernel
theorem dX9_next_380 : decode cX9_next 380 = .ok (.aload_n 0, 1) := by decide +kernel
theorem dX9_next_381 : decode cX9_next 381 = .ok (.iload_n 2, 1) := by decide +kernel
theorem dX9_next_382 : decode cX9_next 382 = .ok (.ifCond .eq 7, 3) := by decide +kernel
theorem dX9_next_385 : decode cX9_next 385 = .ok (.iload_n 1, 1) := by decide +kernel
theorem dX9_next_386 : decode cX9_next 386 = .ok (.goto 4, 3) := by decide +kernel
theorem dX9_next_389 : decode cX9_next 389 = .ok (.iconst (-1), 1) := by decide +kernel
theorem dX9_next_390 : decode cX9_next 390 = .ok (.putfield 110, 3) := by decide +kernel
theorem dX9_next_393 : decode cX9_next 393 = .ok (.aload_n 0, 1) := by decide +kernel
theorem dX9_next_394 : decode cX9_next 394 = .ok (.dup, 1) := by decide +kernel
theorem dX9_next_395 : decode cX9_next 395 = .ok (.getfield 104, 3) := by decide +kernel
theorem dX9_next_398 : decode cX9_next 398 = .ok (.iconst 1, 1) := by decide +kernel
theorem dX9_next_399 : decode cX9_next 399 = .ok (.iadd, 1) := by decide +kernel
theorem dX9_next_400 : decode cX9_next 400 = .ok (.putfield 104, 3) := by decide +kernel
theorem dX9_next_403 : decode cX9_next 403 = .ok (.return_, 1) := by decide +kernel
theorem dX9_rank_0 : decode cX9_rank 0 = .ok (.iload_n 0, 1) := by decide +kernel
theorem dX9_rank_1 : decode cX9_rank 1 = .ok (.ifCond .ne 7, 3) := by decide +kernel
theorem dX9_rank_4 : decode cX9_rank 4 = .ok (.iconst 0, 1) := by decide +kernel
theorem dX9_rank_5 : decode cX9_rank 5 = .ok (.goto 66, 3) := by decide +kernel
theorem dX9_rank_8 : decode cX9_rank 8 = .ok (.iload_n 0, 1) := by decide +kernel
theorem dX9_rank_9 : decode cX9_rank 9 = .ok (.bipush 11, 2) := by decide +kernel
theorem dX9_rank_11 : decode cX9_rank 11 = .ok (.if_icmp .ne 7, 3) := by decide +kernel
theorem dX9_rank_14 : decode cX9_rank 14 = .ok (.iconst 1, 1) := by decide +kernel
theorem dX9_rank_15 : decode cX9_rank 15 = .ok (.goto 56, 3) := by decide +kernel
theorem dX9_rank_18 : decode cX9_rank 18 = .ok (.iload_n 0, 1) := by decide +kernel
theorem dX9_rank_19 : decode cX9_rank 19 = .ok (.bipush 12, 2) := by decide +kernel
theorem dX9_rank_21 : decode cX9_rank 21 = .ok (.if_icmp .ne 7, 3) := by decide +kernel
theorem dX9_rank_24 : decode cX9_rank 24 = .ok (.iconst 2, 1) := by decide +kernel
theorem dX9_rank_25 : decode cX9_rank 25 = .ok (.goto 46, 3) := by decide +kernel
theorem dX9_rank_28 : decode cX9_rank 28 = .ok (.iload_n 0, 1) := by decide +kernel
theorem dX9_rank_29 : decode cX9_rank 29 = .ok (.bipush 13, 2) := by decide +kernel
theorem dX9_rank_31 : decode cX9_rank 31 = .ok (.if_icmp .ne 7, 3) := by decide +kernel
theorem dX9_rank_34 : decode cX9_rank 34 = .ok (.iconst 3, 1) := by decide +kernel
theorem dX9_rank_35 : decode cX9_rank 35 = .ok (.goto 36, 3) := by decide +kernel
theorem dX9_rank_38 : decode cX9_rank 38 = .ok (.iload_n 0, 1) := by decide +kernel
theorem dX9_rank_39 : decode cX9_rank 39 = .ok (.bipush 15, 2) := by decide +kernel
theorem dX9_rank_41 : decode cX9_rank 41 = .ok (.if_icmp .gt 7, 3) := by decide +kernel
theorem dX9_rank_44 : decode cX9_rank 44 = .ok (.iconst 4, 1) := by decide +kernel
theorem dX9_rank_45 : decode cX9_rank 45 = .ok (.goto 26, 3) := by decide +kernel
theorem dX9_rank_48 : decode cX9_rank 48 = .ok (.iload_n 0, 1) := by decide +kernel
theorem dX9_rank_49 : decode cX9_rank 49 = .ok (.bipush 17, 2) := by decide +kernel
theorem dX9_rank_51 : decode cX9_rank 51 = .ok (.if_icmp .gt 7, 3) := by decide +kernel
theorem dX9_rank_54 : decode cX9_rank 54 = .ok (.iconst 5, 1) := by decide +kernel
theorem dX9_rank_55 : decode cX9_rank 55 = .ok (.goto 16, 3) := by decide +kernel
theorem dX9_rank_58 : decode cX9_rank 58 = .ok (.iload_n 0, 1) := by decide +kernel
theorem dX9_rank_59 : decode cX9_rank 59 = .ok (.bipush 18, 2) := by decide +kernel
theorem dX9_rank_61 : decode cX9_rank 61 = .ok (.if_icmp .ne 8, 3) := by decide +kernel
theorem dX9_rank_64 : decode cX9_rank 64 = .ok (.bipush 6, 2) := by decide +kernel
theorem dX9_rank_66 : decode cX9_rank 66 = .ok (.goto 5, 3) := by decide +kernel
theorem dX9_rank_69 : decode cX9_rank 69 = .ok (.bipush 7, 2) := by decide +kernel
theorem dX9_rank_71 : decode cX9_rank 71 = .ok (.ireturn, 1) := by decide +kernel
theorem dX9_puts_0 : decode cX9_puts 0 = .ok (.aload_n 0, 1) := by decide +kernel
theorem dX9_puts_1 : decode cX9_puts 1 = .ok (.getfield 25, 3) := by decide +kernel
theorem dX9_puts_4 : decode cX9_puts 4 = .ok (.sipush 200, 3) := by decide +kernel
theorem dX9_puts_7 : decode cX9_puts 7 = .ok (.aload_n 0, 1) := by decide +kernel
theorem dX9_puts_8 : decode cX9_puts 8 = .ok (.getfield 94, 3) := by decide +kernel
theorem dX9_puts_11 : decode cX9_puts 11 = .ok (.imul, 1) := by decide +kernel
theorem dX9_puts_12 : decode cX9_puts 12 = .ok (.aload_n 0, 1) := by decide +kernel
theorem dX9_puts_13 : decode cX9_puts 13 = .ok (.getfield 120, 3) := by decide +kernel
theorem dX9_puts_16 : decode cX9_puts 16 = .ok (.iadd, 1) := by decide +kernel
theorem dX9_puts_17 : decode cX9_puts 17 = .ok (.iload_n 1, 1) := by decide +kernel
theorem dX9_puts_18 : decode cX9_puts 18 = .ok (.iastore, 1) := by decide +kernel
theorem dX9_puts_19 : decode cX9_puts 19 = .ok (.aload_n 0, 1) := by decide +kernel
theorem dX9_puts_20 : decode cX9_puts 20 = .ok (.dup, 1) := by decide +kernel
theorem dX9_puts_21 : decode cX9_puts 21 = .ok (.getfield 120, 3) := by decide +kernel
theorem dX9_puts_24 : decode cX9_puts 24 = .ok (.iconst 1, 1) := by decide +kernel
theorem dX9_puts_25 : decode cX9_puts 25 = .ok (.iadd, 1) := by decide +kernel
theorem dX9_puts_26 : decode cX9_puts 26 = .ok (.putfield 120, 3) := by decide +kernel
theorem dX9_puts_29 : decode cX9_puts 29 = .ok (.return_, 1) := by decide +kernel
theorem dX9_unwinds_0 : decode cX9_unwinds 0 = .ok (.aload_n 0, 1) := by decide +kernel
theorem dX9_unwinds_1 : decode cX9_unwinds 1 = .ok (.getfield 123, 3) := by decide +kernel
theorem dX9_unwinds_4 : decode cX9_unwinds 4 = .ok (.ifCond .le 75, 3) := by decide +kernel
theorem dX9_unwinds_7 : decode cX9_unwinds 7 = .ok (.aload_n 0, 1) := by decide +kernel
theorem dX9_unwinds_8 : decode cX9_unwinds 8 = .ok (.getfield 49, 3) := by decide +kernel
theorem dX9_unwinds_11 : decode cX9_unwinds 11 = .ok (.aload_n 0, 1) := by decide +kernel
theorem dX9_unwinds_12 : decode cX9_unwinds 12 = .ok (.getfield 123, 3) := by decide +kernel
theorem dX9_unwinds_15 : decode cX9_unwinds 15 = .ok (.iconst 1, 1) := by decide +kernel
theorem dX9_unwinds_16 : decode cX9_unwinds 16 = .ok (.isub, 1) := by decide +kernel
theorem dX9_unwinds_17 : decode cX9_unwinds 17 = .ok (.iaload, 1) := by decide +kernel
theorem dX9_unwinds_18 : decode cX9_unwinds 18 = .ok (.invokestatic 126, 3) := by decide +kernel
theorem dX9_unwinds_21 : decode cX9_unwinds 21 = .ok (.iload_n 1, 1) := by decide +kernel
theorem dX9_unwinds_22 : decode cX9_unwinds 22 = .ok (.if_icmp .lt 57, 3) := by decide +kernel
theorem dX9_unwinds_25 : decode cX9_unwinds 25 = .ok (.aload_n 0, 1) := by decide +kernel
theorem dX9_unwinds_26 : decode cX9_unwinds 26 = .ok (.dup, 1) := by decide +kernel
theorem dX9_unwinds_27 : decode cX9_unwinds 27 = .ok (.getfield 123, 3) := by decide +kernel
theorem dX9_unwinds_30 : decode cX9_unwinds 30 = .ok (.iconst 1, 1) := by decide +kernel
theorem dX9_unwinds_31 : decode cX9_unwinds 31 = .ok (.isub, 1) := by decide +kernel
theorem dX9_unwinds_32 : decode cX9_unwinds 32 = .ok (.putfield 123, 3) := by decide +kernel
theorem dX9_unwinds_35 : decode cX9_unwinds 35 = .ok (.aload_n 0, 1) := by decide +kernel
theorem dX9_unwinds_36 : decode cX9_unwinds 36 = .ok (.getfield 49, 3) := by decide +kernel
theorem dX9_unwinds_39 : decode cX9_unwinds 39 = .ok (.aload_n 0, 1) := by decide +kernel
theorem dX9_unwinds_40 : decode cX9_unwinds 40 = .ok (.getfield 123, 3) := by decide +kernel
theorem dX9_unwinds_43 : decode cX9_unwinds 43 = .ok (.iaload, 1) := by decide +kernel
theorem dX9_unwinds_44 : decode cX9_unwinds 44 = .ok (.istore_n 2, 1) := by decide +kernel
theorem dX9_unwinds_45 : decode cX9_unwinds 45 = .ok (.aload_n 0, 1) := by decide +kernel
theorem dX9_unwinds_46 : decode cX9_unwinds 46 = .ok (.dup, 1) := by decide +kernel
theorem dX9_unwinds_47 : decode cX9_unwinds 47 = .ok (.getfield 130, 3) := by decide +kernel
theorem dX9_unwinds_50 : decode cX9_unwinds 50 = .ok (.iload_n 2, 1) := by decide +kernel
theorem dX9_unwinds_51 : decode cX9_unwinds 51 = .ok (.bipush 13, 2) := by decide +kernel
theorem dX9_unwinds_53 : decode cX9_unwinds 53 = .ok (.if_icmp .eq 9, 3) := by decide +kernel
theorem dX9_unwinds_56 : decode cX9_unwinds 56 = .ok (.iload_n 2, 1) := by decide +kernel
theorem dX9_unwinds_57 : decode cX9_unwinds 57 = .ok (.bipush 19, 2) := by decide +kernel
theorem dX9_unwinds_59 : decode cX9_unwinds 59 = .ok (.if_icmp .ne 7, 3) := by decide +kernel
theorem dX9_unwinds_62 : decode cX9_unwinds 62 = .ok (.iconst 1, 1) := by decide +kernel
theorem dX9_unwinds_63 : decode cX9_unwinds 63 = .ok (.goto 4, 3) := by decide +kernel
theorem dX9_unwinds_66 : decode cX9_unwinds 66 = .ok (.iconst 0, 1) := by decide +kernel
theorem dX9_unwinds_67 : decode cX9_unwinds 67 = .ok (.isub, 1) := by decide +kernel
theorem dX9_unwinds_68 : decode cX9_unwinds 68 = .ok (.putfield 130, 3) := by decide +kernel
theorem dX9_unwinds_71 : decode cX9_unwinds 71 = .ok (.aload_n 0, 1) := by decide +kernel
theorem dX9_unwinds_72 : decode cX9_unwinds 72 = .ok (.iload_n 2, 1) := by decide +kernel
theorem dX9_unwinds_73 : decode cX9_unwinds 73 = .ok (.invokevirtual 133, 3) := by decide +kernel
theorem dX9_unwinds_76 : decode cX9_unwinds 76 = .ok (.goto (-76), 3) := by decide +kernel
theorem dX9_unwinds_79 : decode cX9_unwinds 79 = .ok (.return_, 1) := by decide +kernel
theorem dX9_holds_0 : decode cX9_holds 0 = .ok (.aload_n 0, 1) := by decide +kernel
theorem dX9_holds_1 : decode cX9_holds 1 = .ok (.getfield 49, 3) := by decide +kernel
theorem dX9_holds_4 : decode cX9_holds 4 = .ok (.aload_n 0, 1) := by decide +kernel
theorem dX9_holds_5 : decode cX9_holds 5 = .ok (.getfield 123, 3) := by decide +kernel
theorem dX9_holds_8 : decode cX9_holds 8 = .ok (.iload_n 1, 1) := by decide +kernel
theorem dX9_holds_9 : decode cX9_holds 9 = .ok (.iastore, 1) := by decide +kernel
theorem dX9_holds_10 : decode cX9_holds 10 = .ok (.aload_n 0, 1) := by decide +kernel
theorem dX9_holds_11 : decode cX9_holds 11 = .ok (.dup, 1) := by decide +kernel
theorem dX9_holds_12 : decode cX9_holds 12 = .ok (.getfield 123, 3) := by decide +kernel
theorem dX9_holds_15 : decode cX9_holds 15 = .ok (.iconst 1, 1) := by decide +kernel
theorem dX9_holds_16 : decode cX9_holds 16 = .ok (.iadd, 1) := by decide +kernel
theorem dX9_holds_17 : decode cX9_holds 17 = .ok (.putfield 123, 3) := by decide +kernel
theorem dX9_holds_20 : decode cX9_holds 20 = .ok (.return_, 1) := by decide +kernel
theorem dX9_opensOne_0 : decode cX9_opensOne 0 = .ok (.aload_n 0, 1) := by decide +kernel
theorem dX9_opensOne_1 : decode cX9_opensOne 1 = .ok (.getfield 130, 3) := by decide +kernel
theorem dX9_opensOne_4 : decode cX9_opensOne 4 = .ok (.iconst 5, 1) := by decide +kernel
theorem dX9_opensOne_5 : decode cX9_opensOne 5 = .ok (.if_icmp .ne 5, 3) := by decide +kernel
theorem dX9_opensOne_8 : decode cX9_opensOne 8 = .ok (.iconst 0, 1) := by decide +kernel
theorem dX9_opensOne_9 : decode cX9_opensOne 9 = .ok (.ireturn, 1) := by decide +kernel
theorem dX9_opensOne_10 : decode cX9_opensOne 10 = .ok (.aload_n 0, 1) := by decide +kernel
theorem dX9_opensOne_11 : decode cX9_opensOne 11 = .ok (.dup, 1) := by decide +kernel
theorem dX9_opensOne_12 : decode cX9_opensOne 12 = .ok (.getfield 130, 3) := by decide +kernel
theorem dX9_opensOne_15 : decode cX9_opensOne 15 = .ok (.iconst 1, 1) := by decide +kernel
theorem dX9_opensOne_16 : decode cX9_opensOne 16 = .ok (.iadd, 1) := by decide +kernel
theorem dX9_opensOne_17 : decode cX9_opensOne 17 = .ok (.putfield 130, 3) := by decide +kernel
theorem dX9_opensOne_20 : decode cX9_opensOne 20 = .ok (.aload_n 0, 1) := by decide +kernel
theorem dX9_opensOne_21 : decode cX9_opensOne 21 = .ok (.iload_n 1, 1) := by decide +kernel
theorem dX9_opensOne_22 : decode cX9_opensOne 22 = .ok (.invokevirtual 137, 3) := by decide +kernel
theorem dX9_opensOne_25 : decode cX9_opensOne 25 = .ok (.iconst 1, 1) := by decide +kernel
theorem dX9_opensOne_26 : decode cX9_opensOne 26 = .ok (.ireturn, 1) := by decide +kernel
theorem dX9_between_0 : decode cX9_between 0 = .ok (.aload_n 0, 1) := by decide +kernel
theorem dX9_between_1 : decode cX9_between 1 = .ok (.iload_n 1, 1) := by decide +kernel
theorem dX9_between_2 : decode cX9_between 2 = .ok (.invokestatic 126, 3) := by decide +kernel
theorem dX9_between_5 : decode cX9_between 5 = .ok (.iconst 4, 1) := by decide +kernel
theorem dX9_between_6 : decode cX9_between 6 = .ok (.if_icmp .ne 7, 3) := by decide +kernel
theorem dX9_between_9 : decode cX9_between 9 = .ok (.iconst 5, 1) := by decide +kernel
theorem dX9_between_10 : decode cX9_between 10 = .ok (.goto 7, 3) := by decide +kernel
theorem dX9_between_13 : decode cX9_between 13 = .ok (.iload_n 1, 1) := by decide +kernel
theorem dX9_between_14 : decode cX9_between 14 = .ok (.invokestatic 126, 3) := by decide +kernel
theorem dX9_between_17 : decode cX9_between 17 = .ok (.invokevirtual 140, 3) := by decide +kernel
theorem dX9_between_20 : decode cX9_between 20 = .ok (.iload_n 1, 1) := by decide +kernel
theorem dX9_between_21 : decode cX9_between 21 = .ok (.invokestatic 126, 3) := by decide +kernel
theorem dX9_between_24 : decode cX9_between 24 = .ok (.iconst 4, 1) := by decide +kernel
theorem dX9_between_25 : decode cX9_between 25 = .ok (.if_icmp .ne 30, 3) := by decide +kernel
theorem dX9_between_28 : decode cX9_between 28 = .ok (.aload_n 0, 1) := by decide +kernel
theorem dX9_between_29 : decode cX9_between 29 = .ok (.getfield 123, 3) := by decide +kernel
theorem dX9_between_32 : decode cX9_between 32 = .ok (.ifCond .le 23, 3) := by decide +kernel
theorem dX9_between_35 : decode cX9_between 35 = .ok (.aload_n 0, 1) := by decide +kernel
theorem dX9_between_36 : decode cX9_between 36 = .ok (.getfield 49, 3) := by decide +kernel
theorem dX9_between_39 : decode cX9_between 39 = .ok (.aload_n 0, 1) := by decide +kernel
theorem dX9_between_40 : decode cX9_between 40 = .ok (.getfield 123, 3) := by decide +kernel
theorem dX9_between_43 : decode cX9_between 43 = .ok (.iconst 1, 1) := by decide +kernel
theorem dX9_between_44 : decode cX9_between 44 = .ok (.isub, 1) := by decide +kernel
theorem dX9_between_45 : decode cX9_between 45 = .ok (.iaload, 1) := by decide +kernel
theorem dX9_between_46 : decode cX9_between 46 = .ok (.invokestatic 126, 3) := by decide +kernel
theorem dX9_between_49 : decode cX9_between 49 = .ok (.iconst 4, 1) := by decide +kernel
theorem dX9_between_50 : decode cX9_between 50 = .ok (.if_icmp .ne 5, 3) := by decide +kernel
theorem dX9_between_53 : decode cX9_between 53 = .ok (.iconst 0, 1) := by decide +kernel
theorem dX9_between_54 : decode cX9_between 54 = .ok (.ireturn, 1) := by decide +kernel
theorem dX9_between_55 : decode cX9_between 55 = .ok (.aload_n 0, 1) := by decide +kernel
theorem dX9_between_56 : decode cX9_between 56 = .ok (.iload_n 1, 1) := by decide +kernel
theorem dX9_between_57 : decode cX9_between 57 = .ok (.invokevirtual 137, 3) := by decide +kernel
theorem dX9_between_60 : decode cX9_between 60 = .ok (.iconst 1, 1) := by decide +kernel
theorem dX9_between_61 : decode cX9_between 61 = .ok (.ireturn, 1) := by decide +kernel
theorem dX9_signOf_0 : decode cX9_signOf 0 = .ok (.aload_n 0, 1) := by decide +kernel
theorem dX9_signOf_1 : decode cX9_signOf 1 = .ok (.getfield 110, 3) := by decide +kernel
theorem dX9_signOf_4 : decode cX9_signOf 4 = .ok (.iconst 4, 1) := by decide +kernel
theorem dX9_signOf_5 : decode cX9_signOf 5 = .ok (.if_icmp .ne 8, 3) := by decide +kernel
theorem dX9_signOf_8 : decode cX9_signOf 8 = .ok (.bipush 11, 2) := by decide +kernel
theorem dX9_signOf_10 : decode cX9_signOf 10 = .ok (.goto 87, 3) := by decide +kernel
theorem dX9_signOf_13 : decode cX9_signOf 13 = .ok (.aload_n 0, 1) := by decide +kernel
theorem dX9_signOf_14 : decode cX9_signOf 14 = .ok (.getfield 110, 3) := by decide +kernel
theorem dX9_signOf_17 : decode cX9_signOf 17 = .ok (.iconst 5, 1) := by decide +kernel
theorem dX9_signOf_18 : decode cX9_signOf 18 = .ok (.if_icmp .ne 8, 3) := by decide +kernel
theorem dX9_signOf_21 : decode cX9_signOf 21 = .ok (.bipush 12, 2) := by decide +kernel
theorem dX9_signOf_23 : decode cX9_signOf 23 = .ok (.goto 74, 3) := by decide +kernel
theorem dX9_signOf_26 : decode cX9_signOf 26 = .ok (.aload_n 0, 1) := by decide +kernel
theorem dX9_signOf_27 : decode cX9_signOf 27 = .ok (.getfield 110, 3) := by decide +kernel
theorem dX9_signOf_30 : decode cX9_signOf 30 = .ok (.bipush 60, 2) := by decide +kernel
theorem dX9_signOf_32 : decode cX9_signOf 32 = .ok (.if_icmp .ne 8, 3) := by decide +kernel
theorem dX9_signOf_35 : decode cX9_signOf 35 = .ok (.bipush 14, 2) := by decide +kernel
theorem dX9_signOf_37 : decode cX9_signOf 37 = .ok (.goto 60, 3) := by decide +kernel
theorem dX9_signOf_40 : decode cX9_signOf 40 = .ok (.aload_n 0, 1) := by decide +kernel
theorem dX9_signOf_41 : decode cX9_signOf 41 = .ok (.getfield 110, 3) := by decide +kernel
theorem dX9_signOf_44 : decode cX9_signOf 44 = .ok (.bipush 61, 2) := by decide +kernel
theorem dX9_signOf_46 : decode cX9_signOf 46 = .ok (.if_icmp .ne 8, 3) := by decide +kernel
theorem dX9_signOf_49 : decode cX9_signOf 49 = .ok (.bipush 15, 2) := by decide +kernel
theorem dX9_signOf_51 : decode cX9_signOf 51 = .ok (.goto 46, 3) := by decide +kernel
theorem dX9_signOf_54 : decode cX9_signOf 54 = .ok (.aload_n 0, 1) := by decide +kernel
theorem dX9_signOf_55 : decode cX9_signOf 55 = .ok (.getfield 110, 3) := by decide +kernel
theorem dX9_signOf_58 : decode cX9_signOf 58 = .ok (.bipush 43, 2) := by decide +kernel
theorem dX9_signOf_60 : decode cX9_signOf 60 = .ok (.if_icmp .ne 8, 3) := by decide +kernel
theorem dX9_signOf_63 : decode cX9_signOf 63 = .ok (.bipush 16, 2) := by decide +kernel
theorem dX9_signOf_65 : decode cX9_signOf 65 = .ok (.goto 32, 3) := by decide +kernel
theorem dX9_signOf_68 : decode cX9_signOf 68 = .ok (.aload_n 0, 1) := by decide +kernel
theorem dX9_signOf_69 : decode cX9_signOf 69 = .ok (.getfield 110, 3) := by decide +kernel
theorem dX9_signOf_72 : decode cX9_signOf 72 = .ok (.bipush 45, 2) := by decide +kernel
theorem dX9_signOf_74 : decode cX9_signOf 74 = .ok (.if_icmp .ne 8, 3) := by decide +kernel
theorem dX9_signOf_77 : decode cX9_signOf 77 = .ok (.bipush 17, 2) := by decide +kernel
theorem dX9_signOf_79 : decode cX9_signOf 79 = .ok (.goto 18, 3) := by decide +kernel
theorem dX9_signOf_82 : decode cX9_signOf 82 = .ok (.aload_n 0, 1) := by decide +kernel
theorem dX9_signOf_83 : decode cX9_signOf 83 = .ok (.getfield 110, 3) := by decide +kernel
theorem dX9_signOf_86 : decode cX9_signOf 86 = .ok (.bipush 42, 2) := by decide +kernel
theorem dX9_signOf_88 : decode cX9_signOf 88 = .ok (.if_icmp .ne 8, 3) := by decide +kernel
theorem dX9_signOf_91 : decode cX9_signOf 91 = .ok (.bipush 18, 2) := by decide +kernel
theorem dX9_signOf_93 : decode cX9_signOf 93 = .ok (.goto 4, 3) := by decide +kernel
theorem dX9_signOf_96 : decode cX9_signOf 96 = .ok (.iconst (-1), 1) := by decide +kernel
theorem dX9_signOf_97 : decode cX9_signOf 97 = .ok (.ireturn, 1) := by decide +kernel
theorem dX9_eRead_0 : decode cX9_eRead 0 = .ok (.aload_n 0, 1) := by decide +kernel
theorem dX9_eRead_1 : decode cX9_eRead 1 = .ok (.iconst 0, 1) := by decide +kernel
theorem dX9_eRead_2 : decode cX9_eRead 2 = .ok (.putfield 123, 3) := by decide +kernel
theorem dX9_eRead_5 : decode cX9_eRead 5 = .ok (.aload_n 0, 1) := by decide +kernel
theorem dX9_eRead_6 : decode cX9_eRead 6 = .ok (.iconst 0, 1) := by decide +kernel
theorem dX9_eRead_7 : decode cX9_eRead 7 = .ok (.putfield 130, 3) := by decide +kernel
theorem dX9_eRead_10 : decode cX9_eRead 10 = .ok (.iconst 1, 1) := by decide +kernel
theorem dX9_eRead_11 : decode cX9_eRead 11 = .ok (.istore_n 1, 1) := by decide +kernel
theorem dX9_eRead_12 : decode cX9_eRead 12 = .ok (.iconst 1, 1) := by decide +kernel
theorem dX9_eRead_13 : decode cX9_eRead 13 = .ok (.istore_n 2, 1) := by decide +kernel
theorem dX9_eRead_14 : decode cX9_eRead 14 = .ok (.aload_n 0, 1) := by decide +kernel
theorem dX9_eRead_15 : decode cX9_eRead 15 = .ok (.invokevirtual 143, 3) := by decide +kernel
theorem dX9_eRead_18 : decode cX9_eRead 18 = .ok (.iload_n 1, 1) := by decide +kernel
theorem dX9_eRead_19 : decode cX9_eRead 19 = .ok (.ifCond .eq 131, 3) := by decide +kernel
theorem dX9_eRead_22 : decode cX9_eRead 22 = .ok (.aload_n 0, 1) := by decide +kernel
theorem dX9_eRead_23 : decode cX9_eRead 23 = .ok (.getfield 110, 3) := by decide +kernel
theorem dX9_eRead_26 : decode cX9_eRead 26 = .ok (.iconst 1, 1) := by decide +kernel
theorem dX9_eRead_27 : decode cX9_eRead 27 = .ok (.if_icmp .eq 11, 3) := by decide +kernel
theorem dX9_eRead_30 : decode cX9_eRead 30 = .ok (.aload_n 0, 1) := by decide +kernel
theorem dX9_eRead_31 : decode cX9_eRead 31 = .ok (.getfield 110, 3) := by decide +kernel
theorem dX9_eRead_34 : decode cX9_eRead 34 = .ok (.iconst 2, 1) := by decide +kernel
theorem dX9_eRead_35 : decode cX9_eRead 35 = .ok (.if_icmp .ne 40, 3) := by decide +kernel
theorem dX9_eRead_38 : decode cX9_eRead 38 = .ok (.aload_n 0, 1) := by decide +kernel
theorem dX9_eRead_39 : decode cX9_eRead 39 = .ok (.aload_n 0, 1) := by decide +kernel
theorem dX9_eRead_40 : decode cX9_eRead 40 = .ok (.getfield 110, 3) := by decide +kernel
theorem dX9_eRead_43 : decode cX9_eRead 43 = .ok (.iconst 1, 1) := by decide +kernel
theorem dX9_eRead_44 : decode cX9_eRead 44 = .ok (.if_icmp .ne 13, 3) := by decide +kernel
theorem dX9_eRead_47 : decode cX9_eRead 47 = .ok (.ldc 146, 2) := by decide +kernel
theorem dX9_eRead_49 : decode cX9_eRead 49 = .ok (.aload_n 0, 1) := by decide +kernel
theorem dX9_eRead_50 : decode cX9_eRead 50 = .ok (.getfield 113, 3) := by decide +kernel
theorem dX9_eRead_53 : decode cX9_eRead 53 = .ok (.iadd, 1) := by decide +kernel
theorem dX9_eRead_54 : decode cX9_eRead 54 = .ok (.goto 7, 3) := by decide +kernel
theorem dX9_eRead_57 : decode cX9_eRead 57 = .ok (.aload_n 0, 1) := by decide +kernel
theorem dX9_eRead_58 : decode cX9_eRead 58 = .ok (.getfield 113, 3) := by decide +kernel
theorem dX9_eRead_61 : decode cX9_eRead 61 = .ok (.invokevirtual 133, 3) := by decide +kernel
theorem dX9_eRead_64 : decode cX9_eRead 64 = .ok (.aload_n 0, 1) := by decide +kernel
theorem dX9_eRead_65 : decode cX9_eRead 65 = .ok (.bipush 7, 2) := by decide +kernel
theorem dX9_eRead_67 : decode cX9_eRead 67 = .ok (.invokevirtual 140, 3) := by decide +kernel
theorem dX9_eRead_70 : decode cX9_eRead 70 = .ok (.iconst 0, 1) := by decide +kernel
theorem dX9_eRead_71 : decode cX9_eRead 71 = .ok (.istore_n 1, 1) := by decide +kernel
theorem dX9_eRead_72 : decode cX9_eRead 72 = .ok (.goto (-58), 3) := by decide +kernel
theorem dX9_eRead_75 : decode cX9_eRead 75 = .ok (.aload_n 0, 1) := by decide +kernel
theorem dX9_eRead_76 : decode cX9_eRead 76 = .ok (.getfield 110, 3) := by decide +kernel
theorem dX9_eRead_79 : decode cX9_eRead 79 = .ok (.bipush 6, 2) := by decide +kernel
theorem dX9_eRead_81 : decode cX9_eRead 81 = .ok (.if_icmp .ne 18, 3) := by decide +kernel
theorem dX9_eRead_84 : decode cX9_eRead 84 = .ok (.iload_n 2, 1) := by decide +kernel
theorem dX9_eRead_85 : decode cX9_eRead 85 = .ok (.ifCond .eq 14, 3) := by decide +kernel
theorem dX9_eRead_88 : decode cX9_eRead 88 = .ok (.aload_n 0, 1) := by decide +kernel
theorem dX9_eRead_89 : decode cX9_eRead 89 = .ok (.bipush 13, 2) := by decide +kernel
theorem dX9_eRead_91 : decode cX9_eRead 91 = .ok (.invokevirtual 147, 3) := by decide +kernel
theorem dX9_eRead_94 : decode cX9_eRead 94 = .ok (.ifCond .ne (-80), 3) := by decide +kernel
theorem dX9_eRead_97 : decode cX9_eRead 97 = .ok (.iconst 0, 1) := by decide +kernel
theorem dX9_eRead_98 : decode cX9_eRead 98 = .ok (.ireturn, 1) := by decide +kernel
theorem dX9_eRead_99 : decode cX9_eRead 99 = .ok (.aload_n 0, 1) := by decide +kernel
theorem dX9_eRead_100 : decode cX9_eRead 100 = .ok (.getfield 110, 3) := by decide +kernel
theorem dX9_eRead_103 : decode cX9_eRead 103 = .ok (.bipush 45, 2) := by decide +kernel
theorem dX9_eRead_105 : decode cX9_eRead 105 = .ok (.if_icmp .ne 19, 3) := by decide +kernel
theorem dX9_eRead_108 : decode cX9_eRead 108 = .ok (.aload_n 0, 1) := by decide +kernel
theorem dX9_eRead_109 : decode cX9_eRead 109 = .ok (.bipush 19, 2) := by decide +kernel
theorem dX9_eRead_111 : decode cX9_eRead 111 = .ok (.invokevirtual 147, 3) := by decide +kernel
theorem dX9_eRead_114 : decode cX9_eRead 114 = .ok (.ifCond .ne 5, 3) := by decide +kernel
theorem dX9_eRead_117 : decode cX9_eRead 117 = .ok (.iconst 0, 1) := by decide +kernel
theorem dX9_eRead_118 : decode cX9_eRead 118 = .ok (.ireturn, 1) := by decide +kernel
theorem dX9_eRead_119 : decode cX9_eRead 119 = .ok (.iconst 0, 1) := by decide +kernel
theorem dX9_eRead_120 : decode cX9_eRead 120 = .ok (.istore_n 2, 1) := by decide +kernel
theorem dX9_eRead_121 : decode cX9_eRead 121 = .ok (.goto (-107), 3) := by decide +kernel
theorem dX9_eRead_124 : decode cX9_eRead 124 = .ok (.aload_n 0, 1) := by decide +kernel
theorem dX9_eRead_125 : decode cX9_eRead 125 = .ok (.getfield 110, 3) := by decide +kernel
theorem dX9_eRead_128 : decode cX9_eRead 128 = .ok (.bipush 40, 2) := by decide +kernel
theorem dX9_eRead_130 : decode cX9_eRead 130 = .ok (.if_icmp .ne 18, 3) := by decide +kernel
theorem dX9_eRead_133 : decode cX9_eRead 133 = .ok (.aload_n 0, 1) := by decide +kernel
theorem dX9_eRead_134 : decode cX9_eRead 134 = .ok (.iconst 0, 1) := by decide +kernel
theorem dX9_eRead_135 : decode cX9_eRead 135 = .ok (.invokevirtual 147, 3) := by decide +kernel
theorem dX9_eRead_138 : decode cX9_eRead 138 = .ok (.ifCond .ne 5, 3) := by decide +kernel
theorem dX9_eRead_141 : decode cX9_eRead 141 = .ok (.iconst 0, 1) := by decide +kernel
theorem dX9_eRead_142 : decode cX9_eRead 142 = .ok (.ireturn, 1) := by decide +kernel
theorem dX9_eRead_143 : decode cX9_eRead 143 = .ok (.iconst 1, 1) := by decide +kernel
theorem dX9_eRead_144 : decode cX9_eRead 144 = .ok (.istore_n 2, 1) := by decide +kernel
theorem dX9_eRead_145 : decode cX9_eRead 145 = .ok (.goto (-131), 3) := by decide +kernel
theorem dX9_eRead_148 : decode cX9_eRead 148 = .ok (.iconst 0, 1) := by decide +kernel
theorem dX9_eRead_149 : decode cX9_eRead 149 = .ok (.ireturn, 1) := by decide +kernel
theorem dX9_eRead_150 : decode cX9_eRead 150 = .ok (.aload_n 0, 1) := by decide +kernel
theorem dX9_eRead_151 : decode cX9_eRead 151 = .ok (.getfield 110, 3) := by decide +kernel
theorem dX9_eRead_154 : decode cX9_eRead 154 = .ok (.bipush 59, 2) := by decide +kernel
theorem dX9_eRead_156 : decode cX9_eRead 156 = .ok (.if_icmp .ne 21, 3) := by decide +kernel
theorem dX9_eRead_159 : decode cX9_eRead 159 = .ok (.aload_n 0, 1) := by decide +kernel
theorem dX9_eRead_160 : decode cX9_eRead 160 = .ok (.iconst 1, 1) := by decide +kernel
theorem dX9_eRead_161 : decode cX9_eRead 161 = .ok (.invokevirtual 140, 3) := by decide +kernel
theorem dX9_eRead_164 : decode cX9_eRead 164 = .ok (.aload_n 0, 1) := by decide +kernel
theorem dX9_eRead_165 : decode cX9_eRead 165 = .ok (.getfield 123, 3) := by decide +kernel
theorem dX9_eRead_168 : decode cX9_eRead 168 = .ok (.ifCond .ne 7, 3) := by decide +kernel
theorem dX9_eRead_171 : decode cX9_eRead 171 = .ok (.iconst 1, 1) := by decide +kernel
theorem dX9_eRead_172 : decode cX9_eRead 172 = .ok (.goto 4, 3) := by decide +kernel
theorem dX9_eRead_175 : decode cX9_eRead 175 = .ok (.iconst 0, 1) := by decide +kernel
theorem dX9_eRead_176 : decode cX9_eRead 176 = .ok (.ireturn, 1) := by decide +kernel
theorem dX9_eRead_177 : decode cX9_eRead 177 = .ok (.aload_n 0, 1) := by decide +kernel
theorem dX9_eRead_178 : decode cX9_eRead 178 = .ok (.getfield 110, 3) := by decide +kernel
theorem dX9_eRead_181 : decode cX9_eRead 181 = .ok (.bipush 41, 2) := by decide +kernel
theorem dX9_eRead_183 : decode cX9_eRead 183 = .ok (.if_icmp .ne 46, 3) := by decide +kernel
theorem dX9_eRead_186 : decode cX9_eRead 186 = .ok (.aload_n 0, 1) := by decide +kernel
theorem dX9_eRead_187 : decode cX9_eRead 187 = .ok (.iconst 1, 1) := by decide +kernel
theorem dX9_eRead_188 : decode cX9_eRead 188 = .ok (.invokevirtual 140, 3) := by decide +kernel
theorem dX9_eRead_191 : decode cX9_eRead 191 = .ok (.aload_n 0, 1) := by decide +kernel
theorem dX9_eRead_192 : decode cX9_eRead 192 = .ok (.getfield 123, 3) := by decide +kernel
theorem dX9_eRead_195 : decode cX9_eRead 195 = .ok (.ifCond .ne 5, 3) := by decide +kernel
theorem dX9_eRead_198 : decode cX9_eRead 198 = .ok (.iconst 0, 1) := by decide +kernel
theorem dX9_eRead_199 : decode cX9_eRead 199 = .ok (.ireturn, 1) := by decide +kernel
theorem dX9_eRead_200 : decode cX9_eRead 200 = .ok (.aload_n 0, 1) := by decide +kernel
theorem dX9_eRead_201 : decode cX9_eRead 201 = .ok (.dup, 1) := by decide +kernel
theorem dX9_eRead_202 : decode cX9_eRead 202 = .ok (.getfield 123, 3) := by decide +kernel
theorem dX9_eRead_205 : decode cX9_eRead 205 = .ok (.iconst 1, 1) := by decide +kernel
theorem dX9_eRead_206 : decode cX9_eRead 206 = .ok (.isub, 1) := by decide +kernel
theorem dX9_eRead_207 : decode cX9_eRead 207 = .ok (.putfield 123, 3) := by decide +kernel
theorem dX9_eRead_210 : decode cX9_eRead 210 = .ok (.aload_n 0, 1) := by decide +kernel
theorem dX9_eRead_211 : decode cX9_eRead 211 = .ok (.dup, 1) := by decide +kernel
theorem dX9_eRead_212 : decode cX9_eRead 212 = .ok (.getfield 130, 3) := by decide +kernel
theorem dX9_eRead_215 : decode cX9_eRead 215 = .ok (.iconst 1, 1) := by decide +kernel
theorem dX9_eRead_216 : decode cX9_eRead 216 = .ok (.isub, 1) := by decide +kernel
theorem dX9_eRead_217 : decode cX9_eRead 217 = .ok (.putfield 130, 3) := by decide +kernel
theorem dX9_eRead_220 : decode cX9_eRead 220 = .ok (.aload_n 0, 1) := by decide +kernel
theorem dX9_eRead_221 : decode cX9_eRead 221 = .ok (.bipush 7, 2) := by decide +kernel
theorem dX9_eRead_223 : decode cX9_eRead 223 = .ok (.invokevirtual 140, 3) := by decide +kernel
theorem dX9_eRead_226 : decode cX9_eRead 226 = .ok (.goto (-212), 3) := by decide +kernel
theorem dX9_eRead_229 : decode cX9_eRead 229 = .ok (.aload_n 0, 1) := by decide +kernel
theorem dX9_eRead_230 : decode cX9_eRead 230 = .ok (.invokevirtual 150, 3) := by decide +kernel
theorem dX9_eRead_233 : decode cX9_eRead 233 = .ok (.istore_n 3, 1) := by decide +kernel
theorem dX9_eRead_234 : decode cX9_eRead 234 = .ok (.iload_n 3, 1) := by decide +kernel
theorem dX9_eRead_235 : decode cX9_eRead 235 = .ok (.iconst (-1), 1) := by decide +kernel
theorem dX9_eRead_236 : decode cX9_eRead 236 = .ok (.if_icmp .eq 11, 3) := by decide +kernel
theorem dX9_eRead_239 : decode cX9_eRead 239 = .ok (.aload_n 0, 1) := by decide +kernel
theorem dX9_eRead_240 : decode cX9_eRead 240 = .ok (.iload_n 3, 1) := by decide +kernel
theorem dX9_eRead_241 : decode cX9_eRead 241 = .ok (.invokevirtual 153, 3) := by decide +kernel
theorem dX9_eRead_244 : decode cX9_eRead 244 = .ok (.ifCond .ne 5, 3) := by decide +kernel
theorem dX9_eRead_247 : decode cX9_eRead 247 = .ok (.iconst 0, 1) := by decide +kernel
theorem dX9_eRead_248 : decode cX9_eRead 248 = .ok (.ireturn, 1) := by decide +kernel
theorem dX9_eRead_249 : decode cX9_eRead 249 = .ok (.iconst 1, 1) := by decide +kernel
theorem dX9_eRead_250 : decode cX9_eRead 250 = .ok (.istore_n 1, 1) := by decide +kernel
theorem dX9_eRead_251 : decode cX9_eRead 251 = .ok (.iload_n 3, 1) := by decide +kernel
theorem dX9_eRead_252 : decode cX9_eRead 252 = .ok (.bipush 12, 2) := by decide +kernel
theorem dX9_eRead_254 : decode cX9_eRead 254 = .ok (.if_icmp .gt 7, 3) := by decide +kernel
theorem dX9_eRead_257 : decode cX9_eRead 257 = .ok (.iconst 1, 1) := by decide +kernel
theorem dX9_eRead_258 : decode cX9_eRead 258 = .ok (.goto 4, 3) := by decide +kernel
theorem dX9_eRead_261 : decode cX9_eRead 261 = .ok (.iconst 0, 1) := by decide +kernel
theorem dX9_eRead_262 : decode cX9_eRead 262 = .ok (.istore_n 2, 1) := by decide +kernel
theorem dX9_eRead_263 : decode cX9_eRead 263 = .ok (.goto (-249), 3) := by decide +kernel
theorem dX9_text_0 : decode cX9_text 0 = .ok (.aload_n 0, 1) := by decide +kernel
theorem dX9_text_1 : decode cX9_text 1 = .ok (.getfield 94, 3) := by decide +kernel
theorem dX9_text_4 : decode cX9_text 4 = .ok (.bipush 6, 2) := by decide +kernel
theorem dX9_text_6 : decode cX9_text 6 = .ok (.if_icmp .ne 6, 3) := by decide +kernel
theorem dX9_text_9 : decode cX9_text 9 = .ok (.bipush (-4), 2) := by decide +kernel
theorem dX9_text_11 : decode cX9_text 11 = .ok (.ireturn, 1) := by decide +kernel
theorem dX9_text_12 : decode cX9_text 12 = .ok (.aload_n 0, 1) := by decide +kernel
theorem dX9_text_13 : decode cX9_text 13 = .ok (.iconst 0, 1) := by decide +kernel
theorem dX9_text_14 : decode cX9_text 14 = .ok (.putfield 104, 3) := by decide +kernel
theorem dX9_text_17 : decode cX9_text 17 = .ok (.aload_n 0, 1) := by decide +kernel
theorem dX9_text_18 : decode cX9_text 18 = .ok (.iconst 0, 1) := by decide +kernel
theorem dX9_text_19 : decode cX9_text 19 = .ok (.putfield 120, 3) := by decide +kernel
theorem dX9_text_22 : decode cX9_text 22 = .ok (.iconst 1, 1) := by decide +kernel
theorem dX9_text_23 : decode cX9_text 23 = .ok (.istore_n 1, 1) := by decide +kernel
theorem dX9_text_24 : decode cX9_text 24 = .ok (.iconst 0, 1) := by decide +kernel
theorem dX9_text_25 : decode cX9_text 25 = .ok (.istore_n 2, 1) := by decide +kernel
theorem dX9_text_26 : decode cX9_text 26 = .ok (.iload_n 2, 1) := by decide +kernel
theorem dX9_text_27 : decode cX9_text 27 = .ok (.iconst 3, 1) := by decide +kernel
theorem dX9_text_28 : decode cX9_text 28 = .ok (.if_icmp .ge 73, 3) := by decide +kernel
theorem dX9_text_31 : decode cX9_text 31 = .ok (.iload_n 1, 1) := by decide +kernel
theorem dX9_text_32 : decode cX9_text 32 = .ok (.ifCond .eq 69, 3) := by decide +kernel
theorem dX9_text_35 : decode cX9_text 35 = .ok (.aload_n 0, 1) := by decide +kernel
theorem dX9_text_36 : decode cX9_text 36 = .ok (.invokevirtual 143, 3) := by decide +kernel
theorem dX9_text_39 : decode cX9_text 39 = .ok (.aload_n 0, 1) := by decide +kernel
theorem dX9_text_40 : decode cX9_text 40 = .ok (.getfield 110, 3) := by decide +kernel
theorem dX9_text_43 : decode cX9_text 43 = .ok (.iconst 3, 1) := by decide +kernel
theorem dX9_text_44 : decode cX9_text 44 = .ok (.if_icmp .ne 15, 3) := by decide +kernel
theorem dX9_text_47 : decode cX9_text 47 = .ok (.aload_n 0, 1) := by decide +kernel
theorem dX9_text_48 : decode cX9_text 48 = .ok (.getfield 113, 3) := by decide +kernel
theorem dX9_text_51 : decode cX9_text 51 = .ok (.iload_n 2, 1) := by decide +kernel
theorem dX9_text_52 : decode cX9_text 52 = .ok (.if_icmp .ne 7, 3) := by decide +kernel
theorem dX9_text_55 : decode cX9_text 55 = .ok (.iconst 1, 1) := by decide +kernel
theorem dX9_text_56 : decode cX9_text 56 = .ok (.goto 4, 3) := by decide +kernel
theorem dX9_text_59 : decode cX9_text 59 = .ok (.iconst 0, 1) := by decide +kernel
theorem dX9_text_60 : decode cX9_text 60 = .ok (.istore_n 1, 1) := by decide +kernel
theorem dX9_text_61 : decode cX9_text 61 = .ok (.aload_n 0, 1) := by decide +kernel
theorem dX9_text_62 : decode cX9_text 62 = .ok (.getfield 28, 3) := by decide +kernel
theorem dX9_text_65 : decode cX9_text 65 = .ok (.iconst 4, 1) := by decide +kernel
theorem dX9_text_66 : decode cX9_text 66 = .ok (.aload_n 0, 1) := by decide +kernel
theorem dX9_text_67 : decode cX9_text 67 = .ok (.getfield 94, 3) := by decide +kernel
theorem dX9_text_70 : decode cX9_text 70 = .ok (.imul, 1) := by decide +kernel
theorem dX9_text_71 : decode cX9_text 71 = .ok (.iload_n 2, 1) := by decide +kernel
theorem dX9_text_72 : decode cX9_text 72 = .ok (.iadd, 1) := by decide +kernel
theorem dX9_text_73 : decode cX9_text 73 = .ok (.aload_n 0, 1) := by decide +kernel
theorem dX9_text_74 : decode cX9_text 74 = .ok (.getfield 120, 3) := by decide +kernel
theorem dX9_text_77 : decode cX9_text 77 = .ok (.iastore, 1) := by decide +kernel
theorem dX9_text_78 : decode cX9_text 78 = .ok (.iload_n 1, 1) := by decide +kernel
theorem dX9_text_79 : decode cX9_text 79 = .ok (.ifCond .eq 14, 3) := by decide +kernel
theorem dX9_text_82 : decode cX9_text 82 = .ok (.aload_n 0, 1) := by decide +kernel
theorem dX9_text_83 : decode cX9_text 83 = .ok (.invokevirtual 156, 3) := by decide +kernel
theorem dX9_text_86 : decode cX9_text 86 = .ok (.ifCond .eq 7, 3) := by decide +kernel
theorem dX9_text_89 : decode cX9_text 89 = .ok (.iconst 1, 1) := by decide +kernel
theorem dX9_text_90 : decode cX9_text 90 = .ok (.goto 4, 3) := by decide +kernel
theorem dX9_text_93 : decode cX9_text 93 = .ok (.iconst 0, 1) := by decide +kernel
theorem dX9_text_94 : decode cX9_text 94 = .ok (.istore_n 1, 1) := by decide +kernel
theorem dX9_text_95 : decode cX9_text 95 = .ok (.iinc 2 1, 3) := by decide +kernel
theorem dX9_text_98 : decode cX9_text 98 = .ok (.goto (-72), 3) := by decide +kernel
theorem dX9_text_101 : decode cX9_text 101 = .ok (.iload_n 1, 1) := by decide +kernel
theorem dX9_text_102 : decode cX9_text 102 = .ok (.ifCond .eq 20, 3) := by decide +kernel
theorem dX9_text_105 : decode cX9_text 105 = .ok (.aload_n 0, 1) := by decide +kernel
theorem dX9_text_106 : decode cX9_text 106 = .ok (.invokevirtual 143, 3) := by decide +kernel
theorem dX9_text_109 : decode cX9_text 109 = .ok (.aload_n 0, 1) := by decide +kernel
theorem dX9_text_110 : decode cX9_text 110 = .ok (.getfield 110, 3) := by decide +kernel
theorem dX9_text_113 : decode cX9_text 113 = .ok (.ifCond .ne 7, 3) := by decide +kernel
theorem dX9_text_116 : decode cX9_text 116 = .ok (.iconst 1, 1) := by decide +kernel
theorem dX9_text_117 : decode cX9_text 117 = .ok (.goto 4, 3) := by decide +kernel
theorem dX9_text_120 : decode cX9_text 120 = .ok (.iconst 0, 1) := by decide +kernel
theorem dX9_text_121 : decode cX9_text 121 = .ok (.istore_n 1, 1) := by decide +kernel
theorem dX9_text_122 : decode cX9_text 122 = .ok (.aload_n 0, 1) := by decide +kernel
theorem dX9_text_123 : decode cX9_text 123 = .ok (.getfield 28, 3) := by decide +kernel
theorem dX9_text_126 : decode cX9_text 126 = .ok (.iconst 4, 1) := by decide +kernel
theorem dX9_text_127 : decode cX9_text 127 = .ok (.aload_n 0, 1) := by decide +kernel
theorem dX9_text_128 : decode cX9_text 128 = .ok (.getfield 94, 3) := by decide +kernel
theorem dX9_text_131 : decode cX9_text 131 = .ok (.imul, 1) := by decide +kernel
theorem dX9_text_132 : decode cX9_text 132 = .ok (.iconst 3, 1) := by decide +kernel
theorem dX9_text_133 : decode cX9_text 133 = .ok (.iadd, 1) := by decide +kernel
theorem dX9_text_134 : decode cX9_text 134 = .ok (.aload_n 0, 1) := by decide +kernel
theorem dX9_text_135 : decode cX9_text 135 = .ok (.getfield 120, 3) := by decide +kernel
theorem dX9_text_138 : decode cX9_text 138 = .ok (.iastore, 1) := by decide +kernel
theorem dX9_text_139 : decode cX9_text 139 = .ok (.aload_n 0, 1) := by decide +kernel
theorem dX9_text_140 : decode cX9_text 140 = .ok (.iconst 0, 1) := by decide +kernel
theorem dX9_text_141 : decode cX9_text 141 = .ok (.putfield 73, 3) := by decide +kernel
theorem dX9_text_144 : decode cX9_text 144 = .ok (.iload_n 1, 1) := by decide +kernel
theorem dX9_text_145 : decode cX9_text 145 = .ok (.ifCond .ne 11, 3) := by decide +kernel
theorem dX9_text_148 : decode cX9_text 148 = .ok (.bipush (-100), 2) := by decide +kernel
theorem dX9_text_150 : decode cX9_text 150 = .ok (.aload_n 0, 1) := by decide +kernel
theorem dX9_text_151 : decode cX9_text 151 = .ok (.getfield 107, 3) := by decide +kernel
theorem dX9_text_154 : decode cX9_text 154 = .ok (.isub, 1) := by decide +kernel
theorem dX9_text_155 : decode cX9_text 155 = .ok (.ireturn, 1) := by decide +kernel
theorem dX9_text_156 : decode cX9_text 156 = .ok (.aload_n 0, 1) := by decide +kernel
theorem dX9_text_157 : decode cX9_text 157 = .ok (.dup, 1) := by decide +kernel
theorem dX9_text_158 : decode cX9_text 158 = .ok (.getfield 94, 3) := by decide +kernel
theorem dX9_text_161 : decode cX9_text 161 = .ok (.iconst 1, 1) := by decide +kernel
theorem dX9_text_162 : decode cX9_text 162 = .ok (.iadd, 1) := by decide +kernel
theorem dX9_text_163 : decode cX9_text 163 = .ok (.putfield 94, 3) := by decide +kernel
theorem dX9_text_166 : decode cX9_text 166 = .ok (.aload_n 0, 1) := by decide +kernel
theorem dX9_text_167 : decode cX9_text 167 = .ok (.getfield 94, 3) := by decide +kernel
theorem dX9_text_170 : decode cX9_text 170 = .ok (.iconst 1, 1) := by decide +kernel
theorem dX9_text_171 : decode cX9_text 171 = .ok (.isub, 1) := by decide +kernel
theorem dX9_text_172 : decode cX9_text 172 = .ok (.ireturn, 1) := by decide +kernel
theorem dX9_two_0 : decode cX9_two 0 = .ok (.iload_n 0, 1) := by decide +kernel
theorem dX9_two_1 : decode cX9_two 1 = .ok (.tableswitch 101 11 17 #[43, 57, 101, 71, 82, 93, 97], 43) := by decide +kernel
theorem dX9_two_44 : decode cX9_two 44 = .ok (.iload_n 1, 1) := by decide +kernel
theorem dX9_two_45 : decode cX9_two 45 = .ok (.ifCond .ne 7, 3) := by decide +kernel
theorem dX9_two_48 : decode cX9_two 48 = .ok (.iload_n 2, 1) := by decide +kernel
theorem dX9_two_49 : decode cX9_two 49 = .ok (.ifCond .eq 7, 3) := by decide +kernel
theorem dX9_two_52 : decode cX9_two 52 = .ok (.iconst 1, 1) := by decide +kernel
theorem dX9_two_53 : decode cX9_two 53 = .ok (.goto 4, 3) := by decide +kernel
theorem dX9_two_56 : decode cX9_two 56 = .ok (.iconst 0, 1) := by decide +kernel
theorem dX9_two_57 : decode cX9_two 57 = .ok (.ireturn, 1) := by decide +kernel
theorem dX9_two_58 : decode cX9_two 58 = .ok (.iload_n 1, 1) := by decide +kernel
theorem dX9_two_59 : decode cX9_two 59 = .ok (.ifCond .eq 11, 3) := by decide +kernel
theorem dX9_two_62 : decode cX9_two 62 = .ok (.iload_n 2, 1) := by decide +kernel
theorem dX9_two_63 : decode cX9_two 63 = .ok (.ifCond .eq 7, 3) := by decide +kernel
theorem dX9_two_66 : decode cX9_two 66 = .ok (.iconst 1, 1) := by decide +kernel
theorem dX9_two_67 : decode cX9_two 67 = .ok (.goto 4, 3) := by decide +kernel
theorem dX9_two_70 : decode cX9_two 70 = .ok (.iconst 0, 1) := by decide +kernel
theorem dX9_two_71 : decode cX9_two 71 = .ok (.ireturn, 1) := by decide +kernel
theorem dX9_two_72 : decode cX9_two 72 = .ok (.iload_n 1, 1) := by decide +kernel
theorem dX9_two_73 : decode cX9_two 73 = .ok (.iload_n 2, 1) := by decide +kernel
theorem dX9_two_74 : decode cX9_two 74 = .ok (.if_icmp .ge 7, 3) := by decide +kernel
theorem dX9_two_77 : decode cX9_two 77 = .ok (.iconst 1, 1) := by decide +kernel
theorem dX9_two_78 : decode cX9_two 78 = .ok (.goto 4, 3) := by decide +kernel
theorem dX9_two_81 : decode cX9_two 81 = .ok (.iconst 0, 1) := by decide +kernel
theorem dX9_two_82 : decode cX9_two 82 = .ok (.ireturn, 1) := by decide +kernel
theorem dX9_two_83 : decode cX9_two 83 = .ok (.iload_n 1, 1) := by decide +kernel
theorem dX9_two_84 : decode cX9_two 84 = .ok (.iload_n 2, 1) := by decide +kernel
theorem dX9_two_85 : decode cX9_two 85 = .ok (.if_icmp .ne 7, 3) := by decide +kernel
theorem dX9_two_88 : decode cX9_two 88 = .ok (.iconst 1, 1) := by decide +kernel
theorem dX9_two_89 : decode cX9_two 89 = .ok (.goto 4, 3) := by decide +kernel
theorem dX9_two_92 : decode cX9_two 92 = .ok (.iconst 0, 1) := by decide +kernel
theorem dX9_two_93 : decode cX9_two 93 = .ok (.ireturn, 1) := by decide +kernel
theorem dX9_two_94 : decode cX9_two 94 = .ok (.iload_n 1, 1) := by decide +kernel
theorem dX9_two_95 : decode cX9_two 95 = .ok (.iload_n 2, 1) := by decide +kernel
theorem dX9_two_96 : decode cX9_two 96 = .ok (.iadd, 1) := by decide +kernel
theorem dX9_two_97 : decode cX9_two 97 = .ok (.ireturn, 1) := by decide +kernel
theorem dX9_two_98 : decode cX9_two 98 = .ok (.iload_n 1, 1) := by decide +kernel
theorem dX9_two_99 : decode cX9_two 99 = .ok (.iload_n 2, 1) := by decide +kernel
theorem dX9_two_100 : decode cX9_two 100 = .ok (.isub, 1) := by decide +kernel
theorem dX9_two_101 : decode cX9_two 101 = .ok (.ireturn, 1) := by decide +kernel
theorem dX9_two_102 : decode cX9_two 102 = .ok (.iload_n 1, 1) := by decide +kernel
theorem dX9_two_103 : decode cX9_two 103 = .ok (.iload_n 2, 1) := by decide +kernel
theorem dX9_two_104 : decode cX9_two 104 = .ok (.imul, 1) := by decide +kernel
theorem dX9_two_105 : decode cX9_two 105 = .ok (.ireturn, 1) := by decide +kernel
theorem dX9_says_0 : decode cX9_says 0 = .ok (.iconst 0, 1) := by decide +kernel
theorem dX9_says_1 : decode cX9_says 1 = .ok (.istore_n 2, 1) := by decide +kernel
theorem dX9_says_2 : decode cX9_says 2 = .ok (.aload_n 0, 1) := by decide +kernel
theorem dX9_says_3 : decode cX9_says 3 = .ok (.getfield 28, 3) := by decide +kernel
theorem dX9_says_6 : decode cX9_says 6 = .ok (.iconst 4, 1) := by decide +kernel
theorem dX9_says_7 : decode cX9_says 7 = .ok (.aload_n 0, 1) := by decide +kernel
theorem dX9_says_8 : decode cX9_says 8 = .ok (.getfield 97, 3) := by decide +kernel
theorem dX9_says_11 : decode cX9_says 11 = .ok (.imul, 1) := by decide +kernel
theorem dX9_says_12 : decode cX9_says 12 = .ok (.iload_n 1, 1) := by decide +kernel
theorem dX9_says_13 : decode cX9_says 13 = .ok (.iadd, 1) := by decide +kernel
theorem dX9_says_14 : decode cX9_says 14 = .ok (.iaload, 1) := by decide +kernel
theorem dX9_says_15 : decode cX9_says 15 = .ok (.istore_n 3, 1) := by decide +kernel
theorem dX9_says_16 : decode cX9_says 16 = .ok (.iload_n 3, 1) := by decide +kernel
theorem dX9_says_17 : decode cX9_says 17 = .ok (.aload_n 0, 1) := by decide +kernel
theorem dX9_says_18 : decode cX9_says 18 = .ok (.getfield 28, 3) := by decide +kernel
theorem dX9_says_21 : decode cX9_says 21 = .ok (.iconst 4, 1) := by decide +kernel
theorem dX9_says_22 : decode cX9_says 22 = .ok (.aload_n 0, 1) := by decide +kernel
theorem dX9_says_23 : decode cX9_says 23 = .ok (.getfield 97, 3) := by decide +kernel
theorem dX9_says_26 : decode cX9_says 26 = .ok (.imul, 1) := by decide +kernel
theorem dX9_says_27 : decode cX9_says 27 = .ok (.iload_n 1, 1) := by decide +kernel
theorem dX9_says_28 : decode cX9_says 28 = .ok (.iadd, 1) := by decide +kernel
theorem dX9_says_29 : decode cX9_says 29 = .ok (.iconst 1, 1) := by decide +kernel
theorem dX9_says_30 : decode cX9_says 30 = .ok (.iadd, 1) := by decide +kernel
theorem dX9_says_31 : decode cX9_says 31 = .ok (.iaload, 1) := by decide +kernel
theorem dX9_says_32 : decode cX9_says 32 = .ok (.if_icmp .ge 165, 3) := by decide +kernel
theorem dX9_says_35 : decode cX9_says 35 = .ok (.aload_n 0, 1) := by decide +kernel
theorem dX9_says_36 : decode cX9_says 36 = .ok (.getfield 25, 3) := by decide +kernel
theorem dX9_says_39 : decode cX9_says 39 = .ok (.sipush 200, 3) := by decide +kernel
theorem dX9_says_42 : decode cX9_says 42 = .ok (.aload_n 0, 1) := by decide +kernel
theorem dX9_says_43 : decode cX9_says 43 = .ok (.getfield 97, 3) := by decide +kernel
theorem dX9_says_46 : decode cX9_says 46 = .ok (.imul, 1) := by decide +kernel
theorem dX9_says_47 : decode cX9_says 47 = .ok (.iload_n 3, 1) := by decide +kernel
theorem dX9_says_48 : decode cX9_says 48 = .ok (.iadd, 1) := by decide +kernel
theorem dX9_says_49 : decode cX9_says 49 = .ok (.iaload, 1) := by decide +kernel
theorem dX9_says_50 : decode cX9_says 50 = .ok (.istore 4, 2) := by decide +kernel
theorem dX9_says_52 : decode cX9_says 52 = .ok (.iload 4, 2) := by decide +kernel
theorem dX9_says_54 : decode cX9_says 54 = .ok (.ldc 146, 2) := by decide +kernel
theorem dX9_says_56 : decode cX9_says 56 = .ok (.if_icmp .ge 10, 3) := by decide +kernel
theorem dX9_says_59 : decode cX9_says 59 = .ok (.iload 4, 2) := by decide +kernel
theorem dX9_says_61 : decode cX9_says 61 = .ok (.bipush 11, 2) := by decide +kernel
theorem dX9_says_63 : decode cX9_says 63 = .ok (.if_icmp .ge 37, 3) := by decide +kernel
theorem dX9_says_66 : decode cX9_says 66 = .ok (.aload_n 0, 1) := by decide +kernel
theorem dX9_says_67 : decode cX9_says 67 = .ok (.getfield 52, 3) := by decide +kernel
theorem dX9_says_70 : decode cX9_says 70 = .ok (.iload_n 2, 1) := by decide +kernel
theorem dX9_says_71 : decode cX9_says 71 = .ok (.iload 4, 2) := by decide +kernel
theorem dX9_says_73 : decode cX9_says 73 = .ok (.bipush 11, 2) := by decide +kernel
theorem dX9_says_75 : decode cX9_says 75 = .ok (.if_icmp .ge 13, 3) := by decide +kernel
theorem dX9_says_78 : decode cX9_says 78 = .ok (.aload_n 0, 1) := by decide +kernel
theorem dX9_says_79 : decode cX9_says 79 = .ok (.getfield 55, 3) := by decide +kernel
theorem dX9_says_82 : decode cX9_says 82 = .ok (.iload 4, 2) := by decide +kernel
theorem dX9_says_84 : decode cX9_says 84 = .ok (.iaload, 1) := by decide +kernel
theorem dX9_says_85 : decode cX9_says 85 = .ok (.goto 8, 3) := by decide +kernel
theorem dX9_says_88 : decode cX9_says 88 = .ok (.iload 4, 2) := by decide +kernel
theorem dX9_says_90 : decode cX9_says 90 = .ok (.ldc 146, 2) := by decide +kernel
theorem dX9_says_92 : decode cX9_says 92 = .ok (.isub, 1) := by decide +kernel
theorem dX9_says_93 : decode cX9_says 93 = .ok (.iastore, 1) := by decide +kernel
theorem dX9_says_94 : decode cX9_says 94 = .ok (.iinc 2 1, 3) := by decide +kernel
theorem dX9_says_97 : decode cX9_says 97 = .ok (.goto 94, 3) := by decide +kernel
theorem dX9_says_100 : decode cX9_says 100 = .ok (.iload 4, 2) := by decide +kernel
theorem dX9_says_102 : decode cX9_says 102 = .ok (.bipush 13, 2) := by decide +kernel
theorem dX9_says_104 : decode cX9_says 104 = .ok (.if_icmp .ne 30, 3) := by decide +kernel
theorem dX9_says_107 : decode cX9_says 107 = .ok (.aload_n 0, 1) := by decide +kernel
theorem dX9_says_108 : decode cX9_says 108 = .ok (.getfield 52, 3) := by decide +kernel
theorem dX9_says_111 : decode cX9_says 111 = .ok (.iload_n 2, 1) := by decide +kernel
theorem dX9_says_112 : decode cX9_says 112 = .ok (.iconst 1, 1) := by decide +kernel
theorem dX9_says_113 : decode cX9_says 113 = .ok (.isub, 1) := by decide +kernel
theorem dX9_says_114 : decode cX9_says 114 = .ok (.aload_n 0, 1) := by decide +kernel
theorem dX9_says_115 : decode cX9_says 115 = .ok (.getfield 52, 3) := by decide +kernel
theorem dX9_says_118 : decode cX9_says 118 = .ok (.iload_n 2, 1) := by decide +kernel
theorem dX9_says_119 : decode cX9_says 119 = .ok (.iconst 1, 1) := by decide +kernel
theorem dX9_says_120 : decode cX9_says 120 = .ok (.isub, 1) := by decide +kernel
theorem dX9_says_121 : decode cX9_says 121 = .ok (.iaload, 1) := by decide +kernel
theorem dX9_says_122 : decode cX9_says 122 = .ok (.ifCond .ne 7, 3) := by decide +kernel
theorem dX9_says_125 : decode cX9_says 125 = .ok (.iconst 1, 1) := by decide +kernel
theorem dX9_says_126 : decode cX9_says 126 = .ok (.goto 4, 3) := by decide +kernel
theorem dX9_says_129 : decode cX9_says 129 = .ok (.iconst 0, 1) := by decide +kernel
theorem dX9_says_130 : decode cX9_says 130 = .ok (.iastore, 1) := by decide +kernel
theorem dX9_says_131 : decode cX9_says 131 = .ok (.goto 60, 3) := by decide +kernel
theorem dX9_says_134 : decode cX9_says 134 = .ok (.iload 4, 2) := by decide +kernel
theorem dX9_says_136 : decode cX9_says 136 = .ok (.bipush 19, 2) := by decide +kernel
theorem dX9_says_138 : decode cX9_says 138 = .ok (.if_icmp .ne 23, 3) := by decide +kernel
theorem dX9_says_141 : decode cX9_says 141 = .ok (.aload_n 0, 1) := by decide +kernel
theorem dX9_says_142 : decode cX9_says 142 = .ok (.getfield 52, 3) := by decide +kernel
theorem dX9_says_145 : decode cX9_says 145 = .ok (.iload_n 2, 1) := by decide +kernel
theorem dX9_says_146 : decode cX9_says 146 = .ok (.iconst 1, 1) := by decide +kernel
theorem dX9_says_147 : decode cX9_says 147 = .ok (.isub, 1) := by decide +kernel
theorem dX9_says_148 : decode cX9_says 148 = .ok (.aload_n 0, 1) := by decide +kernel
theorem dX9_says_149 : decode cX9_says 149 = .ok (.getfield 52, 3) := by decide +kernel
theorem dX9_says_152 : decode cX9_says 152 = .ok (.iload_n 2, 1) := by decide +kernel
theorem dX9_says_153 : decode cX9_says 153 = .ok (.iconst 1, 1) := by decide +kernel
theorem dX9_says_154 : decode cX9_says 154 = .ok (.isub, 1) := by decide +kernel
theorem dX9_says_155 : decode cX9_says 155 = .ok (.iaload, 1) := by decide +kernel
theorem dX9_says_156 : decode cX9_says 156 = .ok (.ineg, 1) := by decide +kernel
theorem dX9_says_157 : decode cX9_says 157 = .ok (.iastore, 1) := by decide +kernel
theorem dX9_says_158 : decode cX9_says 158 = .ok (.goto 33, 3) := by decide +kernel
theorem dX9_says_161 : decode cX9_says 161 = .ok (.iinc 2 (-1), 3) := by decide +kernel
theorem dX9_says_164 : decode cX9_says 164 = .ok (.aload_n 0, 1) := by decide +kernel
theorem dX9_says_165 : decode cX9_says 165 = .ok (.getfield 52, 3) := by decide +kernel
theorem dX9_says_168 : decode cX9_says 168 = .ok (.iload_n 2, 1) := by decide +kernel
theorem dX9_says_169 : decode cX9_says 169 = .ok (.iconst 1, 1) := by decide +kernel
theorem dX9_says_170 : decode cX9_says 170 = .ok (.isub, 1) := by decide +kernel
theorem dX9_says_171 : decode cX9_says 171 = .ok (.iload 4, 2) := by decide +kernel
theorem dX9_says_173 : decode cX9_says 173 = .ok (.aload_n 0, 1) := by decide +kernel
theorem dX9_says_174 : decode cX9_says 174 = .ok (.getfield 52, 3) := by decide +kernel
theorem dX9_says_177 : decode cX9_says 177 = .ok (.iload_n 2, 1) := by decide +kernel
theorem dX9_says_178 : decode cX9_says 178 = .ok (.iconst 1, 1) := by decide +kernel
theorem dX9_says_179 : decode cX9_says 179 = .ok (.isub, 1) := by decide +kernel
theorem dX9_says_180 : decode cX9_says 180 = .ok (.iaload, 1) := by decide +kernel
theorem dX9_says_181 : decode cX9_says 181 = .ok (.aload_n 0, 1) := by decide +kernel
theorem dX9_says_182 : decode cX9_says 182 = .ok (.getfield 52, 3) := by decide +kernel
theorem dX9_says_185 : decode cX9_says 185 = .ok (.iload_n 2, 1) := by decide +kernel
theorem dX9_says_186 : decode cX9_says 186 = .ok (.iaload, 1) := by decide +kernel
theorem dX9_says_187 : decode cX9_says 187 = .ok (.invokestatic 160, 3) := by decide +kernel
theorem dX9_says_190 : decode cX9_says 190 = .ok (.iastore, 1) := by decide +kernel
theorem dX9_says_191 : decode cX9_says 191 = .ok (.iinc 3 1, 3) := by decide +kernel
theorem dX9_says_194 : decode cX9_says 194 = .ok (.goto (-178), 3) := by decide +kernel
theorem dX9_says_197 : decode cX9_says 197 = .ok (.aload_n 0, 1) := by decide +kernel
theorem dX9_says_198 : decode cX9_says 198 = .ok (.getfield 52, 3) := by decide +kernel
theorem dX9_says_201 : decode cX9_says 201 = .ok (.iconst 0, 1) := by decide +kernel
theorem dX9_says_202 : decode cX9_says 202 = .ok (.iaload, 1) := by decide +kernel
theorem dX9_says_203 : decode cX9_says 203 = .ok (.ireturn, 1) := by decide +kernel
theorem dX9_force_0 : decode cX9_force 0 = .ok (.iload_n 1, 1) := by decide +kernel
theorem dX9_force_1 : decode cX9_force 1 = .ok (.iconst 0, 1) := by decide +kernel
theorem dX9_force_2 : decode cX9_force 2 = .ok (.aload_n 0, 1) := by decide +kernel
theorem dX9_force_3 : decode cX9_force 3 = .ok (.getfield 94, 3) := by decide +kernel
theorem dX9_force_6 : decode cX9_force 6 = .ok (.iconst 1, 1) := by decide +kernel
theorem dX9_force_7 : decode cX9_force 7 = .ok (.isub, 1) := by decide +kernel
theorem dX9_force_8 : decode cX9_force 8 = .ok (.invokestatic 84, 3) := by decide +kernel
theorem dX9_force_11 : decode cX9_force 11 = .ok (.ifCond .ne 6, 3) := by decide +kernel
theorem dX9_force_14 : decode cX9_force 14 = .ok (.bipush (-2), 2) := by decide +kernel
theorem dX9_force_16 : decode cX9_force 16 = .ok (.ireturn, 1) := by decide +kernel
theorem dX9_force_17 : decode cX9_force 17 = .ok (.aload_n 0, 1) := by decide +kernel
theorem dX9_force_18 : decode cX9_force 18 = .ok (.getfield 97, 3) := by decide +kernel
theorem dX9_force_21 : decode cX9_force 21 = .ok (.istore_n 2, 1) := by decide +kernel
theorem dX9_force_22 : decode cX9_force 22 = .ok (.aload_n 0, 1) := by decide +kernel
theorem dX9_force_23 : decode cX9_force 23 = .ok (.iload_n 1, 1) := by decide +kernel
theorem dX9_force_24 : decode cX9_force 24 = .ok (.putfield 97, 3) := by decide +kernel
theorem dX9_force_27 : decode cX9_force 27 = .ok (.iload_n 2, 1) := by decide +kernel
theorem dX9_force_28 : decode cX9_force 28 = .ok (.ireturn, 1) := by decide +kernel
theorem dX9_owedBy_0 : decode cX9_owedBy 0 = .ok (.iconst 0, 1) := by decide +kernel
theorem dX9_owedBy_1 : decode cX9_owedBy 1 = .ok (.istore_n 2, 1) := by decide +kernel
theorem dX9_owedBy_2 : decode cX9_owedBy 2 = .ok (.iconst 0, 1) := by decide +kernel
theorem dX9_owedBy_3 : decode cX9_owedBy 3 = .ok (.istore_n 3, 1) := by decide +kernel
theorem dX9_owedBy_4 : decode cX9_owedBy 4 = .ok (.iload_n 3, 1) := by decide +kernel
theorem dX9_owedBy_5 : decode cX9_owedBy 5 = .ok (.aload_n 0, 1) := by decide +kernel
theorem dX9_owedBy_6 : decode cX9_owedBy 6 = .ok (.getfield 88, 3) := by decide +kernel
theorem dX9_owedBy_9 : decode cX9_owedBy 9 = .ok (.if_icmp .ge 48, 3) := by decide +kernel
theorem dX9_owedBy_12 : decode cX9_owedBy 12 = .ok (.iload_n 2, 1) := by decide +kernel
theorem dX9_owedBy_13 : decode cX9_owedBy 13 = .ok (.aload_n 0, 1) := by decide +kernel
theorem dX9_owedBy_14 : decode cX9_owedBy 14 = .ok (.getfield 19, 3) := by decide +kernel
theorem dX9_owedBy_17 : decode cX9_owedBy 17 = .ok (.bipush 6, 2) := by decide +kernel
theorem dX9_owedBy_19 : decode cX9_owedBy 19 = .ok (.iload_n 3, 1) := by decide +kernel
theorem dX9_owedBy_20 : decode cX9_owedBy 20 = .ok (.imul, 1) := by decide +kernel
theorem dX9_owedBy_21 : decode cX9_owedBy 21 = .ok (.iaload, 1) := by decide +kernel
theorem dX9_owedBy_22 : decode cX9_owedBy 22 = .ok (.iload_n 1, 1) := by decide +kernel
theorem dX9_owedBy_23 : decode cX9_owedBy 23 = .ok (.if_icmp .ne 25, 3) := by decide +kernel
theorem dX9_owedBy_26 : decode cX9_owedBy 26 = .ok (.aload_n 0, 1) := by decide +kernel
theorem dX9_owedBy_27 : decode cX9_owedBy 27 = .ok (.iload_n 3, 1) := by decide +kernel
theorem dX9_owedBy_28 : decode cX9_owedBy 28 = .ok (.invokevirtual 164, 3) := by decide +kernel
theorem dX9_owedBy_31 : decode cX9_owedBy 31 = .ok (.ifCond .eq 17, 3) := by decide +kernel
theorem dX9_owedBy_34 : decode cX9_owedBy 34 = .ok (.aload_n 0, 1) := by decide +kernel
theorem dX9_owedBy_35 : decode cX9_owedBy 35 = .ok (.getfield 19, 3) := by decide +kernel
theorem dX9_owedBy_38 : decode cX9_owedBy 38 = .ok (.bipush 6, 2) := by decide +kernel
theorem dX9_owedBy_40 : decode cX9_owedBy 40 = .ok (.iload_n 3, 1) := by decide +kernel
theorem dX9_owedBy_41 : decode cX9_owedBy 41 = .ok (.imul, 1) := by decide +kernel
theorem dX9_owedBy_42 : decode cX9_owedBy 42 = .ok (.iconst 2, 1) := by decide +kernel
theorem dX9_owedBy_43 : decode cX9_owedBy 43 = .ok (.iadd, 1) := by decide +kernel
theorem dX9_owedBy_44 : decode cX9_owedBy 44 = .ok (.iaload, 1) := by decide +kernel
theorem dX9_owedBy_45 : decode cX9_owedBy 45 = .ok (.goto 4, 3) := by decide +kernel
theorem dX9_owedBy_48 : decode cX9_owedBy 48 = .ok (.iconst 0, 1) := by decide +kernel
theorem dX9_owedBy_49 : decode cX9_owedBy 49 = .ok (.iadd, 1) := by decide +kernel
theorem dX9_owedBy_50 : decode cX9_owedBy 50 = .ok (.istore_n 2, 1) := by decide +kernel
theorem dX9_owedBy_51 : decode cX9_owedBy 51 = .ok (.iinc 3 1, 3) := by decide +kernel
theorem dX9_owedBy_54 : decode cX9_owedBy 54 = .ok (.goto (-50), 3) := by decide +kernel
theorem dX9_owedBy_57 : decode cX9_owedBy 57 = .ok (.iload_n 2, 1) := by decide +kernel
theorem dX9_owedBy_58 : decode cX9_owedBy 58 = .ok (.ireturn, 1) := by decide +kernel
theorem dX9_asksOf_0 : decode cX9_asksOf 0 = .ok (.aload_n 0, 1) := by decide +kernel
theorem dX9_asksOf_1 : decode cX9_asksOf 1 = .ok (.getfield 55, 3) := by decide +kernel
theorem dX9_asksOf_4 : decode cX9_asksOf 4 = .ok (.iconst 0, 1) := by decide +kernel
theorem dX9_asksOf_5 : decode cX9_asksOf 5 = .ok (.aload_n 0, 1) := by decide +kernel
theorem dX9_asksOf_6 : decode cX9_asksOf 6 = .ok (.getfield 16, 3) := by decide +kernel
theorem dX9_asksOf_9 : decode cX9_asksOf 9 = .ok (.iconst 4, 1) := by decide +kernel
theorem dX9_asksOf_10 : decode cX9_asksOf 10 = .ok (.iload_n 2, 1) := by decide +kernel
theorem dX9_asksOf_11 : decode cX9_asksOf 11 = .ok (.imul, 1) := by decide +kernel
theorem dX9_asksOf_12 : decode cX9_asksOf 12 = .ok (.iaload, 1) := by decide +kernel
theorem dX9_asksOf_13 : decode cX9_asksOf 13 = .ok (.iastore, 1) := by decide +kernel
theorem dX9_asksOf_14 : decode cX9_asksOf 14 = .ok (.aload_n 0, 1) := by decide +kernel
theorem dX9_asksOf_15 : decode cX9_asksOf 15 = .ok (.getfield 55, 3) := by decide +kernel
theorem dX9_asksOf_18 : decode cX9_asksOf 18 = .ok (.iconst 1, 1) := by decide +kernel
theorem dX9_asksOf_19 : decode cX9_asksOf 19 = .ok (.aload_n 0, 1) := by decide +kernel
theorem dX9_asksOf_20 : decode cX9_asksOf 20 = .ok (.getfield 16, 3) := by decide +kernel
theorem dX9_asksOf_23 : decode cX9_asksOf 23 = .ok (.iconst 4, 1) := by decide +kernel
theorem dX9_asksOf_24 : decode cX9_asksOf 24 = .ok (.iload_n 2, 1) := by decide +kernel
theorem dX9_asksOf_25 : decode cX9_asksOf 25 = .ok (.imul, 1) := by decide +kernel
theorem dX9_asksOf_26 : decode cX9_asksOf 26 = .ok (.iconst 1, 1) := by decide +kernel
theorem dX9_asksOf_27 : decode cX9_asksOf 27 = .ok (.iadd, 1) := by decide +kernel
theorem dX9_asksOf_28 : decode cX9_asksOf 28 = .ok (.iaload, 1) := by decide +kernel
theorem dX9_asksOf_29 : decode cX9_asksOf 29 = .ok (.iastore, 1) := by decide +kernel
theorem dX9_asksOf_30 : decode cX9_asksOf 30 = .ok (.aload_n 0, 1) := by decide +kernel
theorem dX9_asksOf_31 : decode cX9_asksOf 31 = .ok (.getfield 55, 3) := by decide +kernel
theorem dX9_asksOf_34 : decode cX9_asksOf 34 = .ok (.iconst 2, 1) := by decide +kernel
theorem dX9_asksOf_35 : decode cX9_asksOf 35 = .ok (.aload_n 0, 1) := by decide +kernel
theorem dX9_asksOf_36 : decode cX9_asksOf 36 = .ok (.getfield 13, 3) := by decide +kernel
theorem dX9_asksOf_39 : decode cX9_asksOf 39 = .ok (.iload_n 2, 1) := by decide +kernel
theorem dX9_asksOf_40 : decode cX9_asksOf 40 = .ok (.iaload, 1) := by decide +kernel
theorem dX9_asksOf_41 : decode cX9_asksOf 41 = .ok (.iastore, 1) := by decide +kernel
theorem dX9_asksOf_42 : decode cX9_asksOf 42 = .ok (.aload_n 0, 1) := by decide +kernel
theorem dX9_asksOf_43 : decode cX9_asksOf 43 = .ok (.getfield 55, 3) := by decide +kernel
theorem dX9_asksOf_46 : decode cX9_asksOf 46 = .ok (.iconst 3, 1) := by decide +kernel
theorem dX9_asksOf_47 : decode cX9_asksOf 47 = .ok (.iload_n 3, 1) := by decide +kernel
theorem dX9_asksOf_48 : decode cX9_asksOf 48 = .ok (.iastore, 1) := by decide +kernel
theorem dX9_asksOf_49 : decode cX9_asksOf 49 = .ok (.aload_n 0, 1) := by decide +kernel
theorem dX9_asksOf_50 : decode cX9_asksOf 50 = .ok (.getfield 55, 3) := by decide +kernel
theorem dX9_asksOf_53 : decode cX9_asksOf 53 = .ok (.iconst 4, 1) := by decide +kernel
theorem dX9_asksOf_54 : decode cX9_asksOf 54 = .ok (.aload_n 0, 1) := by decide +kernel
theorem dX9_asksOf_55 : decode cX9_asksOf 55 = .ok (.iload_n 2, 1) := by decide +kernel
theorem dX9_asksOf_56 : decode cX9_asksOf 56 = .ok (.invokevirtual 167, 3) := by decide +kernel
theorem dX9_asksOf_59 : decode cX9_asksOf 59 = .ok (.iastore, 1) := by decide +kernel
theorem dX9_asksOf_60 : decode cX9_asksOf 60 = .ok (.aload_n 0, 1) := by decide +kernel
theorem dX9_asksOf_61 : decode cX9_asksOf 61 = .ok (.getfield 55, 3) := by decide +kernel
theorem dX9_asksOf_64 : decode cX9_asksOf 64 = .ok (.iconst 5, 1) := by decide +kernel
theorem dX9_asksOf_65 : decode cX9_asksOf 65 = .ok (.aload_n 0, 1) := by decide +kernel
theorem dX9_asksOf_66 : decode cX9_asksOf 66 = .ok (.getfield 16, 3) := by decide +kernel
theorem dX9_asksOf_69 : decode cX9_asksOf 69 = .ok (.iconst 4, 1) := by decide +kernel
theorem dX9_asksOf_70 : decode cX9_asksOf 70 = .ok (.iload_n 2, 1) := by decide +kernel
theorem dX9_asksOf_71 : decode cX9_asksOf 71 = .ok (.imul, 1) := by decide +kernel
theorem dX9_asksOf_72 : decode cX9_asksOf 72 = .ok (.iconst 2, 1) := by decide +kernel
theorem dX9_asksOf_73 : decode cX9_asksOf 73 = .ok (.iadd, 1) := by decide +kernel
theorem dX9_asksOf_74 : decode cX9_asksOf 74 = .ok (.iaload, 1) := by decide +kernel
theorem dX9_asksOf_75 : decode cX9_asksOf 75 = .ok (.iastore, 1) := by decide +kernel
theorem dX9_asksOf_76 : decode cX9_asksOf 76 = .ok (.aload_n 0, 1) := by decide +kernel
theorem dX9_asksOf_77 : decode cX9_asksOf 77 = .ok (.iload_n 1, 1) := by decide +kernel
theorem dX9_asksOf_78 : decode cX9_asksOf 78 = .ok (.invokevirtual 170, 3) := by decide +kernel
theorem dX9_asksOf_81 : decode cX9_asksOf 81 = .ok (.iconst 0, 1) := by decide +kernel
theorem dX9_asksOf_82 : decode cX9_asksOf 82 = .ok (.bipush 99, 2) := by decide +kernel
theorem dX9_asksOf_84 : decode cX9_asksOf 84 = .ok (.invokestatic 173, 3) := by decide +kernel
theorem dX9_asksOf_87 : decode cX9_asksOf 87 = .ok (.ireturn, 1) := by decide +kernel
theorem dX9_asks_0 : decode cX9_asks 0 = .ok (.iload_n 1, 1) := by decide +kernel
theorem dX9_asks_1 : decode cX9_asks 1 = .ok (.iconst 0, 1) := by decide +kernel
theorem dX9_asks_2 : decode cX9_asks 2 = .ok (.iconst 2, 1) := by decide +kernel
theorem dX9_asks_3 : decode cX9_asks 3 = .ok (.invokestatic 84, 3) := by decide +kernel
theorem dX9_asks_6 : decode cX9_asks 6 = .ok (.ifCond .eq 32, 3) := by decide +kernel
theorem dX9_asks_9 : decode cX9_asks 9 = .ok (.aload_n 0, 1) := by decide +kernel
theorem dX9_asks_10 : decode cX9_asks 10 = .ok (.iload_n 2, 1) := by decide +kernel
theorem dX9_asks_11 : decode cX9_asks 11 = .ok (.invokevirtual 176, 3) := by decide +kernel
theorem dX9_asks_14 : decode cX9_asks 14 = .ok (.ifCond .eq 24, 3) := by decide +kernel
theorem dX9_asks_17 : decode cX9_asks 17 = .ok (.iload_n 3, 1) := by decide +kernel
theorem dX9_asks_18 : decode cX9_asks 18 = .ok (.iconst 0, 1) := by decide +kernel
theorem dX9_asks_19 : decode cX9_asks 19 = .ok (.sipush 999, 3) := by decide +kernel
theorem dX9_asks_22 : decode cX9_asks 22 = .ok (.invokestatic 84, 3) := by decide +kernel
theorem dX9_asks_25 : decode cX9_asks 25 = .ok (.ifCond .eq 13, 3) := by decide +kernel
theorem dX9_asks_28 : decode cX9_asks 28 = .ok (.aload_n 0, 1) := by decide +kernel
theorem dX9_asks_29 : decode cX9_asks 29 = .ok (.iload_n 1, 1) := by decide +kernel
theorem dX9_asks_30 : decode cX9_asks 30 = .ok (.iload_n 2, 1) := by decide +kernel
theorem dX9_asks_31 : decode cX9_asks 31 = .ok (.iload_n 3, 1) := by decide +kernel
theorem dX9_asks_32 : decode cX9_asks 32 = .ok (.invokevirtual 179, 3) := by decide +kernel
theorem dX9_asks_35 : decode cX9_asks 35 = .ok (.goto 5, 3) := by decide +kernel
theorem dX9_asks_38 : decode cX9_asks 38 = .ok (.bipush (-2), 2) := by decide +kernel
theorem dX9_asks_40 : decode cX9_asks 40 = .ok (.ireturn, 1) := by decide +kernel
theorem dX9_man_0 : decode cX9_man 0 = .ok (.iload_n 1, 1) := by decide +kernel
theorem dX9_man_1 : decode cX9_man 1 = .ok (.iconst 0, 1) := by decide +kernel
theorem dX9_man_2 : decode cX9_man 2 = .ok (.iconst 5, 1) := by decide +kernel
theorem dX9_man_3 : decode cX9_man 3 = .ok (.invokestatic 84, 3) := by decide +kernel
theorem dX9_man_6 : decode cX9_man 6 = .ok (.ifCond .eq 24, 3) := by decide +kernel
theorem dX9_man_9 : decode cX9_man 9 = .ok (.iload_n 2, 1) := by decide +kernel
theorem dX9_man_10 : decode cX9_man 10 = .ok (.iconst 0, 1) := by decide +kernel
theorem dX9_man_11 : decode cX9_man 11 = .ok (.bipush 9, 2) := by decide +kernel
theorem dX9_man_13 : decode cX9_man 13 = .ok (.invokestatic 84, 3) := by decide +kernel
theorem dX9_man_16 : decode cX9_man 16 = .ok (.ifCond .eq 14, 3) := by decide +kernel
theorem dX9_man_19 : decode cX9_man 19 = .ok (.iload_n 3, 1) := by decide +kernel
theorem dX9_man_20 : decode cX9_man 20 = .ok (.iconst 0, 1) := by decide +kernel
theorem dX9_man_21 : decode cX9_man 21 = .ok (.sipush 999, 3) := by decide +kernel
theorem dX9_man_24 : decode cX9_man 24 = .ok (.invokestatic 84, 3) := by decide +kernel
theorem dX9_man_27 : decode cX9_man 27 = .ok (.ifCond .ne 6, 3) := by decide +kernel
theorem dX9_man_30 : decode cX9_man 30 = .ok (.bipush (-2), 2) := by decide +kernel
theorem dX9_man_32 : decode cX9_man 32 = .ok (.ireturn, 1) := by decide +kernel
theorem dX9_man_33 : decode cX9_man 33 = .ok (.aload_n 0, 1) := by decide +kernel
theorem dX9_man_34 : decode cX9_man 34 = .ok (.getfield 81, 3) := by decide +kernel
theorem dX9_man_37 : decode cX9_man 37 = .ok (.bipush 6, 2) := by decide +kernel
theorem dX9_man_39 : decode cX9_man 39 = .ok (.if_icmp .ne 6, 3) := by decide +kernel
theorem dX9_man_42 : decode cX9_man 42 = .ok (.bipush (-4), 2) := by decide +kernel
theorem dX9_man_44 : decode cX9_man 44 = .ok (.ireturn, 1) := by decide +kernel
theorem dX9_man_45 : decode cX9_man 45 = .ok (.aload_n 0, 1) := by decide +kernel
theorem dX9_man_46 : decode cX9_man 46 = .ok (.getfield 7, 3) := by decide +kernel
theorem dX9_man_49 : decode cX9_man 49 = .ok (.aload_n 0, 1) := by decide +kernel
theorem dX9_man_50 : decode cX9_man 50 = .ok (.getfield 81, 3) := by decide +kernel
theorem dX9_man_53 : decode cX9_man 53 = .ok (.iload_n 1, 1) := by decide +kernel
theorem dX9_man_54 : decode cX9_man 54 = .ok (.iastore, 1) := by decide +kernel
theorem dX9_man_55 : decode cX9_man 55 = .ok (.aload_n 0, 1) := by decide +kernel
theorem dX9_man_56 : decode cX9_man 56 = .ok (.getfield 13, 3) := by decide +kernel
theorem dX9_man_59 : decode cX9_man 59 = .ok (.aload_n 0, 1) := by decide +kernel
theorem dX9_man_60 : decode cX9_man 60 = .ok (.getfield 81, 3) := by decide +kernel
theorem dX9_man_63 : decode cX9_man 63 = .ok (.iload_n 2, 1) := by decide +kernel
theorem dX9_man_64 : decode cX9_man 64 = .ok (.iastore, 1) := by decide +kernel
theorem dX9_man_65 : decode cX9_man 65 = .ok (.aload_n 0, 1) := by decide +kernel
theorem dX9_man_66 : decode cX9_man 66 = .ok (.getfield 16, 3) := by decide +kernel
theorem dX9_man_69 : decode cX9_man 69 = .ok (.iconst 4, 1) := by decide +kernel
theorem dX9_man_70 : decode cX9_man 70 = .ok (.aload_n 0, 1) := by decide +kernel
theorem dX9_man_71 : decode cX9_man 71 = .ok (.getfield 81, 3) := by decide +kernel
theorem dX9_man_74 : decode cX9_man 74 = .ok (.imul, 1) := by decide +kernel
theorem dX9_man_75 : decode cX9_man 75 = .ok (.iload_n 3, 1) := by decide +kernel
theorem dX9_man_76 : decode cX9_man 76 = .ok (.iastore, 1) := by decide +kernel
theorem dX9_man_77 : decode cX9_man 77 = .ok (.aload_n 0, 1) := by decide +kernel
theorem dX9_man_78 : decode cX9_man 78 = .ok (.getfield 16, 3) := by decide +kernel
theorem dX9_man_81 : decode cX9_man 81 = .ok (.iconst 4, 1) := by decide +kernel
theorem dX9_man_82 : decode cX9_man 82 = .ok (.aload_n 0, 1) := by decide +kernel
theorem dX9_man_83 : decode cX9_man 83 = .ok (.getfield 81, 3) := by decide +kernel
theorem dX9_man_86 : decode cX9_man 86 = .ok (.imul, 1) := by decide +kernel
theorem dX9_man_87 : decode cX9_man 87 = .ok (.iconst 1, 1) := by decide +kernel
theorem dX9_man_88 : decode cX9_man 88 = .ok (.iadd, 1) := by decide +kernel
theorem dX9_man_89 : decode cX9_man 89 = .ok (.iconst 0, 1) := by decide +kernel
theorem dX9_man_90 : decode cX9_man 90 = .ok (.iastore, 1) := by decide +kernel
theorem dX9_man_91 : decode cX9_man 91 = .ok (.aload_n 0, 1) := by decide +kernel
theorem dX9_man_92 : decode cX9_man 92 = .ok (.getfield 16, 3) := by decide +kernel
theorem dX9_man_95 : decode cX9_man 95 = .ok (.iconst 4, 1) := by decide +kernel
theorem dX9_man_96 : decode cX9_man 96 = .ok (.aload_n 0, 1) := by decide +kernel
theorem dX9_man_97 : decode cX9_man 97 = .ok (.getfield 81, 3) := by decide +kernel
theorem dX9_man_100 : decode cX9_man 100 = .ok (.imul, 1) := by decide +kernel
theorem dX9_man_101 : decode cX9_man 101 = .ok (.iconst 2, 1) := by decide +kernel
theorem dX9_man_102 : decode cX9_man 102 = .ok (.iadd, 1) := by decide +kernel
theorem dX9_man_103 : decode cX9_man 103 = .ok (.iconst 0, 1) := by decide +kernel
theorem dX9_man_104 : decode cX9_man 104 = .ok (.iastore, 1) := by decide +kernel
theorem dX9_man_105 : decode cX9_man 105 = .ok (.aload_n 0, 1) := by decide +kernel
theorem dX9_man_106 : decode cX9_man 106 = .ok (.getfield 16, 3) := by decide +kernel
theorem dX9_man_109 : decode cX9_man 109 = .ok (.iconst 4, 1) := by decide +kernel
theorem dX9_man_110 : decode cX9_man 110 = .ok (.aload_n 0, 1) := by decide +kernel
theorem dX9_man_111 : decode cX9_man 111 = .ok (.getfield 81, 3) := by decide +kernel
theorem dX9_man_114 : decode cX9_man 114 = .ok (.imul, 1) := by decide +kernel
theorem dX9_man_115 : decode cX9_man 115 = .ok (.iconst 3, 1) := by decide +kernel
theorem dX9_man_116 : decode cX9_man 116 = .ok (.iadd, 1) := by decide +kernel
theorem dX9_man_117 : decode cX9_man 117 = .ok (.iconst 0, 1) := by decide +kernel
theorem dX9_man_118 : decode cX9_man 118 = .ok (.iastore, 1) := by decide +kernel
theorem dX9_man_119 : decode cX9_man 119 = .ok (.aload_n 0, 1) := by decide +kernel
theorem dX9_man_120 : decode cX9_man 120 = .ok (.dup, 1) := by decide +kernel
theorem dX9_man_121 : decode cX9_man 121 = .ok (.getfield 81, 3) := by decide +kernel
theorem dX9_man_124 : decode cX9_man 124 = .ok (.iconst 1, 1) := by decide +kernel
theorem dX9_man_125 : decode cX9_man 125 = .ok (.iadd, 1) := by decide +kernel
theorem dX9_man_126 : decode cX9_man 126 = .ok (.putfield 81, 3) := by decide +kernel
theorem dX9_man_129 : decode cX9_man 129 = .ok (.aload_n 0, 1) := by decide +kernel
theorem dX9_man_130 : decode cX9_man 130 = .ok (.getfield 81, 3) := by decide +kernel
theorem dX9_man_133 : decode cX9_man 133 = .ok (.iconst 1, 1) := by decide +kernel
theorem dX9_man_134 : decode cX9_man 134 = .ok (.isub, 1) := by decide +kernel
theorem dX9_man_135 : decode cX9_man 135 = .ok (.ireturn, 1) := by decide +kernel
theorem dX9_set_0 : decode cX9_set 0 = .ok (.aload_n 0, 1) := by decide +kernel
theorem dX9_set_1 : decode cX9_set 1 = .ok (.iload_n 1, 1) := by decide +kernel
theorem dX9_set_2 : decode cX9_set 2 = .ok (.invokevirtual 176, 3) := by decide +kernel
theorem dX9_set_5 : decode cX9_set 5 = .ok (.ifCond .ne 6, 3) := by decide +kernel
theorem dX9_set_8 : decode cX9_set 8 = .ok (.bipush (-5), 2) := by decide +kernel
theorem dX9_set_10 : decode cX9_set 10 = .ok (.ireturn, 1) := by decide +kernel
theorem dX9_set_11 : decode cX9_set 11 = .ok (.iload_n 2, 1) := by decide +kernel
theorem dX9_set_12 : decode cX9_set 12 = .ok (.iconst 0, 1) := by decide +kernel
theorem dX9_set_13 : decode cX9_set 13 = .ok (.iconst 2, 1) := by decide +kernel
theorem dX9_set_14 : decode cX9_set 14 = .ok (.invokestatic 84, 3) := by decide +kernel
theorem dX9_set_17 : decode cX9_set 17 = .ok (.ifCond .eq 23, 3) := by decide +kernel
theorem dX9_set_20 : decode cX9_set 20 = .ok (.iload_n 3, 1) := by decide +kernel
theorem dX9_set_21 : decode cX9_set 21 = .ok (.iconst 0, 1) := by decide +kernel
theorem dX9_set_22 : decode cX9_set 22 = .ok (.iload_n 2, 1) := by decide +kernel
theorem dX9_set_23 : decode cX9_set 23 = .ok (.ifCond .ne 9, 3) := by decide +kernel
theorem dX9_set_26 : decode cX9_set 26 = .ok (.sipush 999, 3) := by decide +kernel
theorem dX9_set_29 : decode cX9_set 29 = .ok (.goto 5, 3) := by decide +kernel
theorem dX9_set_32 : decode cX9_set 32 = .ok (.bipush 9, 2) := by decide +kernel
theorem dX9_set_34 : decode cX9_set 34 = .ok (.invokestatic 84, 3) := by decide +kernel
theorem dX9_set_37 : decode cX9_set 37 = .ok (.ifCond .ne 6, 3) := by decide +kernel
theorem dX9_set_40 : decode cX9_set 40 = .ok (.bipush (-7), 2) := by decide +kernel
theorem dX9_set_42 : decode cX9_set 42 = .ok (.ireturn, 1) := by decide +kernel
theorem dX9_set_43 : decode cX9_set 43 = .ok (.aload_n 0, 1) := by decide +kernel
theorem dX9_set_44 : decode cX9_set 44 = .ok (.getfield 16, 3) := by decide +kernel
theorem dX9_set_47 : decode cX9_set 47 = .ok (.iconst 4, 1) := by decide +kernel
theorem dX9_set_48 : decode cX9_set 48 = .ok (.iload_n 1, 1) := by decide +kernel
theorem dX9_set_49 : decode cX9_set 49 = .ok (.imul, 1) := by decide +kernel
theorem dX9_set_50 : decode cX9_set 50 = .ok (.iload_n 2, 1) := by decide +kernel
theorem dX9_set_51 : decode cX9_set 51 = .ok (.iadd, 1) := by decide +kernel
theorem dX9_set_52 : decode cX9_set 52 = .ok (.iaload, 1) := by decide +kernel
theorem dX9_set_53 : decode cX9_set 53 = .ok (.istore 4, 2) := by decide +kernel
theorem dX9_set_55 : decode cX9_set 55 = .ok (.aload_n 0, 1) := by decide +kernel
theorem dX9_set_56 : decode cX9_set 56 = .ok (.getfield 16, 3) := by decide +kernel
theorem dX9_set_59 : decode cX9_set 59 = .ok (.iconst 4, 1) := by decide +kernel
theorem dX9_set_60 : decode cX9_set 60 = .ok (.iload_n 1, 1) := by decide +kernel
theorem dX9_set_61 : decode cX9_set 61 = .ok (.imul, 1) := by decide +kernel
theorem dX9_set_62 : decode cX9_set 62 = .ok (.iload_n 2, 1) := by decide +kernel
theorem dX9_set_63 : decode cX9_set 63 = .ok (.iadd, 1) := by decide +kernel
theorem dX9_set_64 : decode cX9_set 64 = .ok (.iload_n 3, 1) := by decide +kernel
theorem dX9_set_65 : decode cX9_set 65 = .ok (.iastore, 1) := by decide +kernel
theorem dX9_set_66 : decode cX9_set 66 = .ok (.iload 4, 2) := by decide +kernel
theorem dX9_set_68 : decode cX9_set 68 = .ok (.ireturn, 1) := by decide +kernel
theorem dX9_growsOf_0 : decode cX9_growsOf 0 = .ok (.aload_n 0, 1) := by decide +kernel
theorem dX9_growsOf_1 : decode cX9_growsOf 1 = .ok (.iconst 0, 1) := by decide +kernel
theorem dX9_growsOf_2 : decode cX9_growsOf 2 = .ok (.iload_n 1, 1) := by decide +kernel
theorem dX9_growsOf_3 : decode cX9_growsOf 3 = .ok (.iload_n 2, 1) := by decide +kernel
theorem dX9_growsOf_4 : decode cX9_growsOf 4 = .ok (.invokevirtual 179, 3) := by decide +kernel
theorem dX9_growsOf_7 : decode cX9_growsOf 7 = .ok (.istore_n 3, 1) := by decide +kernel
theorem dX9_growsOf_8 : decode cX9_growsOf 8 = .ok (.aload_n 0, 1) := by decide +kernel
theorem dX9_growsOf_9 : decode cX9_growsOf 9 = .ok (.getfield 13, 3) := by decide +kernel
theorem dX9_growsOf_12 : decode cX9_growsOf 12 = .ok (.iload_n 1, 1) := by decide +kernel
theorem dX9_growsOf_13 : decode cX9_growsOf 13 = .ok (.iaload, 1) := by decide +kernel
theorem dX9_growsOf_14 : decode cX9_growsOf 14 = .ok (.istore 4, 2) := by decide +kernel
theorem dX9_growsOf_16 : decode cX9_growsOf 16 = .ok (.iload_n 2, 1) := by decide +kernel
theorem dX9_growsOf_17 : decode cX9_growsOf 17 = .ok (.iconst 2, 1) := by decide +kernel
theorem dX9_growsOf_18 : decode cX9_growsOf 18 = .ok (.iload 4, 2) := by decide +kernel
theorem dX9_growsOf_20 : decode cX9_growsOf 20 = .ok (.imul, 1) := by decide +kernel
theorem dX9_growsOf_21 : decode cX9_growsOf 21 = .ok (.if_icmp .ge 7, 3) := by decide +kernel
theorem dX9_growsOf_24 : decode cX9_growsOf 24 = .ok (.iconst 0, 1) := by decide +kernel
theorem dX9_growsOf_25 : decode cX9_growsOf 25 = .ok (.goto 6, 3) := by decide +kernel
theorem dX9_growsOf_28 : decode cX9_growsOf 28 = .ok (.iload_n 3, 1) := by decide +kernel
theorem dX9_growsOf_29 : decode cX9_growsOf 29 = .ok (.iconst 1, 1) := by decide +kernel
theorem dX9_growsOf_30 : decode cX9_growsOf 30 = .ok (.iadd, 1) := by decide +kernel
theorem dX9_growsOf_31 : decode cX9_growsOf 31 = .ok (.istore 5, 2) := by decide +kernel
theorem dX9_growsOf_33 : decode cX9_growsOf 33 = .ok (.aload_n 0, 1) := by decide +kernel
theorem dX9_growsOf_34 : decode cX9_growsOf 34 = .ok (.getfield 7, 3) := by decide +kernel
theorem dX9_growsOf_37 : decode cX9_growsOf 37 = .ok (.iload_n 1, 1) := by decide +kernel
theorem dX9_growsOf_38 : decode cX9_growsOf 38 = .ok (.iaload, 1) := by decide +kernel
theorem dX9_growsOf_39 : decode cX9_growsOf 39 = .ok (.tableswitch 96 1 5 #[33, 37, 40, 49, 65], 33) := by decide +kernel
theorem dX9_growsOf_72 : decode cX9_growsOf 72 = .ok (.iload_n 3, 1) := by decide +kernel
theorem dX9_growsOf_73 : decode cX9_growsOf 73 = .ok (.iconst 2, 1) := by decide +kernel
theorem dX9_growsOf_74 : decode cX9_growsOf 74 = .ok (.idiv, 1) := by decide +kernel
theorem dX9_growsOf_75 : decode cX9_growsOf 75 = .ok (.ireturn, 1) := by decide +kernel
theorem dX9_growsOf_76 : decode cX9_growsOf 76 = .ok (.iload 5, 2) := by decide +kernel
theorem dX9_growsOf_78 : decode cX9_growsOf 78 = .ok (.ireturn, 1) := by decide +kernel
theorem dX9_growsOf_79 : decode cX9_growsOf 79 = .ok (.iload_n 3, 1) := by decide +kernel
theorem dX9_growsOf_80 : decode cX9_growsOf 80 = .ok (.iconst 2, 1) := by decide +kernel
theorem dX9_growsOf_81 : decode cX9_growsOf 81 = .ok (.idiv, 1) := by decide +kernel
theorem dX9_growsOf_82 : decode cX9_growsOf 82 = .ok (.iload 4, 2) := by decide +kernel
theorem dX9_growsOf_84 : decode cX9_growsOf 84 = .ok (.iconst 3, 1) := by decide +kernel
theorem dX9_growsOf_85 : decode cX9_growsOf 85 = .ok (.idiv, 1) := by decide +kernel
theorem dX9_growsOf_86 : decode cX9_growsOf 86 = .ok (.iadd, 1) := by decide +kernel
theorem dX9_growsOf_87 : decode cX9_growsOf 87 = .ok (.ireturn, 1) := by decide +kernel
theorem dX9_growsOf_88 : decode cX9_growsOf 88 = .ok (.iload_n 2, 1) := by decide +kernel
theorem dX9_growsOf_89 : decode cX9_growsOf 89 = .ok (.iconst 4, 1) := by decide +kernel
theorem dX9_growsOf_90 : decode cX9_growsOf 90 = .ok (.irem, 1) := by decide +kernel
theorem dX9_growsOf_91 : decode cX9_growsOf 91 = .ok (.iconst 3, 1) := by decide +kernel
theorem dX9_growsOf_92 : decode cX9_growsOf 92 = .ok (.if_icmp .ne 7, 3) := by decide +kernel
theorem dX9_growsOf_95 : decode cX9_growsOf 95 = .ok (.iconst 0, 1) := by decide +kernel
theorem dX9_growsOf_96 : decode cX9_growsOf 96 = .ok (.goto 7, 3) := by decide +kernel
theorem dX9_growsOf_99 : decode cX9_growsOf 99 = .ok (.iload 5, 2) := by decide +kernel
theorem dX9_growsOf_101 : decode cX9_growsOf 101 = .ok (.iconst 2, 1) := by decide +kernel
theorem dX9_growsOf_102 : decode cX9_growsOf 102 = .ok (.iadd, 1) := by decide +kernel
theorem dX9_growsOf_103 : decode cX9_growsOf 103 = .ok (.ireturn, 1) := by decide +kernel
theorem dX9_growsOf_104 : decode cX9_growsOf 104 = .ok (.iload_n 2, 1) := by decide +kernel
theorem dX9_growsOf_105 : decode cX9_growsOf 105 = .ok (.bipush 52, 2) := by decide +kernel
theorem dX9_growsOf_107 : decode cX9_growsOf 107 = .ok (.irem, 1) := by decide +kernel
theorem dX9_growsOf_108 : decode cX9_growsOf 108 = .ok (.bipush 10, 2) := by decide +kernel
theorem dX9_growsOf_110 : decode cX9_growsOf 110 = .ok (.if_icmp .lt 12, 3) := by decide +kernel
theorem dX9_growsOf_113 : decode cX9_growsOf 113 = .ok (.iload_n 2, 1) := by decide +kernel
theorem dX9_growsOf_114 : decode cX9_growsOf 114 = .ok (.bipush 52, 2) := by decide +kernel
theorem dX9_growsOf_116 : decode cX9_growsOf 116 = .ok (.irem, 1) := by decide +kernel
theorem dX9_growsOf_117 : decode cX9_growsOf 117 = .ok (.bipush 42, 2) := by decide +kernel
theorem dX9_growsOf_119 : decode cX9_growsOf 119 = .ok (.if_icmp .le 9, 3) := by decide +kernel
theorem dX9_growsOf_122 : decode cX9_growsOf 122 = .ok (.iload_n 3, 1) := by decide +kernel
theorem dX9_growsOf_123 : decode cX9_growsOf 123 = .ok (.iconst 3, 1) := by decide +kernel
theorem dX9_growsOf_124 : decode cX9_growsOf 124 = .ok (.idiv, 1) := by decide +kernel
theorem dX9_growsOf_125 : decode cX9_growsOf 125 = .ok (.goto 9, 3) := by decide +kernel
theorem dX9_growsOf_128 : decode cX9_growsOf 128 = .ok (.iload_n 3, 1) := by decide +kernel
theorem dX9_growsOf_129 : decode cX9_growsOf 129 = .ok (.iload 4, 2) := by decide +kernel
theorem dX9_growsOf_131 : decode cX9_growsOf 131 = .ok (.iconst 2, 1) := by decide +kernel
theorem dX9_growsOf_132 : decode cX9_growsOf 132 = .ok (.idiv, 1) := by decide +kernel
theorem dX9_growsOf_133 : decode cX9_growsOf 133 = .ok (.iadd, 1) := by decide +kernel
theorem dX9_growsOf_134 : decode cX9_growsOf 134 = .ok (.ireturn, 1) := by decide +kernel
theorem dX9_growsOf_135 : decode cX9_growsOf 135 = .ok (.iload_n 3, 1) := by decide +kernel
theorem dX9_growsOf_136 : decode cX9_growsOf 136 = .ok (.ireturn, 1) := by decide +kernel
theorem dX9_countsOf_0 : decode cX9_countsOf 0 = .ok (.aload_n 0, 1) := by decide +kernel
theorem dX9_countsOf_1 : decode cX9_countsOf 1 = .ok (.getfield 7, 3) := by decide +kernel
theorem dX9_countsOf_4 : decode cX9_countsOf 4 = .ok (.iload_n 1, 1) := by decide +kernel
theorem dX9_countsOf_5 : decode cX9_countsOf 5 = .ok (.iaload, 1) := by decide +kernel
theorem dX9_countsOf_6 : decode cX9_countsOf 6 = .ok (.istore_n 3, 1) := by decide +kernel
theorem dX9_countsOf_7 : decode cX9_countsOf 7 = .ok (.iload_n 3, 1) := by decide +kernel
theorem dX9_countsOf_8 : decode cX9_countsOf 8 = .ok (.iconst 1, 1) := by decide +kernel
theorem dX9_countsOf_9 : decode cX9_countsOf 9 = .ok (.if_icmp .eq 8, 3) := by decide +kernel
theorem dX9_countsOf_12 : decode cX9_countsOf 12 = .ok (.iload_n 3, 1) := by decide +kernel
theorem dX9_countsOf_13 : decode cX9_countsOf 13 = .ok (.iconst 3, 1) := by decide +kernel
theorem dX9_countsOf_14 : decode cX9_countsOf 14 = .ok (.if_icmp .ne 9, 3) := by decide +kernel
theorem dX9_countsOf_17 : decode cX9_countsOf 17 = .ok (.iconst 2, 1) := by decide +kernel
theorem dX9_countsOf_18 : decode cX9_countsOf 18 = .ok (.iload_n 2, 1) := by decide +kernel
theorem dX9_countsOf_19 : decode cX9_countsOf 19 = .ok (.imul, 1) := by decide +kernel
theorem dX9_countsOf_20 : decode cX9_countsOf 20 = .ok (.goto 26, 3) := by decide +kernel
theorem dX9_countsOf_23 : decode cX9_countsOf 23 = .ok (.iload_n 3, 1) := by decide +kernel
theorem dX9_countsOf_24 : decode cX9_countsOf 24 = .ok (.iconst 4, 1) := by decide +kernel
theorem dX9_countsOf_25 : decode cX9_countsOf 25 = .ok (.if_icmp .ne 20, 3) := by decide +kernel
theorem dX9_countsOf_28 : decode cX9_countsOf 28 = .ok (.iload_n 2, 1) := by decide +kernel
theorem dX9_countsOf_29 : decode cX9_countsOf 29 = .ok (.bipush 9, 2) := by decide +kernel
theorem dX9_countsOf_31 : decode cX9_countsOf 31 = .ok (.aload_n 0, 1) := by decide +kernel
theorem dX9_countsOf_32 : decode cX9_countsOf 32 = .ok (.getfield 13, 3) := by decide +kernel
theorem dX9_countsOf_35 : decode cX9_countsOf 35 = .ok (.iload_n 1, 1) := by decide +kernel
theorem dX9_countsOf_36 : decode cX9_countsOf 36 = .ok (.iaload, 1) := by decide +kernel
theorem dX9_countsOf_37 : decode cX9_countsOf 37 = .ok (.isub, 1) := by decide +kernel
theorem dX9_countsOf_38 : decode cX9_countsOf 38 = .ok (.imul, 1) := by decide +kernel
theorem dX9_countsOf_39 : decode cX9_countsOf 39 = .ok (.bipush 10, 2) := by decide +kernel
theorem dX9_countsOf_41 : decode cX9_countsOf 41 = .ok (.idiv, 1) := by decide +kernel
theorem dX9_countsOf_42 : decode cX9_countsOf 42 = .ok (.goto 4, 3) := by decide +kernel
theorem dX9_countsOf_45 : decode cX9_countsOf 45 = .ok (.iload_n 2, 1) := by decide +kernel
theorem dX9_countsOf_46 : decode cX9_countsOf 46 = .ok (.ireturn, 1) := by decide +kernel
theorem dX9_graceOf_0 : decode cX9_graceOf 0 = .ok (.aload_n 0, 1) := by decide +kernel
theorem dX9_graceOf_1 : decode cX9_graceOf 1 = .ok (.getfield 7, 3) := by decide +kernel
theorem dX9_graceOf_4 : decode cX9_graceOf 4 = .ok (.iload_n 1, 1) := by decide +kernel
theorem dX9_graceOf_5 : decode cX9_graceOf 5 = .ok (.iaload, 1) := by decide +kernel
theorem dX9_graceOf_6 : decode cX9_graceOf 6 = .ok (.iconst 2, 1) := by decide +kernel
theorem dX9_graceOf_7 : decode cX9_graceOf 7 = .ok (.if_icmp .eq 13, 3) := by decide +kernel
theorem dX9_graceOf_10 : decode cX9_graceOf 10 = .ok (.aload_n 0, 1) := by decide +kernel
theorem dX9_graceOf_11 : decode cX9_graceOf 11 = .ok (.getfield 7, 3) := by decide +kernel
theorem dX9_graceOf_14 : decode cX9_graceOf 14 = .ok (.iload_n 1, 1) := by decide +kernel
theorem dX9_graceOf_15 : decode cX9_graceOf 15 = .ok (.iaload, 1) := by decide +kernel
theorem dX9_graceOf_16 : decode cX9_graceOf 16 = .ok (.iconst 4, 1) := by decide +kernel
theorem dX9_graceOf_17 : decode cX9_graceOf 17 = .ok (.if_icmp .ne 7, 3) := by decide +kernel
theorem dX9_graceOf_20 : decode cX9_graceOf 20 = .ok (.iconst 1, 1) := by decide +kernel
theorem dX9_graceOf_21 : decode cX9_graceOf 21 = .ok (.goto 18, 3) := by decide +kernel
theorem dX9_graceOf_24 : decode cX9_graceOf 24 = .ok (.aload_n 0, 1) := by decide +kernel
theorem dX9_graceOf_25 : decode cX9_graceOf 25 = .ok (.getfield 7, 3) := by decide +kernel
theorem dX9_graceOf_28 : decode cX9_graceOf 28 = .ok (.iload_n 1, 1) := by decide +kernel
theorem dX9_graceOf_29 : decode cX9_graceOf 29 = .ok (.iaload, 1) := by decide +kernel
theorem dX9_graceOf_30 : decode cX9_graceOf 30 = .ok (.iconst 3, 1) := by decide +kernel
theorem dX9_graceOf_31 : decode cX9_graceOf 31 = .ok (.if_icmp .ne 7, 3) := by decide +kernel
theorem dX9_graceOf_34 : decode cX9_graceOf 34 = .ok (.iconst 4, 1) := by decide +kernel
theorem dX9_graceOf_35 : decode cX9_graceOf 35 = .ok (.goto 4, 3) := by decide +kernel
theorem dX9_graceOf_38 : decode cX9_graceOf 38 = .ok (.iconst 0, 1) := by decide +kernel
theorem dX9_graceOf_39 : decode cX9_graceOf 39 = .ok (.ireturn, 1) := by decide +kernel
theorem dX9_told_0 : decode cX9_told 0 = .ok (.aload_n 0, 1) := by decide +kernel
theorem dX9_told_1 : decode cX9_told 1 = .ok (.iload_n 1, 1) := by decide +kernel
theorem dX9_told_2 : decode cX9_told 2 = .ok (.invokevirtual 176, 3) := by decide +kernel
theorem dX9_told_5 : decode cX9_told 5 = .ok (.ifCond .ne 6, 3) := by decide +kernel
theorem dX9_told_8 : decode cX9_told 8 = .ok (.bipush (-5), 2) := by decide +kernel
theorem dX9_told_10 : decode cX9_told 10 = .ok (.ireturn, 1) := by decide +kernel
theorem dX9_told_11 : decode cX9_told 11 = .ok (.iload_n 2, 1) := by decide +kernel
theorem dX9_told_12 : decode cX9_told 12 = .ok (.tableswitch 105 0 8 #[52, 59, 66, 66, 66, 66, 79, 93, 99], 52) := by decide +kernel
theorem dX9_told_64 : decode cX9_told 64 = .ok (.aload_n 0, 1) := by decide +kernel
theorem dX9_told_65 : decode cX9_told 65 = .ok (.getfield 7, 3) := by decide +kernel
theorem dX9_told_68 : decode cX9_told 68 = .ok (.iload_n 1, 1) := by decide +kernel
theorem dX9_told_69 : decode cX9_told 69 = .ok (.iaload, 1) := by decide +kernel
theorem dX9_told_70 : decode cX9_told 70 = .ok (.ireturn, 1) := by decide +kernel
theorem dX9_told_71 : decode cX9_told 71 = .ok (.aload_n 0, 1) := by decide +kernel
theorem dX9_told_72 : decode cX9_told 72 = .ok (.getfield 13, 3) := by decide +kernel
theorem dX9_told_75 : decode cX9_told 75 = .ok (.iload_n 1, 1) := by decide +kernel
theorem dX9_told_76 : decode cX9_told 76 = .ok (.iaload, 1) := by decide +kernel
theorem dX9_told_77 : decode cX9_told 77 = .ok (.ireturn, 1) := by decide +kernel
theorem dX9_told_78 : decode cX9_told 78 = .ok (.aload_n 0, 1) := by decide +kernel
theorem dX9_told_79 : decode cX9_told 79 = .ok (.getfield 16, 3) := by decide +kernel
theorem dX9_told_82 : decode cX9_told 82 = .ok (.iconst 4, 1) := by decide +kernel
theorem dX9_told_83 : decode cX9_told 83 = .ok (.iload_n 1, 1) := by decide +kernel
theorem dX9_told_84 : decode cX9_told 84 = .ok (.imul, 1) := by decide +kernel
theorem dX9_told_85 : decode cX9_told 85 = .ok (.iload_n 2, 1) := by decide +kernel
theorem dX9_told_86 : decode cX9_told 86 = .ok (.iadd, 1) := by decide +kernel
theorem dX9_told_87 : decode cX9_told 87 = .ok (.iconst 2, 1) := by decide +kernel
theorem dX9_told_88 : decode cX9_told 88 = .ok (.isub, 1) := by decide +kernel
theorem dX9_told_89 : decode cX9_told 89 = .ok (.iaload, 1) := by decide +kernel
theorem dX9_told_90 : decode cX9_told 90 = .ok (.ireturn, 1) := by decide +kernel
theorem dX9_told_91 : decode cX9_told 91 = .ok (.aload_n 0, 1) := by decide +kernel
theorem dX9_told_92 : decode cX9_told 92 = .ok (.iload_n 1, 1) := by decide +kernel
theorem dX9_told_93 : decode cX9_told 93 = .ok (.aload_n 0, 1) := by decide +kernel
theorem dX9_told_94 : decode cX9_told 94 = .ok (.getfield 16, 3) := by decide +kernel
theorem dX9_told_97 : decode cX9_told 97 = .ok (.iconst 4, 1) := by decide +kernel
theorem dX9_told_98 : decode cX9_told 98 = .ok (.iload_n 1, 1) := by decide +kernel
theorem dX9_told_99 : decode cX9_told 99 = .ok (.imul, 1) := by decide +kernel
theorem dX9_told_100 : decode cX9_told 100 = .ok (.iaload, 1) := by decide +kernel
theorem dX9_told_101 : decode cX9_told 101 = .ok (.invokevirtual 182, 3) := by decide +kernel
theorem dX9_told_104 : decode cX9_told 104 = .ok (.ireturn, 1) := by decide +kernel
theorem dX9_told_105 : decode cX9_told 105 = .ok (.aload_n 0, 1) := by decide +kernel
theorem dX9_told_106 : decode cX9_told 106 = .ok (.iload_n 1, 1) := by decide +kernel
theorem dX9_told_107 : decode cX9_told 107 = .ok (.invokevirtual 185, 3) := by decide +kernel
theorem dX9_told_110 : decode cX9_told 110 = .ok (.ireturn, 1) := by decide +kernel
theorem dX9_told_111 : decode cX9_told 111 = .ok (.aload_n 0, 1) := by decide +kernel
theorem dX9_told_112 : decode cX9_told 112 = .ok (.iload_n 1, 1) := by decide +kernel
theorem dX9_told_113 : decode cX9_told 113 = .ok (.invokevirtual 167, 3) := by decide +kernel
theorem dX9_told_116 : decode cX9_told 116 = .ok (.ireturn, 1) := by decide +kernel
theorem dX9_told_117 : decode cX9_told 117 = .ok (.bipush (-7), 2) := by decide +kernel
theorem dX9_told_119 : decode cX9_told 119 = .ok (.ireturn, 1) := by decide +kernel
theorem dX9_vow_0 : decode cX9_vow 0 = .ok (.iload_n 1, 1) := by decide +kernel
theorem dX9_vow_1 : decode cX9_vow 1 = .ok (.iconst 0, 1) := by decide +kernel
theorem dX9_vow_2 : decode cX9_vow 2 = .ok (.bipush 59, 2) := by decide +kernel
theorem dX9_vow_4 : decode cX9_vow 4 = .ok (.invokestatic 84, 3) := by decide +kernel
theorem dX9_vow_7 : decode cX9_vow 7 = .ok (.ifCond .eq 62, 3) := by decide +kernel
theorem dX9_vow_10 : decode cX9_vow 10 = .ok (.aload_n 0, 1) := by decide +kernel
theorem dX9_vow_11 : decode cX9_vow 11 = .ok (.iload_n 1, 1) := by decide +kernel
theorem dX9_vow_12 : decode cX9_vow 12 = .ok (.bipush 10, 2) := by decide +kernel
theorem dX9_vow_14 : decode cX9_vow 14 = .ok (.idiv, 1) := by decide +kernel
theorem dX9_vow_15 : decode cX9_vow 15 = .ok (.invokevirtual 176, 3) := by decide +kernel
theorem dX9_vow_18 : decode cX9_vow 18 = .ok (.ifCond .eq 51, 3) := by decide +kernel
theorem dX9_vow_21 : decode cX9_vow 21 = .ok (.aload_n 0, 1) := by decide +kernel
theorem dX9_vow_22 : decode cX9_vow 22 = .ok (.iload_n 1, 1) := by decide +kernel
theorem dX9_vow_23 : decode cX9_vow 23 = .ok (.bipush 10, 2) := by decide +kernel
theorem dX9_vow_25 : decode cX9_vow 25 = .ok (.irem, 1) := by decide +kernel
theorem dX9_vow_26 : decode cX9_vow 26 = .ok (.invokevirtual 176, 3) := by decide +kernel
theorem dX9_vow_29 : decode cX9_vow 29 = .ok (.ifCond .eq 40, 3) := by decide +kernel
theorem dX9_vow_32 : decode cX9_vow 32 = .ok (.iload_n 1, 1) := by decide +kernel
theorem dX9_vow_33 : decode cX9_vow 33 = .ok (.bipush 10, 2) := by decide +kernel
theorem dX9_vow_35 : decode cX9_vow 35 = .ok (.idiv, 1) := by decide +kernel
theorem dX9_vow_36 : decode cX9_vow 36 = .ok (.iload_n 1, 1) := by decide +kernel
theorem dX9_vow_37 : decode cX9_vow 37 = .ok (.bipush 10, 2) := by decide +kernel
theorem dX9_vow_39 : decode cX9_vow 39 = .ok (.irem, 1) := by decide +kernel
theorem dX9_vow_40 : decode cX9_vow 40 = .ok (.if_icmp .eq 29, 3) := by decide +kernel
theorem dX9_vow_43 : decode cX9_vow 43 = .ok (.iload_n 2, 1) := by decide +kernel
theorem dX9_vow_44 : decode cX9_vow 44 = .ok (.iconst 1, 1) := by decide +kernel
theorem dX9_vow_45 : decode cX9_vow 45 = .ok (.sipush 200, 3) := by decide +kernel
theorem dX9_vow_48 : decode cX9_vow 48 = .ok (.invokestatic 84, 3) := by decide +kernel
theorem dX9_vow_51 : decode cX9_vow 51 = .ok (.ifCond .eq 18, 3) := by decide +kernel
theorem dX9_vow_54 : decode cX9_vow 54 = .ok (.iload_n 3, 1) := by decide +kernel
theorem dX9_vow_55 : decode cX9_vow 55 = .ok (.iconst 0, 1) := by decide +kernel
theorem dX9_vow_56 : decode cX9_vow 56 = .ok (.sipush 999, 3) := by decide +kernel
theorem dX9_vow_59 : decode cX9_vow 59 = .ok (.invokestatic 84, 3) := by decide +kernel
theorem dX9_vow_62 : decode cX9_vow 62 = .ok (.ifCond .eq 7, 3) := by decide +kernel
theorem dX9_vow_65 : decode cX9_vow 65 = .ok (.iconst 1, 1) := by decide +kernel
theorem dX9_vow_66 : decode cX9_vow 66 = .ok (.goto 4, 3) := by decide +kernel
theorem dX9_vow_69 : decode cX9_vow 69 = .ok (.iconst 0, 1) := by decide +kernel
theorem dX9_vow_70 : decode cX9_vow 70 = .ok (.istore 4, 2) := by decide +kernel
theorem dX9_vow_72 : decode cX9_vow 72 = .ok (.iload 4, 2) := by decide +kernel
theorem dX9_vow_74 : decode cX9_vow 74 = .ok (.ifCond .ne 6, 3) := by decide +kernel
theorem dX9_vow_77 : decode cX9_vow 77 = .ok (.bipush (-2), 2) := by decide +kernel
theorem dX9_vow_79 : decode cX9_vow 79 = .ok (.ireturn, 1) := by decide +kernel
theorem dX9_vow_80 : decode cX9_vow 80 = .ok (.aload_n 0, 1) := by decide +kernel
theorem dX9_vow_81 : decode cX9_vow 81 = .ok (.getfield 16, 3) := by decide +kernel
theorem dX9_vow_84 : decode cX9_vow 84 = .ok (.iconst 4, 1) := by decide +kernel
theorem dX9_vow_85 : decode cX9_vow 85 = .ok (.iload_n 1, 1) := by decide +kernel
theorem dX9_vow_86 : decode cX9_vow 86 = .ok (.bipush 10, 2) := by decide +kernel
theorem dX9_vow_88 : decode cX9_vow 88 = .ok (.idiv, 1) := by decide +kernel
theorem dX9_vow_89 : decode cX9_vow 89 = .ok (.imul, 1) := by decide +kernel
theorem dX9_vow_90 : decode cX9_vow 90 = .ok (.iconst 3, 1) := by decide +kernel
theorem dX9_vow_91 : decode cX9_vow 91 = .ok (.iadd, 1) := by decide +kernel
theorem dX9_vow_92 : decode cX9_vow 92 = .ok (.iaload, 1) := by decide +kernel
theorem dX9_vow_93 : decode cX9_vow 93 = .ok (.iconst 1, 1) := by decide +kernel
theorem dX9_vow_94 : decode cX9_vow 94 = .ok (.if_icmp .eq 11, 3) := by decide +kernel
theorem dX9_vow_97 : decode cX9_vow 97 = .ok (.iload_n 3, 1) := by decide +kernel
theorem dX9_vow_98 : decode cX9_vow 98 = .ok (.aload_n 0, 1) := by decide +kernel
theorem dX9_vow_99 : decode cX9_vow 99 = .ok (.getfield 91, 3) := by decide +kernel
theorem dX9_vow_102 : decode cX9_vow 102 = .ok (.if_icmp .ge 6, 3) := by decide +kernel
theorem dX9_vow_105 : decode cX9_vow 105 = .ok (.bipush (-3), 2) := by decide +kernel
theorem dX9_vow_107 : decode cX9_vow 107 = .ok (.ireturn, 1) := by decide +kernel
theorem dX9_vow_108 : decode cX9_vow 108 = .ok (.aload_n 0, 1) := by decide +kernel
theorem dX9_vow_109 : decode cX9_vow 109 = .ok (.getfield 88, 3) := by decide +kernel
theorem dX9_vow_112 : decode cX9_vow 112 = .ok (.bipush 8, 2) := by decide +kernel
theorem dX9_vow_114 : decode cX9_vow 114 = .ok (.if_icmp .ne 6, 3) := by decide +kernel
theorem dX9_vow_117 : decode cX9_vow 117 = .ok (.bipush (-4), 2) := by decide +kernel
theorem dX9_vow_119 : decode cX9_vow 119 = .ok (.ireturn, 1) := by decide +kernel
theorem dX9_vow_120 : decode cX9_vow 120 = .ok (.bipush 6, 2) := by decide +kernel
theorem dX9_vow_122 : decode cX9_vow 122 = .ok (.aload_n 0, 1) := by decide +kernel
theorem dX9_vow_123 : decode cX9_vow 123 = .ok (.getfield 88, 3) := by decide +kernel
theorem dX9_vow_126 : decode cX9_vow 126 = .ok (.imul, 1) := by decide +kernel
theorem dX9_vow_127 : decode cX9_vow 127 = .ok (.istore 5, 2) := by decide +kernel
theorem dX9_vow_129 : decode cX9_vow 129 = .ok (.aload_n 0, 1) := by decide +kernel
theorem dX9_vow_130 : decode cX9_vow 130 = .ok (.getfield 19, 3) := by decide +kernel
theorem dX9_vow_133 : decode cX9_vow 133 = .ok (.iload 5, 2) := by decide +kernel
theorem dX9_vow_135 : decode cX9_vow 135 = .ok (.iload_n 1, 1) := by decide +kernel
theorem dX9_vow_136 : decode cX9_vow 136 = .ok (.bipush 10, 2) := by decide +kernel
theorem dX9_vow_138 : decode cX9_vow 138 = .ok (.idiv, 1) := by decide +kernel
theorem dX9_vow_139 : decode cX9_vow 139 = .ok (.iastore, 1) := by decide +kernel
theorem dX9_vow_140 : decode cX9_vow 140 = .ok (.aload_n 0, 1) := by decide +kernel
theorem dX9_vow_141 : decode cX9_vow 141 = .ok (.getfield 19, 3) := by decide +kernel
theorem dX9_vow_144 : decode cX9_vow 144 = .ok (.iload 5, 2) := by decide +kernel
theorem dX9_vow_146 : decode cX9_vow 146 = .ok (.iconst 1, 1) := by decide +kernel
theorem dX9_vow_147 : decode cX9_vow 147 = .ok (.iadd, 1) := by decide +kernel
theorem dX9_vow_148 : decode cX9_vow 148 = .ok (.iload_n 1, 1) := by decide +kernel
theorem dX9_vow_149 : decode cX9_vow 149 = .ok (.bipush 10, 2) := by decide +kernel
theorem dX9_vow_151 : decode cX9_vow 151 = .ok (.irem, 1) := by decide +kernel
theorem dX9_vow_152 : decode cX9_vow 152 = .ok (.iastore, 1) := by decide +kernel
theorem dX9_vow_153 : decode cX9_vow 153 = .ok (.aload_n 0, 1) := by decide +kernel
theorem dX9_vow_154 : decode cX9_vow 154 = .ok (.getfield 19, 3) := by decide +kernel
theorem dX9_vow_157 : decode cX9_vow 157 = .ok (.iload 5, 2) := by decide +kernel
theorem dX9_vow_159 : decode cX9_vow 159 = .ok (.iconst 2, 1) := by decide +kernel
theorem dX9_vow_160 : decode cX9_vow 160 = .ok (.iadd, 1) := by decide +kernel
theorem dX9_vow_161 : decode cX9_vow 161 = .ok (.iload_n 2, 1) := by decide +kernel
theorem dX9_vow_162 : decode cX9_vow 162 = .ok (.iastore, 1) := by decide +kernel
theorem dX9_vow_163 : decode cX9_vow 163 = .ok (.aload_n 0, 1) := by decide +kernel
theorem dX9_vow_164 : decode cX9_vow 164 = .ok (.getfield 19, 3) := by decide +kernel
theorem dX9_vow_167 : decode cX9_vow 167 = .ok (.iload 5, 2) := by decide +kernel
theorem dX9_vow_169 : decode cX9_vow 169 = .ok (.iconst 3, 1) := by decide +kernel
theorem dX9_vow_170 : decode cX9_vow 170 = .ok (.iadd, 1) := by decide +kernel
theorem dX9_vow_171 : decode cX9_vow 171 = .ok (.iload_n 3, 1) := by decide +kernel
theorem dX9_vow_172 : decode cX9_vow 172 = .ok (.iastore, 1) := by decide +kernel
theorem dX9_vow_173 : decode cX9_vow 173 = .ok (.aload_n 0, 1) := by decide +kernel
theorem dX9_vow_174 : decode cX9_vow 174 = .ok (.getfield 19, 3) := by decide +kernel
theorem dX9_vow_177 : decode cX9_vow 177 = .ok (.iload 5, 2) := by decide +kernel
theorem dX9_vow_179 : decode cX9_vow 179 = .ok (.iconst 4, 1) := by decide +kernel
theorem dX9_vow_180 : decode cX9_vow 180 = .ok (.iadd, 1) := by decide +kernel
theorem dX9_vow_181 : decode cX9_vow 181 = .ok (.iconst (-1), 1) := by decide +kernel
theorem dX9_vow_182 : decode cX9_vow 182 = .ok (.iastore, 1) := by decide +kernel
theorem dX9_vow_183 : decode cX9_vow 183 = .ok (.aload_n 0, 1) := by decide +kernel
theorem dX9_vow_184 : decode cX9_vow 184 = .ok (.getfield 19, 3) := by decide +kernel
theorem dX9_vow_187 : decode cX9_vow 187 = .ok (.iload 5, 2) := by decide +kernel
theorem dX9_vow_189 : decode cX9_vow 189 = .ok (.iconst 5, 1) := by decide +kernel
theorem dX9_vow_190 : decode cX9_vow 190 = .ok (.iadd, 1) := by decide +kernel
theorem dX9_vow_191 : decode cX9_vow 191 = .ok (.iconst 0, 1) := by decide +kernel
theorem dX9_vow_192 : decode cX9_vow 192 = .ok (.iastore, 1) := by decide +kernel
theorem dX9_vow_193 : decode cX9_vow 193 = .ok (.aload_n 0, 1) := by decide +kernel
theorem dX9_vow_194 : decode cX9_vow 194 = .ok (.dup, 1) := by decide +kernel
theorem dX9_vow_195 : decode cX9_vow 195 = .ok (.getfield 88, 3) := by decide +kernel
theorem dX9_vow_198 : decode cX9_vow 198 = .ok (.iconst 1, 1) := by decide +kernel
theorem dX9_vow_199 : decode cX9_vow 199 = .ok (.iadd, 1) := by decide +kernel
theorem dX9_vow_200 : decode cX9_vow 200 = .ok (.putfield 88, 3) := by decide +kernel
theorem dX9_vow_203 : decode cX9_vow 203 = .ok (.aload_n 0, 1) := by decide +kernel
theorem dX9_vow_204 : decode cX9_vow 204 = .ok (.getfield 88, 3) := by decide +kernel
theorem dX9_vow_207 : decode cX9_vow 207 = .ok (.iconst 1, 1) := by decide +kernel
theorem dX9_vow_208 : decode cX9_vow 208 = .ok (.isub, 1) := by decide +kernel
theorem dX9_vow_209 : decode cX9_vow 209 = .ok (.ireturn, 1) := by decide +kernel
theorem dX9_maturesOf_0 : decode cX9_maturesOf 0 = .ok (.aload_n 0, 1) := by decide +kernel
theorem dX9_maturesOf_1 : decode cX9_maturesOf 1 = .ok (.getfield 19, 3) := by decide +kernel
theorem dX9_maturesOf_4 : decode cX9_maturesOf 4 = .ok (.bipush 6, 2) := by decide +kernel
theorem dX9_maturesOf_6 : decode cX9_maturesOf 6 = .ok (.iload_n 1, 1) := by decide +kernel
theorem dX9_maturesOf_7 : decode cX9_maturesOf 7 = .ok (.imul, 1) := by decide +kernel
theorem dX9_maturesOf_8 : decode cX9_maturesOf 8 = .ok (.iconst 4, 1) := by decide +kernel
theorem dX9_maturesOf_9 : decode cX9_maturesOf 9 = .ok (.iadd, 1) := by decide +kernel
theorem dX9_maturesOf_10 : decode cX9_maturesOf 10 = .ok (.iaload, 1) := by decide +kernel
theorem dX9_maturesOf_11 : decode cX9_maturesOf 11 = .ok (.istore_n 2, 1) := by decide +kernel
theorem dX9_maturesOf_12 : decode cX9_maturesOf 12 = .ok (.aload_n 0, 1) := by decide +kernel
theorem dX9_maturesOf_13 : decode cX9_maturesOf 13 = .ok (.getfield 19, 3) := by decide +kernel
theorem dX9_maturesOf_16 : decode cX9_maturesOf 16 = .ok (.bipush 6, 2) := by decide +kernel
theorem dX9_maturesOf_18 : decode cX9_maturesOf 18 = .ok (.iload_n 1, 1) := by decide +kernel
theorem dX9_maturesOf_19 : decode cX9_maturesOf 19 = .ok (.imul, 1) := by decide +kernel
theorem dX9_maturesOf_20 : decode cX9_maturesOf 20 = .ok (.iconst 3, 1) := by decide +kernel
theorem dX9_maturesOf_21 : decode cX9_maturesOf 21 = .ok (.iadd, 1) := by decide +kernel
theorem dX9_maturesOf_22 : decode cX9_maturesOf 22 = .ok (.iaload, 1) := by decide +kernel
theorem dX9_maturesOf_23 : decode cX9_maturesOf 23 = .ok (.istore_n 3, 1) := by decide +kernel
theorem dX9_maturesOf_24 : decode cX9_maturesOf 24 = .ok (.iload_n 2, 1) := by decide +kernel
theorem dX9_maturesOf_25 : decode cX9_maturesOf 25 = .ok (.iconst (-1), 1) := by decide +kernel
theorem dX9_maturesOf_26 : decode cX9_maturesOf 26 = .ok (.if_icmp .ne 7, 3) := by decide +kernel
theorem dX9_maturesOf_29 : decode cX9_maturesOf 29 = .ok (.iload_n 3, 1) := by decide +kernel
theorem dX9_maturesOf_30 : decode cX9_maturesOf 30 = .ok (.goto 20, 3) := by decide +kernel
theorem dX9_maturesOf_33 : decode cX9_maturesOf 33 = .ok (.aload_n 0, 1) := by decide +kernel
theorem dX9_maturesOf_34 : decode cX9_maturesOf 34 = .ok (.getfield 19, 3) := by decide +kernel
theorem dX9_maturesOf_37 : decode cX9_maturesOf 37 = .ok (.bipush 6, 2) := by decide +kernel
theorem dX9_maturesOf_39 : decode cX9_maturesOf 39 = .ok (.iload_n 2, 1) := by decide +kernel
theorem dX9_maturesOf_40 : decode cX9_maturesOf 40 = .ok (.iconst 0, 1) := by decide +kernel
theorem dX9_maturesOf_41 : decode cX9_maturesOf 41 = .ok (.bipush 7, 2) := by decide +kernel
theorem dX9_maturesOf_43 : decode cX9_maturesOf 43 = .ok (.invokestatic 173, 3) := by decide +kernel
theorem dX9_maturesOf_46 : decode cX9_maturesOf 46 = .ok (.imul, 1) := by decide +kernel
theorem dX9_maturesOf_47 : decode cX9_maturesOf 47 = .ok (.iconst 3, 1) := by decide +kernel
theorem dX9_maturesOf_48 : decode cX9_maturesOf 48 = .ok (.iadd, 1) := by decide +kernel
theorem dX9_maturesOf_49 : decode cX9_maturesOf 49 = .ok (.iaload, 1) := by decide +kernel
theorem dX9_maturesOf_50 : decode cX9_maturesOf 50 = .ok (.istore 4, 2) := by decide +kernel
theorem dX9_maturesOf_52 : decode cX9_maturesOf 52 = .ok (.iload 4, 2) := by decide +kernel
theorem dX9_maturesOf_54 : decode cX9_maturesOf 54 = .ok (.iload_n 3, 1) := by decide +kernel
theorem dX9_maturesOf_55 : decode cX9_maturesOf 55 = .ok (.if_icmp .le 8, 3) := by decide +kernel
theorem dX9_maturesOf_58 : decode cX9_maturesOf 58 = .ok (.iload 4, 2) := by decide +kernel
theorem dX9_maturesOf_60 : decode cX9_maturesOf 60 = .ok (.goto 4, 3) := by decide +kernel
theorem dX9_maturesOf_63 : decode cX9_maturesOf 63 = .ok (.iload_n 3, 1) := by decide +kernel
theorem dX9_maturesOf_64 : decode cX9_maturesOf 64 = .ok (.ireturn, 1) := by decide +kernel
theorem dX9_bond_0 : decode cX9_bond 0 = .ok (.aload_n 0, 1) := by decide +kernel
theorem dX9_bond_1 : decode cX9_bond 1 = .ok (.iload_n 1, 1) := by decide +kernel
theorem dX9_bond_2 : decode cX9_bond 2 = .ok (.invokevirtual 188, 3) := by decide +kernel
theorem dX9_bond_5 : decode cX9_bond 5 = .ok (.ifCond .ne 6, 3) := by decide +kernel
theorem dX9_bond_8 : decode cX9_bond 8 = .ok (.bipush (-6), 2) := by decide +kernel
theorem dX9_bond_10 : decode cX9_bond 10 = .ok (.ireturn, 1) := by decide +kernel
theorem dX9_bond_11 : decode cX9_bond 11 = .ok (.iload_n 2, 1) := by decide +kernel
theorem dX9_bond_12 : decode cX9_bond 12 = .ok (.iconst 0, 1) := by decide +kernel
theorem dX9_bond_13 : decode cX9_bond 13 = .ok (.iconst 5, 1) := by decide +kernel
theorem dX9_bond_14 : decode cX9_bond 14 = .ok (.invokestatic 84, 3) := by decide +kernel
theorem dX9_bond_17 : decode cX9_bond 17 = .ok (.ifCond .eq 17, 3) := by decide +kernel
theorem dX9_bond_20 : decode cX9_bond 20 = .ok (.aload_n 0, 1) := by decide +kernel
theorem dX9_bond_21 : decode cX9_bond 21 = .ok (.getfield 19, 3) := by decide +kernel
theorem dX9_bond_24 : decode cX9_bond 24 = .ok (.bipush 6, 2) := by decide +kernel
theorem dX9_bond_26 : decode cX9_bond 26 = .ok (.iload_n 1, 1) := by decide +kernel
theorem dX9_bond_27 : decode cX9_bond 27 = .ok (.imul, 1) := by decide +kernel
theorem dX9_bond_28 : decode cX9_bond 28 = .ok (.iload_n 2, 1) := by decide +kernel
theorem dX9_bond_29 : decode cX9_bond 29 = .ok (.iadd, 1) := by decide +kernel
theorem dX9_bond_30 : decode cX9_bond 30 = .ok (.iaload, 1) := by decide +kernel
theorem dX9_bond_31 : decode cX9_bond 31 = .ok (.goto 19, 3) := by decide +kernel
theorem dX9_bond_34 : decode cX9_bond 34 = .ok (.iload_n 2, 1) := by decide +kernel
theorem dX9_bond_35 : decode cX9_bond 35 = .ok (.bipush 6, 2) := by decide +kernel
theorem dX9_bond_37 : decode cX9_bond 37 = .ok (.if_icmp .ne 11, 3) := by decide +kernel
theorem dX9_bond_40 : decode cX9_bond 40 = .ok (.aload_n 0, 1) := by decide +kernel
theorem dX9_bond_41 : decode cX9_bond 41 = .ok (.iload_n 1, 1) := by decide +kernel
theorem dX9_bond_42 : decode cX9_bond 42 = .ok (.invokevirtual 191, 3) := by decide +kernel
theorem dX9_bond_45 : decode cX9_bond 45 = .ok (.goto 5, 3) := by decide +kernel
theorem dX9_bond_48 : decode cX9_bond 48 = .ok (.bipush (-7), 2) := by decide +kernel
theorem dX9_bond_50 : decode cX9_bond 50 = .ok (.ireturn, 1) := by decide +kernel
theorem dX9_plaits_0 : decode cX9_plaits 0 = .ok (.aload_n 0, 1) := by decide +kernel
theorem dX9_plaits_1 : decode cX9_plaits 1 = .ok (.iload_n 1, 1) := by decide +kernel
theorem dX9_plaits_2 : decode cX9_plaits 2 = .ok (.invokevirtual 188, 3) := by decide +kernel
theorem dX9_plaits_5 : decode cX9_plaits 5 = .ok (.ifCond .eq 16, 3) := by decide +kernel
theorem dX9_plaits_8 : decode cX9_plaits 8 = .ok (.aload_n 0, 1) := by decide +kernel
theorem dX9_plaits_9 : decode cX9_plaits 9 = .ok (.iload_n 2, 1) := by decide +kernel
theorem dX9_plaits_10 : decode cX9_plaits 10 = .ok (.invokevirtual 188, 3) := by decide +kernel
theorem dX9_plaits_13 : decode cX9_plaits 13 = .ok (.ifCond .eq 8, 3) := by decide +kernel
theorem dX9_plaits_16 : decode cX9_plaits 16 = .ok (.iload_n 1, 1) := by decide +kernel
theorem dX9_plaits_17 : decode cX9_plaits 17 = .ok (.iload_n 2, 1) := by decide +kernel
theorem dX9_plaits_18 : decode cX9_plaits 18 = .ok (.if_icmp .ne 6, 3) := by decide +kernel
theorem dX9_plaits_21 : decode cX9_plaits 21 = .ok (.bipush (-6), 2) := by decide +kernel
theorem dX9_plaits_23 : decode cX9_plaits 23 = .ok (.ireturn, 1) := by decide +kernel
theorem dX9_plaits_24 : decode cX9_plaits 24 = .ok (.aload_n 0, 1) := by decide +kernel
theorem dX9_plaits_25 : decode cX9_plaits 25 = .ok (.iload_n 1, 1) := by decide +kernel
theorem dX9_plaits_26 : decode cX9_plaits 26 = .ok (.invokevirtual 164, 3) := by decide +kernel
theorem dX9_plaits_29 : decode cX9_plaits 29 = .ok (.ifCond .eq 66, 3) := by decide +kernel
theorem dX9_plaits_32 : decode cX9_plaits 32 = .ok (.aload_n 0, 1) := by decide +kernel
theorem dX9_plaits_33 : decode cX9_plaits 33 = .ok (.iload_n 2, 1) := by decide +kernel
theorem dX9_plaits_34 : decode cX9_plaits 34 = .ok (.invokevirtual 164, 3) := by decide +kernel
theorem dX9_plaits_37 : decode cX9_plaits 37 = .ok (.ifCond .eq 58, 3) := by decide +kernel
theorem dX9_plaits_40 : decode cX9_plaits 40 = .ok (.aload_n 0, 1) := by decide +kernel
theorem dX9_plaits_41 : decode cX9_plaits 41 = .ok (.getfield 19, 3) := by decide +kernel
theorem dX9_plaits_44 : decode cX9_plaits 44 = .ok (.bipush 6, 2) := by decide +kernel
theorem dX9_plaits_46 : decode cX9_plaits 46 = .ok (.iload_n 1, 1) := by decide +kernel
theorem dX9_plaits_47 : decode cX9_plaits 47 = .ok (.imul, 1) := by decide +kernel
theorem dX9_plaits_48 : decode cX9_plaits 48 = .ok (.iconst 4, 1) := by decide +kernel
theorem dX9_plaits_49 : decode cX9_plaits 49 = .ok (.iadd, 1) := by decide +kernel
theorem dX9_plaits_50 : decode cX9_plaits 50 = .ok (.iaload, 1) := by decide +kernel
theorem dX9_plaits_51 : decode cX9_plaits 51 = .ok (.iconst (-1), 1) := by decide +kernel
theorem dX9_plaits_52 : decode cX9_plaits 52 = .ok (.if_icmp .ne 43, 3) := by decide +kernel
theorem dX9_plaits_55 : decode cX9_plaits 55 = .ok (.aload_n 0, 1) := by decide +kernel
theorem dX9_plaits_56 : decode cX9_plaits 56 = .ok (.getfield 19, 3) := by decide +kernel
theorem dX9_plaits_59 : decode cX9_plaits 59 = .ok (.bipush 6, 2) := by decide +kernel
theorem dX9_plaits_61 : decode cX9_plaits 61 = .ok (.iload_n 2, 1) := by decide +kernel
theorem dX9_plaits_62 : decode cX9_plaits 62 = .ok (.imul, 1) := by decide +kernel
theorem dX9_plaits_63 : decode cX9_plaits 63 = .ok (.iconst 4, 1) := by decide +kernel
theorem dX9_plaits_64 : decode cX9_plaits 64 = .ok (.iadd, 1) := by decide +kernel
theorem dX9_plaits_65 : decode cX9_plaits 65 = .ok (.iaload, 1) := by decide +kernel
theorem dX9_plaits_66 : decode cX9_plaits 66 = .ok (.iconst (-1), 1) := by decide +kernel
theorem dX9_plaits_67 : decode cX9_plaits 67 = .ok (.if_icmp .ne 28, 3) := by decide +kernel
theorem dX9_plaits_70 : decode cX9_plaits 70 = .ok (.aload_n 0, 1) := by decide +kernel
theorem dX9_plaits_71 : decode cX9_plaits 71 = .ok (.getfield 19, 3) := by decide +kernel
theorem dX9_plaits_74 : decode cX9_plaits 74 = .ok (.bipush 6, 2) := by decide +kernel
theorem dX9_plaits_76 : decode cX9_plaits 76 = .ok (.iload_n 1, 1) := by decide +kernel
theorem dX9_plaits_77 : decode cX9_plaits 77 = .ok (.imul, 1) := by decide +kernel
theorem dX9_plaits_78 : decode cX9_plaits 78 = .ok (.iaload, 1) := by decide +kernel
theorem dX9_plaits_79 : decode cX9_plaits 79 = .ok (.aload_n 0, 1) := by decide +kernel
theorem dX9_plaits_80 : decode cX9_plaits 80 = .ok (.getfield 19, 3) := by decide +kernel
theorem dX9_plaits_83 : decode cX9_plaits 83 = .ok (.bipush 6, 2) := by decide +kernel
theorem dX9_plaits_85 : decode cX9_plaits 85 = .ok (.iload_n 2, 1) := by decide +kernel
theorem dX9_plaits_86 : decode cX9_plaits 86 = .ok (.imul, 1) := by decide +kernel
theorem dX9_plaits_87 : decode cX9_plaits 87 = .ok (.iaload, 1) := by decide +kernel
theorem dX9_plaits_88 : decode cX9_plaits 88 = .ok (.if_icmp .ne 7, 3) := by decide +kernel
theorem dX9_plaits_91 : decode cX9_plaits 91 = .ok (.iconst 1, 1) := by decide +kernel
theorem dX9_plaits_92 : decode cX9_plaits 92 = .ok (.goto 4, 3) := by decide +kernel
theorem dX9_plaits_95 : decode cX9_plaits 95 = .ok (.iconst 0, 1) := by decide +kernel
theorem dX9_plaits_96 : decode cX9_plaits 96 = .ok (.istore_n 3, 1) := by decide +kernel
theorem dX9_plaits_97 : decode cX9_plaits 97 = .ok (.iload_n 3, 1) := by decide +kernel
theorem dX9_plaits_98 : decode cX9_plaits 98 = .ok (.ifCond .ne 6, 3) := by decide +kernel
theorem dX9_plaits_101 : decode cX9_plaits 101 = .ok (.bipush (-3), 2) := by decide +kernel
theorem dX9_plaits_103 : decode cX9_plaits 103 = .ok (.ireturn, 1) := by decide +kernel
theorem dX9_plaits_104 : decode cX9_plaits 104 = .ok (.aload_n 0, 1) := by decide +kernel
theorem dX9_plaits_105 : decode cX9_plaits 105 = .ok (.getfield 19, 3) := by decide +kernel
theorem dX9_plaits_108 : decode cX9_plaits 108 = .ok (.bipush 6, 2) := by decide +kernel
theorem dX9_plaits_110 : decode cX9_plaits 110 = .ok (.iload_n 1, 1) := by decide +kernel
theorem dX9_plaits_111 : decode cX9_plaits 111 = .ok (.imul, 1) := by decide +kernel
theorem dX9_plaits_112 : decode cX9_plaits 112 = .ok (.iconst 4, 1) := by decide +kernel
theorem dX9_plaits_113 : decode cX9_plaits 113 = .ok (.iadd, 1) := by decide +kernel
theorem dX9_plaits_114 : decode cX9_plaits 114 = .ok (.iload_n 2, 1) := by decide +kernel
theorem dX9_plaits_115 : decode cX9_plaits 115 = .ok (.iastore, 1) := by decide +kernel
theorem dX9_plaits_116 : decode cX9_plaits 116 = .ok (.aload_n 0, 1) := by decide +kernel
theorem dX9_plaits_117 : decode cX9_plaits 117 = .ok (.getfield 19, 3) := by decide +kernel
theorem dX9_plaits_120 : decode cX9_plaits 120 = .ok (.bipush 6, 2) := by decide +kernel
theorem dX9_plaits_122 : decode cX9_plaits 122 = .ok (.iload_n 2, 1) := by decide +kernel
theorem dX9_plaits_123 : decode cX9_plaits 123 = .ok (.imul, 1) := by decide +kernel
theorem dX9_plaits_124 : decode cX9_plaits 124 = .ok (.iconst 4, 1) := by decide +kernel
theorem dX9_plaits_125 : decode cX9_plaits 125 = .ok (.iadd, 1) := by decide +kernel
theorem dX9_plaits_126 : decode cX9_plaits 126 = .ok (.iload_n 1, 1) := by decide +kernel
theorem dX9_plaits_127 : decode cX9_plaits 127 = .ok (.iastore, 1) := by decide +kernel
theorem dX9_plaits_128 : decode cX9_plaits 128 = .ok (.aload_n 0, 1) := by decide +kernel
theorem dX9_plaits_129 : decode cX9_plaits 129 = .ok (.iload_n 1, 1) := by decide +kernel
theorem dX9_plaits_130 : decode cX9_plaits 130 = .ok (.invokevirtual 191, 3) := by decide +kernel
theorem dX9_plaits_133 : decode cX9_plaits 133 = .ok (.ireturn, 1) := by decide +kernel
theorem dX9_pass_0 : decode cX9_pass 0 = .ok (.aload_n 0, 1) := by decide +kernel
theorem dX9_pass_1 : decode cX9_pass 1 = .ok (.iload_n 1, 1) := by decide +kernel
theorem dX9_pass_2 : decode cX9_pass 2 = .ok (.invokevirtual 188, 3) := by decide +kernel
theorem dX9_pass_5 : decode cX9_pass 5 = .ok (.ifCond .ne 6, 3) := by decide +kernel
theorem dX9_pass_8 : decode cX9_pass 8 = .ok (.bipush (-6), 2) := by decide +kernel
theorem dX9_pass_10 : decode cX9_pass 10 = .ok (.ireturn, 1) := by decide +kernel
theorem dX9_pass_11 : decode cX9_pass 11 = .ok (.aload_n 0, 1) := by decide +kernel
theorem dX9_pass_12 : decode cX9_pass 12 = .ok (.iload_n 2, 1) := by decide +kernel
theorem dX9_pass_13 : decode cX9_pass 13 = .ok (.invokevirtual 176, 3) := by decide +kernel
theorem dX9_pass_16 : decode cX9_pass 16 = .ok (.ifCond .eq 16, 3) := by decide +kernel
theorem dX9_pass_19 : decode cX9_pass 19 = .ok (.iload_n 2, 1) := by decide +kernel
theorem dX9_pass_20 : decode cX9_pass 20 = .ok (.aload_n 0, 1) := by decide +kernel
theorem dX9_pass_21 : decode cX9_pass 21 = .ok (.getfield 19, 3) := by decide +kernel
theorem dX9_pass_24 : decode cX9_pass 24 = .ok (.bipush 6, 2) := by decide +kernel
theorem dX9_pass_26 : decode cX9_pass 26 = .ok (.iload_n 1, 1) := by decide +kernel
theorem dX9_pass_27 : decode cX9_pass 27 = .ok (.imul, 1) := by decide +kernel
theorem dX9_pass_28 : decode cX9_pass 28 = .ok (.iaload, 1) := by decide +kernel
theorem dX9_pass_29 : decode cX9_pass 29 = .ok (.if_icmp .ne 6, 3) := by decide +kernel
theorem dX9_pass_32 : decode cX9_pass 32 = .ok (.bipush (-5), 2) := by decide +kernel
theorem dX9_pass_34 : decode cX9_pass 34 = .ok (.ireturn, 1) := by decide +kernel
theorem dX9_pass_35 : decode cX9_pass 35 = .ok (.aload_n 0, 1) := by decide +kernel
theorem dX9_pass_36 : decode cX9_pass 36 = .ok (.iload_n 1, 1) := by decide +kernel
theorem dX9_pass_37 : decode cX9_pass 37 = .ok (.invokevirtual 164, 3) := by decide +kernel
theorem dX9_pass_40 : decode cX9_pass 40 = .ok (.ifCond .ne 6, 3) := by decide +kernel
theorem dX9_pass_43 : decode cX9_pass 43 = .ok (.bipush (-3), 2) := by decide +kernel
theorem dX9_pass_45 : decode cX9_pass 45 = .ok (.ireturn, 1) := by decide +kernel
theorem dX9_pass_46 : decode cX9_pass 46 = .ok (.aload_n 0, 1) := by decide +kernel
theorem dX9_pass_47 : decode cX9_pass 47 = .ok (.getfield 19, 3) := by decide +kernel
theorem dX9_pass_50 : decode cX9_pass 50 = .ok (.bipush 6, 2) := by decide +kernel
theorem dX9_pass_52 : decode cX9_pass 52 = .ok (.iload_n 1, 1) := by decide +kernel
theorem dX9_pass_53 : decode cX9_pass 53 = .ok (.imul, 1) := by decide +kernel
theorem dX9_pass_54 : decode cX9_pass 54 = .ok (.iconst 1, 1) := by decide +kernel
theorem dX9_pass_55 : decode cX9_pass 55 = .ok (.iadd, 1) := by decide +kernel
theorem dX9_pass_56 : decode cX9_pass 56 = .ok (.iaload, 1) := by decide +kernel
theorem dX9_pass_57 : decode cX9_pass 57 = .ok (.istore_n 3, 1) := by decide +kernel
theorem dX9_pass_58 : decode cX9_pass 58 = .ok (.aload_n 0, 1) := by decide +kernel
theorem dX9_pass_59 : decode cX9_pass 59 = .ok (.getfield 19, 3) := by decide +kernel
theorem dX9_pass_62 : decode cX9_pass 62 = .ok (.bipush 6, 2) := by decide +kernel
theorem dX9_pass_64 : decode cX9_pass 64 = .ok (.iload_n 1, 1) := by decide +kernel
theorem dX9_pass_65 : decode cX9_pass 65 = .ok (.imul, 1) := by decide +kernel
theorem dX9_pass_66 : decode cX9_pass 66 = .ok (.iconst 1, 1) := by decide +kernel
theorem dX9_pass_67 : decode cX9_pass 67 = .ok (.iadd, 1) := by decide +kernel
theorem dX9_pass_68 : decode cX9_pass 68 = .ok (.iload_n 2, 1) := by decide +kernel
theorem dX9_pass_69 : decode cX9_pass 69 = .ok (.iastore, 1) := by decide +kernel
theorem dX9_pass_70 : decode cX9_pass 70 = .ok (.iload_n 3, 1) := by decide +kernel
theorem dX9_pass_71 : decode cX9_pass 71 = .ok (.ireturn, 1) := by decide +kernel
theorem dX9_begins_0 : decode cX9_begins 0 = .ok (.aload_n 0, 1) := by decide +kernel
theorem dX9_begins_1 : decode cX9_begins 1 = .ok (.iconst 0, 1) := by decide +kernel
theorem dX9_begins_2 : decode cX9_begins 2 = .ok (.putfield 194, 3) := by decide +kernel
theorem dX9_begins_5 : decode cX9_begins 5 = .ok (.aload_n 0, 1) := by decide +kernel
theorem dX9_begins_6 : decode cX9_begins 6 = .ok (.iconst (-1), 1) := by decide +kernel
theorem dX9_begins_7 : decode cX9_begins 7 = .ok (.putfield 197, 3) := by decide +kernel
theorem dX9_begins_10 : decode cX9_begins 10 = .ok (.aload_n 0, 1) := by decide +kernel
theorem dX9_begins_11 : decode cX9_begins 11 = .ok (.iconst (-1), 1) := by decide +kernel
theorem dX9_begins_12 : decode cX9_begins 12 = .ok (.putfield 200, 3) := by decide +kernel
theorem dX9_begins_15 : decode cX9_begins 15 = .ok (.aload_n 0, 1) := by decide +kernel
theorem dX9_begins_16 : decode cX9_begins 16 = .ok (.iconst 0, 1) := by decide +kernel
theorem dX9_begins_17 : decode cX9_begins 17 = .ok (.putfield 203, 3) := by decide +kernel
theorem dX9_begins_20 : decode cX9_begins 20 = .ok (.aload_n 0, 1) := by decide +kernel
theorem dX9_begins_21 : decode cX9_begins 21 = .ok (.iconst 0, 1) := by decide +kernel
theorem dX9_begins_22 : decode cX9_begins 22 = .ok (.putfield 206, 3) := by decide +kernel
theorem dX9_begins_25 : decode cX9_begins 25 = .ok (.return_, 1) := by decide +kernel
theorem dX9_grow_0 : decode cX9_grow 0 = .ok (.aload_n 0, 1) := by decide +kernel
theorem dX9_grow_1 : decode cX9_grow 1 = .ok (.getfield 16, 3) := by decide +kernel
theorem dX9_grow_4 : decode cX9_grow 4 = .ok (.iconst 4, 1) := by decide +kernel
theorem dX9_grow_5 : decode cX9_grow 5 = .ok (.iload_n 1, 1) := by decide +kernel
theorem dX9_grow_6 : decode cX9_grow 6 = .ok (.imul, 1) := by decide +kernel
theorem dX9_grow_7 : decode cX9_grow 7 = .ok (.iconst 3, 1) := by decide +kernel
theorem dX9_grow_8 : decode cX9_grow 8 = .ok (.iadd, 1) := by decide +kernel
theorem dX9_grow_9 : decode cX9_grow 9 = .ok (.iaload, 1) := by decide +kernel
theorem dX9_grow_10 : decode cX9_grow 10 = .ok (.ifCond .ne 36, 3) := by decide +kernel
theorem dX9_grow_13 : decode cX9_grow 13 = .ok (.aload_n 0, 1) := by decide +kernel
theorem dX9_grow_14 : decode cX9_grow 14 = .ok (.getfield 16, 3) := by decide +kernel
theorem dX9_grow_17 : decode cX9_grow 17 = .ok (.iconst 4, 1) := by decide +kernel
theorem dX9_grow_18 : decode cX9_grow 18 = .ok (.iload_n 1, 1) := by decide +kernel
theorem dX9_grow_19 : decode cX9_grow 19 = .ok (.imul, 1) := by decide +kernel
theorem dX9_grow_20 : decode cX9_grow 20 = .ok (.aload_n 0, 1) := by decide +kernel
theorem dX9_grow_21 : decode cX9_grow 21 = .ok (.getfield 16, 3) := by decide +kernel
theorem dX9_grow_24 : decode cX9_grow 24 = .ok (.iconst 4, 1) := by decide +kernel
theorem dX9_grow_25 : decode cX9_grow 25 = .ok (.iload_n 1, 1) := by decide +kernel
theorem dX9_grow_26 : decode cX9_grow 26 = .ok (.imul, 1) := by decide +kernel
theorem dX9_grow_27 : decode cX9_grow 27 = .ok (.iaload, 1) := by decide +kernel
theorem dX9_grow_28 : decode cX9_grow 28 = .ok (.aload_n 0, 1) := by decide +kernel
theorem dX9_grow_29 : decode cX9_grow 29 = .ok (.iload_n 1, 1) := by decide +kernel
theorem dX9_grow_30 : decode cX9_grow 30 = .ok (.aload_n 0, 1) := by decide +kernel
theorem dX9_grow_31 : decode cX9_grow 31 = .ok (.getfield 91, 3) := by decide +kernel
theorem dX9_grow_34 : decode cX9_grow 34 = .ok (.invokevirtual 209, 3) := by decide +kernel
theorem dX9_grow_37 : decode cX9_grow 37 = .ok (.iadd, 1) := by decide +kernel
theorem dX9_grow_38 : decode cX9_grow 38 = .ok (.iconst 0, 1) := by decide +kernel
theorem dX9_grow_39 : decode cX9_grow 39 = .ok (.sipush 999, 3) := by decide +kernel
theorem dX9_grow_42 : decode cX9_grow 42 = .ok (.invokestatic 173, 3) := by decide +kernel
theorem dX9_grow_45 : decode cX9_grow 45 = .ok (.iastore, 1) := by decide +kernel
theorem dX9_grow_46 : decode cX9_grow 46 = .ok (.return_, 1) := by decide +kernel
theorem dX9_shears_0 : decode cX9_shears 0 = .ok (.aload_n 0, 1) := by decide +kernel
theorem dX9_shears_1 : decode cX9_shears 1 = .ok (.dup, 1) := by decide +kernel
theorem dX9_shears_2 : decode cX9_shears 2 = .ok (.getfield 206, 3) := by decide +kernel
theorem dX9_shears_5 : decode cX9_shears 5 = .ok (.aload_n 0, 1) := by decide +kernel
theorem dX9_shears_6 : decode cX9_shears 6 = .ok (.iconst 2, 1) := by decide +kernel
theorem dX9_shears_7 : decode cX9_shears 7 = .ok (.iload_n 1, 1) := by decide +kernel
theorem dX9_shears_8 : decode cX9_shears 8 = .ok (.aload_n 0, 1) := by decide +kernel
theorem dX9_shears_9 : decode cX9_shears 9 = .ok (.getfield 91, 3) := by decide +kernel
theorem dX9_shears_12 : decode cX9_shears 12 = .ok (.invokevirtual 179, 3) := by decide +kernel
theorem dX9_shears_15 : decode cX9_shears 15 = .ok (.iadd, 1) := by decide +kernel
theorem dX9_shears_16 : decode cX9_shears 16 = .ok (.putfield 206, 3) := by decide +kernel
theorem dX9_shears_19 : decode cX9_shears 19 = .ok (.aload_n 0, 1) := by decide +kernel
theorem dX9_shears_20 : decode cX9_shears 20 = .ok (.dup, 1) := by decide +kernel
theorem dX9_shears_21 : decode cX9_shears 21 = .ok (.getfield 194, 3) := by decide +kernel
theorem dX9_shears_24 : decode cX9_shears 24 = .ok (.iconst 1, 1) := by decide +kernel
theorem dX9_shears_25 : decode cX9_shears 25 = .ok (.iadd, 1) := by decide +kernel
theorem dX9_shears_26 : decode cX9_shears 26 = .ok (.putfield 194, 3) := by decide +kernel
theorem dX9_shears_29 : decode cX9_shears 29 = .ok (.aload_n 0, 1) := by decide +kernel
theorem dX9_shears_30 : decode cX9_shears 30 = .ok (.aload_n 0, 1) := by decide +kernel
theorem dX9_shears_31 : decode cX9_shears 31 = .ok (.getfield 197, 3) := by decide +kernel
theorem dX9_shears_34 : decode cX9_shears 34 = .ok (.iconst (-1), 1) := by decide +kernel
theorem dX9_shears_35 : decode cX9_shears 35 = .ok (.if_icmp .ne 7, 3) := by decide +kernel
theorem dX9_shears_38 : decode cX9_shears 38 = .ok (.iload_n 2, 1) := by decide +kernel
theorem dX9_shears_39 : decode cX9_shears 39 = .ok (.goto 7, 3) := by decide +kernel
theorem dX9_shears_42 : decode cX9_shears 42 = .ok (.aload_n 0, 1) := by decide +kernel
theorem dX9_shears_43 : decode cX9_shears 43 = .ok (.getfield 200, 3) := by decide +kernel
theorem dX9_shears_46 : decode cX9_shears 46 = .ok (.putfield 200, 3) := by decide +kernel
theorem dX9_shears_49 : decode cX9_shears 49 = .ok (.aload_n 0, 1) := by decide +kernel
theorem dX9_shears_50 : decode cX9_shears 50 = .ok (.aload_n 0, 1) := by decide +kernel
theorem dX9_shears_51 : decode cX9_shears 51 = .ok (.getfield 197, 3) := by decide +kernel
theorem dX9_shears_54 : decode cX9_shears 54 = .ok (.iconst (-1), 1) := by decide +kernel
theorem dX9_shears_55 : decode cX9_shears 55 = .ok (.if_icmp .ne 7, 3) := by decide +kernel
theorem dX9_shears_58 : decode cX9_shears 58 = .ok (.iload_n 1, 1) := by decide +kernel
theorem dX9_shears_59 : decode cX9_shears 59 = .ok (.goto 7, 3) := by decide +kernel
theorem dX9_shears_62 : decode cX9_shears 62 = .ok (.aload_n 0, 1) := by decide +kernel
theorem dX9_shears_63 : decode cX9_shears 63 = .ok (.getfield 197, 3) := by decide +kernel
theorem dX9_shears_66 : decode cX9_shears 66 = .ok (.putfield 197, 3) := by decide +kernel
theorem dX9_shears_69 : decode cX9_shears 69 = .ok (.aload_n 0, 1) := by decide +kernel
theorem dX9_shears_70 : decode cX9_shears 70 = .ok (.getfield 16, 3) := by decide +kernel
theorem dX9_shears_73 : decode cX9_shears 73 = .ok (.iconst 4, 1) := by decide +kernel
theorem dX9_shears_74 : decode cX9_shears 74 = .ok (.iload_n 1, 1) := by decide +kernel
theorem dX9_shears_75 : decode cX9_shears 75 = .ok (.imul, 1) := by decide +kernel
theorem dX9_shears_76 : decode cX9_shears 76 = .ok (.iconst 0, 1) := by decide +kernel
theorem dX9_shears_77 : decode cX9_shears 77 = .ok (.iastore, 1) := by decide +kernel
theorem dX9_shears_78 : decode cX9_shears 78 = .ok (.aload_n 0, 1) := by decide +kernel
theorem dX9_shears_79 : decode cX9_shears 79 = .ok (.getfield 16, 3) := by decide +kernel
theorem dX9_shears_82 : decode cX9_shears 82 = .ok (.iconst 4, 1) := by decide +kernel
theorem dX9_shears_83 : decode cX9_shears 83 = .ok (.iload_n 1, 1) := by decide +kernel
theorem dX9_shears_84 : decode cX9_shears 84 = .ok (.imul, 1) := by decide +kernel
theorem dX9_shears_85 : decode cX9_shears 85 = .ok (.iconst 3, 1) := by decide +kernel
theorem dX9_shears_86 : decode cX9_shears 86 = .ok (.iadd, 1) := by decide +kernel
theorem dX9_shears_87 : decode cX9_shears 87 = .ok (.iconst 1, 1) := by decide +kernel
theorem dX9_shears_88 : decode cX9_shears 88 = .ok (.iastore, 1) := by decide +kernel
theorem dX9_shears_89 : decode cX9_shears 89 = .ok (.iconst 0, 1) := by decide +kernel
theorem dX9_shears_90 : decode cX9_shears 90 = .ok (.istore_n 3, 1) := by decide +kernel
theorem dX9_shears_91 : decode cX9_shears 91 = .ok (.iload_n 3, 1) := by decide +kernel
theorem dX9_shears_92 : decode cX9_shears 92 = .ok (.aload_n 0, 1) := by decide +kernel
theorem dX9_shears_93 : decode cX9_shears 93 = .ok (.getfield 88, 3) := by decide +kernel
theorem dX9_shears_96 : decode cX9_shears 96 = .ok (.if_icmp .ge 42, 3) := by decide +kernel
theorem dX9_shears_99 : decode cX9_shears 99 = .ok (.aload_n 0, 1) := by decide +kernel
theorem dX9_shears_100 : decode cX9_shears 100 = .ok (.getfield 19, 3) := by decide +kernel
theorem dX9_shears_103 : decode cX9_shears 103 = .ok (.bipush 6, 2) := by decide +kernel
theorem dX9_shears_105 : decode cX9_shears 105 = .ok (.iload_n 3, 1) := by decide +kernel
theorem dX9_shears_106 : decode cX9_shears 106 = .ok (.imul, 1) := by decide +kernel
theorem dX9_shears_107 : decode cX9_shears 107 = .ok (.iaload, 1) := by decide +kernel
theorem dX9_shears_108 : decode cX9_shears 108 = .ok (.iload_n 1, 1) := by decide +kernel
theorem dX9_shears_109 : decode cX9_shears 109 = .ok (.if_icmp .ne 23, 3) := by decide +kernel
theorem dX9_shears_112 : decode cX9_shears 112 = .ok (.aload_n 0, 1) := by decide +kernel
theorem dX9_shears_113 : decode cX9_shears 113 = .ok (.iload_n 3, 1) := by decide +kernel
theorem dX9_shears_114 : decode cX9_shears 114 = .ok (.invokevirtual 164, 3) := by decide +kernel
theorem dX9_shears_117 : decode cX9_shears 117 = .ok (.ifCond .eq 15, 3) := by decide +kernel
theorem dX9_shears_120 : decode cX9_shears 120 = .ok (.aload_n 0, 1) := by decide +kernel
theorem dX9_shears_121 : decode cX9_shears 121 = .ok (.getfield 19, 3) := by decide +kernel
theorem dX9_shears_124 : decode cX9_shears 124 = .ok (.bipush 6, 2) := by decide +kernel
theorem dX9_shears_126 : decode cX9_shears 126 = .ok (.iload_n 3, 1) := by decide +kernel
theorem dX9_shears_127 : decode cX9_shears 127 = .ok (.imul, 1) := by decide +kernel
theorem dX9_shears_128 : decode cX9_shears 128 = .ok (.iconst 5, 1) := by decide +kernel
theorem dX9_shears_129 : decode cX9_shears 129 = .ok (.iadd, 1) := by decide +kernel
theorem dX9_shears_130 : decode cX9_shears 130 = .ok (.iconst 2, 1) := by decide +kernel
theorem dX9_shears_131 : decode cX9_shears 131 = .ok (.iastore, 1) := by decide +kernel
theorem dX9_shears_132 : decode cX9_shears 132 = .ok (.iinc 3 1, 3) := by decide +kernel
theorem dX9_shears_135 : decode cX9_shears 135 = .ok (.goto (-44), 3) := by decide +kernel
theorem dX9_shears_138 : decode cX9_shears 138 = .ok (.return_, 1) := by decide +kernel
theorem dX9_isDue_0 : decode cX9_isDue 0 = .ok (.aload_n 0, 1) := by decide +kernel
theorem dX9_isDue_1 : decode cX9_isDue 1 = .ok (.getfield 19, 3) := by decide +kernel
theorem dX9_isDue_4 : decode cX9_isDue 4 = .ok (.bipush 6, 2) := by decide +kernel
theorem dX9_isDue_6 : decode cX9_isDue 6 = .ok (.iload_n 1, 1) := by decide +kernel
theorem dX9_isDue_7 : decode cX9_isDue 7 = .ok (.imul, 1) := by decide +kernel
theorem dX9_isDue_8 : decode cX9_isDue 8 = .ok (.iaload, 1) := by decide +kernel
theorem dX9_isDue_9 : decode cX9_isDue 9 = .ok (.istore_n 3, 1) := by decide +kernel
theorem dX9_isDue_10 : decode cX9_isDue 10 = .ok (.aload_n 0, 1) := by decide +kernel
theorem dX9_isDue_11 : decode cX9_isDue 11 = .ok (.getfield 19, 3) := by decide +kernel
theorem dX9_isDue_14 : decode cX9_isDue 14 = .ok (.bipush 6, 2) := by decide +kernel
theorem dX9_isDue_16 : decode cX9_isDue 16 = .ok (.iload_n 1, 1) := by decide +kernel
theorem dX9_isDue_17 : decode cX9_isDue 17 = .ok (.imul, 1) := by decide +kernel
theorem dX9_isDue_18 : decode cX9_isDue 18 = .ok (.iconst 2, 1) := by decide +kernel
theorem dX9_isDue_19 : decode cX9_isDue 19 = .ok (.iadd, 1) := by decide +kernel
theorem dX9_isDue_20 : decode cX9_isDue 20 = .ok (.iaload, 1) := by decide +kernel
theorem dX9_isDue_21 : decode cX9_isDue 21 = .ok (.istore 4, 2) := by decide +kernel
theorem dX9_isDue_23 : decode cX9_isDue 23 = .ok (.aload_n 0, 1) := by decide +kernel
theorem dX9_isDue_24 : decode cX9_isDue 24 = .ok (.iload_n 3, 1) := by decide +kernel
theorem dX9_isDue_25 : decode cX9_isDue 25 = .ok (.aload_n 0, 1) := by decide +kernel
theorem dX9_isDue_26 : decode cX9_isDue 26 = .ok (.getfield 16, 3) := by decide +kernel
theorem dX9_isDue_29 : decode cX9_isDue 29 = .ok (.iconst 4, 1) := by decide +kernel
theorem dX9_isDue_30 : decode cX9_isDue 30 = .ok (.iload_n 3, 1) := by decide +kernel
theorem dX9_isDue_31 : decode cX9_isDue 31 = .ok (.imul, 1) := by decide +kernel
theorem dX9_isDue_32 : decode cX9_isDue 32 = .ok (.iaload, 1) := by decide +kernel
theorem dX9_isDue_33 : decode cX9_isDue 33 = .ok (.invokevirtual 182, 3) := by decide +kernel
theorem dX9_isDue_36 : decode cX9_isDue 36 = .ok (.iload 4, 2) := by decide +kernel
theorem dX9_isDue_38 : decode cX9_isDue 38 = .ok (.if_icmp .lt 72, 3) := by decide +kernel
theorem dX9_isDue_41 : decode cX9_isDue 41 = .ok (.aload_n 0, 1) := by decide +kernel
theorem dX9_isDue_42 : decode cX9_isDue 42 = .ok (.getfield 16, 3) := by decide +kernel
theorem dX9_isDue_45 : decode cX9_isDue 45 = .ok (.iconst 4, 1) := by decide +kernel
theorem dX9_isDue_46 : decode cX9_isDue 46 = .ok (.iload_n 3, 1) := by decide +kernel
theorem dX9_isDue_47 : decode cX9_isDue 47 = .ok (.imul, 1) := by decide +kernel
theorem dX9_isDue_48 : decode cX9_isDue 48 = .ok (.iaload, 1) := by decide +kernel
theorem dX9_isDue_49 : decode cX9_isDue 49 = .ok (.iload 4, 2) := by decide +kernel
theorem dX9_isDue_51 : decode cX9_isDue 51 = .ok (.isub, 1) := by decide +kernel
theorem dX9_isDue_52 : decode cX9_isDue 52 = .ok (.aload_n 0, 1) := by decide +kernel
theorem dX9_isDue_53 : decode cX9_isDue 53 = .ok (.iconst 1, 1) := by decide +kernel
theorem dX9_isDue_54 : decode cX9_isDue 54 = .ok (.iload_n 3, 1) := by decide +kernel
theorem dX9_isDue_55 : decode cX9_isDue 55 = .ok (.aload_n 0, 1) := by decide +kernel
theorem dX9_isDue_56 : decode cX9_isDue 56 = .ok (.getfield 91, 3) := by decide +kernel
theorem dX9_isDue_59 : decode cX9_isDue 59 = .ok (.invokevirtual 179, 3) := by decide +kernel
theorem dX9_isDue_62 : decode cX9_isDue 62 = .ok (.isub, 1) := by decide +kernel
theorem dX9_isDue_63 : decode cX9_isDue 63 = .ok (.istore 5, 2) := by decide +kernel
theorem dX9_isDue_65 : decode cX9_isDue 65 = .ok (.aload_n 0, 1) := by decide +kernel
theorem dX9_isDue_66 : decode cX9_isDue 66 = .ok (.getfield 16, 3) := by decide +kernel
theorem dX9_isDue_69 : decode cX9_isDue 69 = .ok (.iconst 4, 1) := by decide +kernel
theorem dX9_isDue_70 : decode cX9_isDue 70 = .ok (.iload_n 3, 1) := by decide +kernel
theorem dX9_isDue_71 : decode cX9_isDue 71 = .ok (.imul, 1) := by decide +kernel
theorem dX9_isDue_72 : decode cX9_isDue 72 = .ok (.iload 5, 2) := by decide +kernel
theorem dX9_isDue_74 : decode cX9_isDue 74 = .ok (.ifCond .ge 7, 3) := by decide +kernel
theorem dX9_isDue_77 : decode cX9_isDue 77 = .ok (.iconst 0, 1) := by decide +kernel
theorem dX9_isDue_78 : decode cX9_isDue 78 = .ok (.goto 5, 3) := by decide +kernel
theorem dX9_isDue_81 : decode cX9_isDue 81 = .ok (.iload 5, 2) := by decide +kernel
theorem dX9_isDue_83 : decode cX9_isDue 83 = .ok (.iastore, 1) := by decide +kernel
theorem dX9_isDue_84 : decode cX9_isDue 84 = .ok (.aload_n 0, 1) := by decide +kernel
theorem dX9_isDue_85 : decode cX9_isDue 85 = .ok (.getfield 19, 3) := by decide +kernel
theorem dX9_isDue_88 : decode cX9_isDue 88 = .ok (.bipush 6, 2) := by decide +kernel
theorem dX9_isDue_90 : decode cX9_isDue 90 = .ok (.iload_n 1, 1) := by decide +kernel
theorem dX9_isDue_91 : decode cX9_isDue 91 = .ok (.imul, 1) := by decide +kernel
theorem dX9_isDue_92 : decode cX9_isDue 92 = .ok (.iconst 5, 1) := by decide +kernel
theorem dX9_isDue_93 : decode cX9_isDue 93 = .ok (.iadd, 1) := by decide +kernel
theorem dX9_isDue_94 : decode cX9_isDue 94 = .ok (.iconst 1, 1) := by decide +kernel
theorem dX9_isDue_95 : decode cX9_isDue 95 = .ok (.iastore, 1) := by decide +kernel
theorem dX9_isDue_96 : decode cX9_isDue 96 = .ok (.aload_n 0, 1) := by decide +kernel
theorem dX9_isDue_97 : decode cX9_isDue 97 = .ok (.dup, 1) := by decide +kernel
theorem dX9_isDue_98 : decode cX9_isDue 98 = .ok (.getfield 203, 3) := by decide +kernel
theorem dX9_isDue_101 : decode cX9_isDue 101 = .ok (.iload 4, 2) := by decide +kernel
theorem dX9_isDue_103 : decode cX9_isDue 103 = .ok (.iadd, 1) := by decide +kernel
theorem dX9_isDue_104 : decode cX9_isDue 104 = .ok (.putfield 203, 3) := by decide +kernel
theorem dX9_isDue_107 : decode cX9_isDue 107 = .ok (.goto 27, 3) := by decide +kernel
theorem dX9_isDue_110 : decode cX9_isDue 110 = .ok (.aload_n 0, 1) := by decide +kernel
theorem dX9_isDue_111 : decode cX9_isDue 111 = .ok (.getfield 91, 3) := by decide +kernel
theorem dX9_isDue_114 : decode cX9_isDue 114 = .ok (.aload_n 0, 1) := by decide +kernel
theorem dX9_isDue_115 : decode cX9_isDue 115 = .ok (.iload_n 1, 1) := by decide +kernel
theorem dX9_isDue_116 : decode cX9_isDue 116 = .ok (.invokevirtual 191, 3) := by decide +kernel
theorem dX9_isDue_119 : decode cX9_isDue 119 = .ok (.aload_n 0, 1) := by decide +kernel
theorem dX9_isDue_120 : decode cX9_isDue 120 = .ok (.iload_n 3, 1) := by decide +kernel
theorem dX9_isDue_121 : decode cX9_isDue 121 = .ok (.invokevirtual 185, 3) := by decide +kernel
theorem dX9_isDue_124 : decode cX9_isDue 124 = .ok (.iadd, 1) := by decide +kernel
theorem dX9_isDue_125 : decode cX9_isDue 125 = .ok (.if_icmp .lt 9, 3) := by decide +kernel
theorem dX9_isDue_128 : decode cX9_isDue 128 = .ok (.aload_n 0, 1) := by decide +kernel
theorem dX9_isDue_129 : decode cX9_isDue 129 = .ok (.iload_n 3, 1) := by decide +kernel
theorem dX9_isDue_130 : decode cX9_isDue 130 = .ok (.iload_n 2, 1) := by decide +kernel
theorem dX9_isDue_131 : decode cX9_isDue 131 = .ok (.invokevirtual 212, 3) := by decide +kernel
theorem dX9_isDue_134 : decode cX9_isDue 134 = .ok (.return_, 1) := by decide +kernel
theorem dX9_weekOf_0 : decode cX9_weekOf 0 = .ok (.iconst 0, 1) := by decide +kernel
theorem dX9_weekOf_1 : decode cX9_weekOf 1 = .ok (.istore_n 2, 1) := by decide +kernel
theorem dX9_weekOf_2 : decode cX9_weekOf 2 = .ok (.iload_n 2, 1) := by decide +kernel
theorem dX9_weekOf_3 : decode cX9_weekOf 3 = .ok (.aload_n 0, 1) := by decide +kernel
theorem dX9_weekOf_4 : decode cX9_weekOf 4 = .ok (.getfield 81, 3) := by decide +kernel
theorem dX9_weekOf_7 : decode cX9_weekOf 7 = .ok (.if_icmp .ge 14, 3) := by decide +kernel
theorem dX9_weekOf_10 : decode cX9_weekOf 10 = .ok (.aload_n 0, 1) := by decide +kernel
theorem dX9_weekOf_11 : decode cX9_weekOf 11 = .ok (.iload_n 2, 1) := by decide +kernel
theorem dX9_weekOf_12 : decode cX9_weekOf 12 = .ok (.invokevirtual 216, 3) := by decide +kernel
theorem dX9_weekOf_15 : decode cX9_weekOf 15 = .ok (.iinc 2 1, 3) := by decide +kernel
theorem dX9_weekOf_18 : decode cX9_weekOf 18 = .ok (.goto (-16), 3) := by decide +kernel
theorem dX9_weekOf_21 : decode cX9_weekOf 21 = .ok (.iconst 0, 1) := by decide +kernel
theorem dX9_weekOf_22 : decode cX9_weekOf 22 = .ok (.istore_n 2, 1) := by decide +kernel
theorem dX9_weekOf_23 : decode cX9_weekOf 23 = .ok (.iload_n 2, 1) := by decide +kernel
theorem dX9_weekOf_24 : decode cX9_weekOf 24 = .ok (.aload_n 0, 1) := by decide +kernel
theorem dX9_weekOf_25 : decode cX9_weekOf 25 = .ok (.getfield 88, 3) := by decide +kernel
theorem dX9_weekOf_28 : decode cX9_weekOf 28 = .ok (.if_icmp .ge 35, 3) := by decide +kernel
theorem dX9_weekOf_31 : decode cX9_weekOf 31 = .ok (.aload_n 0, 1) := by decide +kernel
theorem dX9_weekOf_32 : decode cX9_weekOf 32 = .ok (.iload_n 2, 1) := by decide +kernel
theorem dX9_weekOf_33 : decode cX9_weekOf 33 = .ok (.invokevirtual 164, 3) := by decide +kernel
theorem dX9_weekOf_36 : decode cX9_weekOf 36 = .ok (.ifCond .eq 21, 3) := by decide +kernel
theorem dX9_weekOf_39 : decode cX9_weekOf 39 = .ok (.aload_n 0, 1) := by decide +kernel
theorem dX9_weekOf_40 : decode cX9_weekOf 40 = .ok (.iload_n 2, 1) := by decide +kernel
theorem dX9_weekOf_41 : decode cX9_weekOf 41 = .ok (.invokevirtual 191, 3) := by decide +kernel
theorem dX9_weekOf_44 : decode cX9_weekOf 44 = .ok (.aload_n 0, 1) := by decide +kernel
theorem dX9_weekOf_45 : decode cX9_weekOf 45 = .ok (.getfield 91, 3) := by decide +kernel
theorem dX9_weekOf_48 : decode cX9_weekOf 48 = .ok (.if_icmp .gt 9, 3) := by decide +kernel
theorem dX9_weekOf_51 : decode cX9_weekOf 51 = .ok (.aload_n 0, 1) := by decide +kernel
theorem dX9_weekOf_52 : decode cX9_weekOf 52 = .ok (.iload_n 2, 1) := by decide +kernel
theorem dX9_weekOf_53 : decode cX9_weekOf 53 = .ok (.iload_n 1, 1) := by decide +kernel
theorem dX9_weekOf_54 : decode cX9_weekOf 54 = .ok (.invokevirtual 219, 3) := by decide +kernel
theorem dX9_weekOf_57 : decode cX9_weekOf 57 = .ok (.iinc 2 1, 3) := by decide +kernel
theorem dX9_weekOf_60 : decode cX9_weekOf 60 = .ok (.goto (-37), 3) := by decide +kernel
theorem dX9_weekOf_63 : decode cX9_weekOf 63 = .ok (.aload_n 0, 1) := by decide +kernel
theorem dX9_weekOf_64 : decode cX9_weekOf 64 = .ok (.dup, 1) := by decide +kernel
theorem dX9_weekOf_65 : decode cX9_weekOf 65 = .ok (.getfield 91, 3) := by decide +kernel
theorem dX9_weekOf_68 : decode cX9_weekOf 68 = .ok (.iconst 1, 1) := by decide +kernel
theorem dX9_weekOf_69 : decode cX9_weekOf 69 = .ok (.iadd, 1) := by decide +kernel
theorem dX9_weekOf_70 : decode cX9_weekOf 70 = .ok (.putfield 91, 3) := by decide +kernel
theorem dX9_weekOf_73 : decode cX9_weekOf 73 = .ok (.return_, 1) := by decide +kernel
theorem dX9_live_0 : decode cX9_live 0 = .ok (.aload_n 0, 1) := by decide +kernel
theorem dX9_live_1 : decode cX9_live 1 = .ok (.getfield 91, 3) := by decide +kernel
theorem dX9_live_4 : decode cX9_live 4 = .ok (.sipush 999, 3) := by decide +kernel
theorem dX9_live_7 : decode cX9_live 7 = .ok (.if_icmp .ne 6, 3) := by decide +kernel
theorem dX9_live_10 : decode cX9_live 10 = .ok (.bipush (-4), 2) := by decide +kernel
theorem dX9_live_12 : decode cX9_live 12 = .ok (.ireturn, 1) := by decide +kernel
theorem dX9_live_13 : decode cX9_live 13 = .ok (.aload_n 0, 1) := by decide +kernel
theorem dX9_live_14 : decode cX9_live 14 = .ok (.invokevirtual 222, 3) := by decide +kernel
theorem dX9_live_17 : decode cX9_live 17 = .ok (.aload_n 0, 1) := by decide +kernel
theorem dX9_live_18 : decode cX9_live 18 = .ok (.iconst 0, 1) := by decide +kernel
theorem dX9_live_19 : decode cX9_live 19 = .ok (.invokevirtual 225, 3) := by decide +kernel
theorem dX9_live_22 : decode cX9_live 22 = .ok (.aload_n 0, 1) := by decide +kernel
theorem dX9_live_23 : decode cX9_live 23 = .ok (.getfield 194, 3) := by decide +kernel
theorem dX9_live_26 : decode cX9_live 26 = .ok (.ireturn, 1) := by decide +kernel
theorem dX9_keeps_0 : decode cX9_keeps 0 = .ok (.iconst 0, 1) := by decide +kernel
theorem dX9_keeps_1 : decode cX9_keeps 1 = .ok (.istore_n 1, 1) := by decide +kernel
theorem dX9_keeps_2 : decode cX9_keeps 2 = .ok (.iload_n 1, 1) := by decide +kernel
theorem dX9_keeps_3 : decode cX9_keeps 3 = .ok (.bipush 72, 2) := by decide +kernel
theorem dX9_keeps_5 : decode cX9_keeps 5 = .ok (.if_icmp .ge 51, 3) := by decide +kernel
theorem dX9_keeps_8 : decode cX9_keeps 8 = .ok (.aload_n 0, 1) := by decide +kernel
theorem dX9_keeps_9 : decode cX9_keeps 9 = .ok (.getfield 58, 3) := by decide +kernel
theorem dX9_keeps_12 : decode cX9_keeps 12 = .ok (.iload_n 1, 1) := by decide +kernel
theorem dX9_keeps_13 : decode cX9_keeps 13 = .ok (.iload_n 1, 1) := by decide +kernel
theorem dX9_keeps_14 : decode cX9_keeps 14 = .ok (.bipush 24, 2) := by decide +kernel
theorem dX9_keeps_16 : decode cX9_keeps 16 = .ok (.if_icmp .ge 18, 3) := by decide +kernel
theorem dX9_keeps_19 : decode cX9_keeps 19 = .ok (.aload_n 0, 1) := by decide +kernel
theorem dX9_keeps_20 : decode cX9_keeps 20 = .ok (.getfield 16, 3) := by decide +kernel
theorem dX9_keeps_23 : decode cX9_keeps 23 = .ok (.iload_n 1, 1) := by decide +kernel
theorem dX9_keeps_24 : decode cX9_keeps 24 = .ok (.iconst 0, 1) := by decide +kernel
theorem dX9_keeps_25 : decode cX9_keeps 25 = .ok (.bipush 23, 2) := by decide +kernel
theorem dX9_keeps_27 : decode cX9_keeps 27 = .ok (.invokestatic 173, 3) := by decide +kernel
theorem dX9_keeps_30 : decode cX9_keeps 30 = .ok (.iaload, 1) := by decide +kernel
theorem dX9_keeps_31 : decode cX9_keeps 31 = .ok (.goto 18, 3) := by decide +kernel
theorem dX9_keeps_34 : decode cX9_keeps 34 = .ok (.aload_n 0, 1) := by decide +kernel
theorem dX9_keeps_35 : decode cX9_keeps 35 = .ok (.getfield 19, 3) := by decide +kernel
theorem dX9_keeps_38 : decode cX9_keeps 38 = .ok (.iload_n 1, 1) := by decide +kernel
theorem dX9_keeps_39 : decode cX9_keeps 39 = .ok (.bipush 24, 2) := by decide +kernel
theorem dX9_keeps_41 : decode cX9_keeps 41 = .ok (.isub, 1) := by decide +kernel
theorem dX9_keeps_42 : decode cX9_keeps 42 = .ok (.iconst 0, 1) := by decide +kernel
theorem dX9_keeps_43 : decode cX9_keeps 43 = .ok (.bipush 47, 2) := by decide +kernel
theorem dX9_keeps_45 : decode cX9_keeps 45 = .ok (.invokestatic 173, 3) := by decide +kernel
theorem dX9_keeps_48 : decode cX9_keeps 48 = .ok (.iaload, 1) := by decide +kernel
theorem dX9_keeps_49 : decode cX9_keeps 49 = .ok (.iastore, 1) := by decide +kernel
theorem dX9_keeps_50 : decode cX9_keeps 50 = .ok (.iinc 1 1, 3) := by decide +kernel
theorem dX9_keeps_53 : decode cX9_keeps 53 = .ok (.goto (-51), 3) := by decide +kernel
theorem dX9_keeps_56 : decode cX9_keeps 56 = .ok (.aload_n 0, 1) := by decide +kernel
theorem dX9_keeps_57 : decode cX9_keeps 57 = .ok (.aload_n 0, 1) := by decide +kernel
theorem dX9_keeps_58 : decode cX9_keeps 58 = .ok (.getfield 91, 3) := by decide +kernel
theorem dX9_keeps_61 : decode cX9_keeps 61 = .ok (.putfield 228, 3) := by decide +kernel
theorem dX9_keeps_64 : decode cX9_keeps 64 = .ok (.aload_n 0, 1) := by decide +kernel
theorem dX9_keeps_65 : decode cX9_keeps 65 = .ok (.invokevirtual 222, 3) := by decide +kernel
theorem dX9_keeps_68 : decode cX9_keeps 68 = .ok (.return_, 1) := by decide +kernel
theorem dX9_laysBack_0 : decode cX9_laysBack 0 = .ok (.iconst 0, 1) := by decide +kernel
theorem dX9_laysBack_1 : decode cX9_laysBack 1 = .ok (.istore_n 1, 1) := by decide +kernel
theorem dX9_laysBack_2 : decode cX9_laysBack 2 = .ok (.iload_n 1, 1) := by decide +kernel
theorem dX9_laysBack_3 : decode cX9_laysBack 3 = .ok (.bipush 24, 2) := by decide +kernel
theorem dX9_laysBack_5 : decode cX9_laysBack 5 = .ok (.if_icmp .ge 33, 3) := by decide +kernel
theorem dX9_laysBack_8 : decode cX9_laysBack 8 = .ok (.aload_n 0, 1) := by decide +kernel
theorem dX9_laysBack_9 : decode cX9_laysBack 9 = .ok (.getfield 61, 3) := by decide +kernel
theorem dX9_laysBack_12 : decode cX9_laysBack 12 = .ok (.iload_n 1, 1) := by decide +kernel
theorem dX9_laysBack_13 : decode cX9_laysBack 13 = .ok (.aload_n 0, 1) := by decide +kernel
theorem dX9_laysBack_14 : decode cX9_laysBack 14 = .ok (.getfield 16, 3) := by decide +kernel
theorem dX9_laysBack_17 : decode cX9_laysBack 17 = .ok (.iload_n 1, 1) := by decide +kernel
theorem dX9_laysBack_18 : decode cX9_laysBack 18 = .ok (.iaload, 1) := by decide +kernel
theorem dX9_laysBack_19 : decode cX9_laysBack 19 = .ok (.iastore, 1) := by decide +kernel
theorem dX9_laysBack_20 : decode cX9_laysBack 20 = .ok (.aload_n 0, 1) := by decide +kernel
theorem dX9_laysBack_21 : decode cX9_laysBack 21 = .ok (.getfield 16, 3) := by decide +kernel
theorem dX9_laysBack_24 : decode cX9_laysBack 24 = .ok (.iload_n 1, 1) := by decide +kernel
theorem dX9_laysBack_25 : decode cX9_laysBack 25 = .ok (.aload_n 0, 1) := by decide +kernel
theorem dX9_laysBack_26 : decode cX9_laysBack 26 = .ok (.getfield 58, 3) := by decide +kernel
theorem dX9_laysBack_29 : decode cX9_laysBack 29 = .ok (.iload_n 1, 1) := by decide +kernel
theorem dX9_laysBack_30 : decode cX9_laysBack 30 = .ok (.iaload, 1) := by decide +kernel
theorem dX9_laysBack_31 : decode cX9_laysBack 31 = .ok (.iastore, 1) := by decide +kernel
theorem dX9_laysBack_32 : decode cX9_laysBack 32 = .ok (.iinc 1 1, 3) := by decide +kernel
theorem dX9_laysBack_35 : decode cX9_laysBack 35 = .ok (.goto (-33), 3) := by decide +kernel
theorem dX9_laysBack_38 : decode cX9_laysBack 38 = .ok (.iconst 0, 1) := by decide +kernel
theorem dX9_laysBack_39 : decode cX9_laysBack 39 = .ok (.istore_n 1, 1) := by decide +kernel
theorem dX9_laysBack_40 : decode cX9_laysBack 40 = .ok (.iload_n 1, 1) := by decide +kernel
theorem dX9_laysBack_41 : decode cX9_laysBack 41 = .ok (.bipush 48, 2) := by decide +kernel
theorem dX9_laysBack_43 : decode cX9_laysBack 43 = .ok (.if_icmp .ge 39, 3) := by decide +kernel
theorem dX9_laysBack_46 : decode cX9_laysBack 46 = .ok (.aload_n 0, 1) := by decide +kernel
theorem dX9_laysBack_47 : decode cX9_laysBack 47 = .ok (.getfield 61, 3) := by decide +kernel
theorem dX9_laysBack_50 : decode cX9_laysBack 50 = .ok (.bipush 24, 2) := by decide +kernel
theorem dX9_laysBack_52 : decode cX9_laysBack 52 = .ok (.iload_n 1, 1) := by decide +kernel
theorem dX9_laysBack_53 : decode cX9_laysBack 53 = .ok (.iadd, 1) := by decide +kernel
theorem dX9_laysBack_54 : decode cX9_laysBack 54 = .ok (.aload_n 0, 1) := by decide +kernel
theorem dX9_laysBack_55 : decode cX9_laysBack 55 = .ok (.getfield 19, 3) := by decide +kernel
theorem dX9_laysBack_58 : decode cX9_laysBack 58 = .ok (.iload_n 1, 1) := by decide +kernel
theorem dX9_laysBack_59 : decode cX9_laysBack 59 = .ok (.iaload, 1) := by decide +kernel
theorem dX9_laysBack_60 : decode cX9_laysBack 60 = .ok (.iastore, 1) := by decide +kernel
theorem dX9_laysBack_61 : decode cX9_laysBack 61 = .ok (.aload_n 0, 1) := by decide +kernel
theorem dX9_laysBack_62 : decode cX9_laysBack 62 = .ok (.getfield 19, 3) := by decide +kernel
theorem dX9_laysBack_65 : decode cX9_laysBack 65 = .ok (.iload_n 1, 1) := by decide +kernel
theorem dX9_laysBack_66 : decode cX9_laysBack 66 = .ok (.aload_n 0, 1) := by decide +kernel
theorem dX9_laysBack_67 : decode cX9_laysBack 67 = .ok (.getfield 58, 3) := by decide +kernel
theorem dX9_laysBack_70 : decode cX9_laysBack 70 = .ok (.bipush 24, 2) := by decide +kernel
theorem dX9_laysBack_72 : decode cX9_laysBack 72 = .ok (.iload_n 1, 1) := by decide +kernel
theorem dX9_laysBack_73 : decode cX9_laysBack 73 = .ok (.iadd, 1) := by decide +kernel
theorem dX9_laysBack_74 : decode cX9_laysBack 74 = .ok (.iaload, 1) := by decide +kernel
theorem dX9_laysBack_75 : decode cX9_laysBack 75 = .ok (.iastore, 1) := by decide +kernel
theorem dX9_laysBack_76 : decode cX9_laysBack 76 = .ok (.iinc 1 1, 3) := by decide +kernel
theorem dX9_laysBack_79 : decode cX9_laysBack 79 = .ok (.goto (-39), 3) := by decide +kernel
theorem dX9_laysBack_82 : decode cX9_laysBack 82 = .ok (.aload_n 0, 1) := by decide +kernel
theorem dX9_laysBack_83 : decode cX9_laysBack 83 = .ok (.aload_n 0, 1) := by decide +kernel
theorem dX9_laysBack_84 : decode cX9_laysBack 84 = .ok (.getfield 228, 3) := by decide +kernel
theorem dX9_laysBack_87 : decode cX9_laysBack 87 = .ok (.putfield 91, 3) := by decide +kernel
theorem dX9_laysBack_90 : decode cX9_laysBack 90 = .ok (.return_, 1) := by decide +kernel
theorem dX9_goes_0 : decode cX9_goes 0 = .ok (.aload_n 0, 1) := by decide +kernel
theorem dX9_goes_1 : decode cX9_goes 1 = .ok (.invokevirtual 231, 3) := by decide +kernel
theorem dX9_goes_4 : decode cX9_goes 4 = .ok (.iconst 0, 1) := by decide +kernel
theorem dX9_goes_5 : decode cX9_goes 5 = .ok (.istore_n 2, 1) := by decide +kernel
theorem dX9_goes_6 : decode cX9_goes 6 = .ok (.iload_n 2, 1) := by decide +kernel
theorem dX9_goes_7 : decode cX9_goes 7 = .ok (.iload_n 1, 1) := by decide +kernel
theorem dX9_goes_8 : decode cX9_goes 8 = .ok (.if_icmp .ge 14, 3) := by decide +kernel
theorem dX9_goes_11 : decode cX9_goes 11 = .ok (.aload_n 0, 1) := by decide +kernel
theorem dX9_goes_12 : decode cX9_goes 12 = .ok (.iload_n 2, 1) := by decide +kernel
theorem dX9_goes_13 : decode cX9_goes 13 = .ok (.invokevirtual 225, 3) := by decide +kernel
theorem dX9_goes_16 : decode cX9_goes 16 = .ok (.iinc 2 1, 3) := by decide +kernel
theorem dX9_goes_19 : decode cX9_goes 19 = .ok (.goto (-13), 3) := by decide +kernel
theorem dX9_goes_22 : decode cX9_goes 22 = .ok (.aload_n 0, 1) := by decide +kernel
theorem dX9_goes_23 : decode cX9_goes 23 = .ok (.invokevirtual 234, 3) := by decide +kernel
theorem dX9_goes_26 : decode cX9_goes 26 = .ok (.return_, 1) := by decide +kernel
theorem dX9_run_0 : decode cX9_run 0 = .ok (.iload_n 1, 1) := by decide +kernel
theorem dX9_run_1 : decode cX9_run 1 = .ok (.iconst 0, 1) := by decide +kernel
theorem dX9_run_2 : decode cX9_run 2 = .ok (.bipush 60, 2) := by decide +kernel
theorem dX9_run_4 : decode cX9_run 4 = .ok (.invokestatic 84, 3) := by decide +kernel
theorem dX9_run_7 : decode cX9_run 7 = .ok (.ifCond .ne 6, 3) := by decide +kernel
theorem dX9_run_10 : decode cX9_run 10 = .ok (.bipush (-2), 2) := by decide +kernel
theorem dX9_run_12 : decode cX9_run 12 = .ok (.ireturn, 1) := by decide +kernel
theorem dX9_run_13 : decode cX9_run 13 = .ok (.iload_n 2, 1) := by decide +kernel
theorem dX9_run_14 : decode cX9_run 14 = .ok (.iconst 0, 1) := by decide +kernel
theorem dX9_run_15 : decode cX9_run 15 = .ok (.iconst 4, 1) := by decide +kernel
theorem dX9_run_16 : decode cX9_run 16 = .ok (.invokestatic 84, 3) := by decide +kernel
theorem dX9_run_19 : decode cX9_run 19 = .ok (.ifCond .ne 38, 3) := by decide +kernel
theorem dX9_run_22 : decode cX9_run 22 = .ok (.iload_n 2, 1) := by decide +kernel
theorem dX9_run_23 : decode cX9_run 23 = .ok (.bipush 10, 2) := by decide +kernel
theorem dX9_run_25 : decode cX9_run 25 = .ok (.bipush 9, 2) := by decide +kernel
theorem dX9_run_27 : decode cX9_run 27 = .ok (.aload_n 0, 1) := by decide +kernel
theorem dX9_run_28 : decode cX9_run 28 = .ok (.getfield 81, 3) := by decide +kernel
theorem dX9_run_31 : decode cX9_run 31 = .ok (.iadd, 1) := by decide +kernel
theorem dX9_run_32 : decode cX9_run 32 = .ok (.invokestatic 84, 3) := by decide +kernel
theorem dX9_run_35 : decode cX9_run 35 = .ok (.ifCond .ne 22, 3) := by decide +kernel
theorem dX9_run_38 : decode cX9_run 38 = .ok (.iload_n 2, 1) := by decide +kernel
theorem dX9_run_39 : decode cX9_run 39 = .ok (.bipush 20, 2) := by decide +kernel
theorem dX9_run_41 : decode cX9_run 41 = .ok (.bipush 19, 2) := by decide +kernel
theorem dX9_run_43 : decode cX9_run 43 = .ok (.aload_n 0, 1) := by decide +kernel
theorem dX9_run_44 : decode cX9_run 44 = .ok (.getfield 88, 3) := by decide +kernel
theorem dX9_run_47 : decode cX9_run 47 = .ok (.iadd, 1) := by decide +kernel
theorem dX9_run_48 : decode cX9_run 48 = .ok (.invokestatic 84, 3) := by decide +kernel
theorem dX9_run_51 : decode cX9_run 51 = .ok (.ifCond .ne 6, 3) := by decide +kernel
theorem dX9_run_54 : decode cX9_run 54 = .ok (.bipush (-7), 2) := by decide +kernel
theorem dX9_run_56 : decode cX9_run 56 = .ok (.ireturn, 1) := by decide +kernel
theorem dX9_run_57 : decode cX9_run 57 = .ok (.aload_n 0, 1) := by decide +kernel
theorem dX9_run_58 : decode cX9_run 58 = .ok (.iload_n 1, 1) := by decide +kernel
theorem dX9_run_59 : decode cX9_run 59 = .ok (.invokevirtual 237, 3) := by decide +kernel
theorem dX9_run_62 : decode cX9_run 62 = .ok (.iload_n 2, 1) := by decide +kernel
theorem dX9_run_63 : decode cX9_run 63 = .ok (.tableswitch 58 0 4 #[33, 38, 43, 48, 53], 33) := by decide +kernel
theorem dX9_run_96 : decode cX9_run 96 = .ok (.aload_n 0, 1) := by decide +kernel
theorem dX9_run_97 : decode cX9_run 97 = .ok (.getfield 194, 3) := by decide +kernel
theorem dX9_run_100 : decode cX9_run 100 = .ok (.ireturn, 1) := by decide +kernel
theorem dX9_run_101 : decode cX9_run 101 = .ok (.aload_n 0, 1) := by decide +kernel
theorem dX9_run_102 : decode cX9_run 102 = .ok (.getfield 197, 3) := by decide +kernel
theorem dX9_run_105 : decode cX9_run 105 = .ok (.ireturn, 1) := by decide +kernel
theorem dX9_run_106 : decode cX9_run 106 = .ok (.aload_n 0, 1) := by decide +kernel
theorem dX9_run_107 : decode cX9_run 107 = .ok (.getfield 200, 3) := by decide +kernel
theorem dX9_run_110 : decode cX9_run 110 = .ok (.ireturn, 1) := by decide +kernel
theorem dX9_run_111 : decode cX9_run 111 = .ok (.aload_n 0, 1) := by decide +kernel
theorem dX9_run_112 : decode cX9_run 112 = .ok (.getfield 203, 3) := by decide +kernel
theorem dX9_run_115 : decode cX9_run 115 = .ok (.ireturn, 1) := by decide +kernel
theorem dX9_run_116 : decode cX9_run 116 = .ok (.aload_n 0, 1) := by decide +kernel
theorem dX9_run_117 : decode cX9_run 117 = .ok (.getfield 206, 3) := by decide +kernel
theorem dX9_run_120 : decode cX9_run 120 = .ok (.ireturn, 1) := by decide +kernel
theorem dX9_run_121 : decode cX9_run 121 = .ok (.iload_n 2, 1) := by decide +kernel
theorem dX9_run_122 : decode cX9_run 122 = .ok (.bipush 20, 2) := by decide +kernel
theorem dX9_run_124 : decode cX9_run 124 = .ok (.if_icmp .ge 17, 3) := by decide +kernel
theorem dX9_run_127 : decode cX9_run 127 = .ok (.aload_n 0, 1) := by decide +kernel
theorem dX9_run_128 : decode cX9_run 128 = .ok (.getfield 61, 3) := by decide +kernel
theorem dX9_run_131 : decode cX9_run 131 = .ok (.iconst 4, 1) := by decide +kernel
theorem dX9_run_132 : decode cX9_run 132 = .ok (.iload_n 2, 1) := by decide +kernel
theorem dX9_run_133 : decode cX9_run 133 = .ok (.bipush 10, 2) := by decide +kernel
theorem dX9_run_135 : decode cX9_run 135 = .ok (.isub, 1) := by decide +kernel
theorem dX9_run_136 : decode cX9_run 136 = .ok (.imul, 1) := by decide +kernel
theorem dX9_run_137 : decode cX9_run 137 = .ok (.iaload, 1) := by decide +kernel
theorem dX9_run_138 : decode cX9_run 138 = .ok (.goto 20, 3) := by decide +kernel
theorem dX9_run_141 : decode cX9_run 141 = .ok (.aload_n 0, 1) := by decide +kernel
theorem dX9_run_142 : decode cX9_run 142 = .ok (.getfield 61, 3) := by decide +kernel
theorem dX9_run_145 : decode cX9_run 145 = .ok (.bipush 24, 2) := by decide +kernel
theorem dX9_run_147 : decode cX9_run 147 = .ok (.bipush 6, 2) := by decide +kernel
theorem dX9_run_149 : decode cX9_run 149 = .ok (.iload_n 2, 1) := by decide +kernel
theorem dX9_run_150 : decode cX9_run 150 = .ok (.bipush 20, 2) := by decide +kernel
theorem dX9_run_152 : decode cX9_run 152 = .ok (.isub, 1) := by decide +kernel
theorem dX9_run_153 : decode cX9_run 153 = .ok (.imul, 1) := by decide +kernel
theorem dX9_run_154 : decode cX9_run 154 = .ok (.iadd, 1) := by decide +kernel
theorem dX9_run_155 : decode cX9_run 155 = .ok (.iconst 5, 1) := by decide +kernel
theorem dX9_run_156 : decode cX9_run 156 = .ok (.iadd, 1) := by decide +kernel
theorem dX9_run_157 : decode cX9_run 157 = .ok (.iaload, 1) := by decide +kernel
theorem dX9_run_158 : decode cX9_run 158 = .ok (.ireturn, 1) := by decide +kernel
theorem dX9_ripeOf_0 : decode cX9_ripeOf 0 = .ok (.iconst (-1), 1) := by decide +kernel
theorem dX9_ripeOf_1 : decode cX9_ripeOf 1 = .ok (.istore_n 3, 1) := by decide +kernel
theorem dX9_ripeOf_2 : decode cX9_ripeOf 2 = .ok (.aload_n 0, 1) := by decide +kernel
theorem dX9_ripeOf_3 : decode cX9_ripeOf 3 = .ok (.invokevirtual 231, 3) := by decide +kernel
theorem dX9_ripeOf_6 : decode cX9_ripeOf 6 = .ok (.iconst 0, 1) := by decide +kernel
theorem dX9_ripeOf_7 : decode cX9_ripeOf 7 = .ok (.istore 4, 2) := by decide +kernel
theorem dX9_ripeOf_9 : decode cX9_ripeOf 9 = .ok (.iload 4, 2) := by decide +kernel
theorem dX9_ripeOf_11 : decode cX9_ripeOf 11 = .ok (.bipush 60, 2) := by decide +kernel
theorem dX9_ripeOf_13 : decode cX9_ripeOf 13 = .ok (.if_icmp .ge 53, 3) := by decide +kernel
theorem dX9_ripeOf_16 : decode cX9_ripeOf 16 = .ok (.iload_n 3, 1) := by decide +kernel
theorem dX9_ripeOf_17 : decode cX9_ripeOf 17 = .ok (.iconst (-1), 1) := by decide +kernel
theorem dX9_ripeOf_18 : decode cX9_ripeOf 18 = .ok (.if_icmp .ne 48, 3) := by decide +kernel
theorem dX9_ripeOf_21 : decode cX9_ripeOf 21 = .ok (.aload_n 0, 1) := by decide +kernel
theorem dX9_ripeOf_22 : decode cX9_ripeOf 22 = .ok (.iload_n 1, 1) := by decide +kernel
theorem dX9_ripeOf_23 : decode cX9_ripeOf 23 = .ok (.invokevirtual 216, 3) := by decide +kernel
theorem dX9_ripeOf_26 : decode cX9_ripeOf 26 = .ok (.aload_n 0, 1) := by decide +kernel
theorem dX9_ripeOf_27 : decode cX9_ripeOf 27 = .ok (.dup, 1) := by decide +kernel
theorem dX9_ripeOf_28 : decode cX9_ripeOf 28 = .ok (.getfield 91, 3) := by decide +kernel
theorem dX9_ripeOf_31 : decode cX9_ripeOf 31 = .ok (.iconst 1, 1) := by decide +kernel
theorem dX9_ripeOf_32 : decode cX9_ripeOf 32 = .ok (.iadd, 1) := by decide +kernel
theorem dX9_ripeOf_33 : decode cX9_ripeOf 33 = .ok (.putfield 91, 3) := by decide +kernel
theorem dX9_ripeOf_36 : decode cX9_ripeOf 36 = .ok (.aload_n 0, 1) := by decide +kernel
theorem dX9_ripeOf_37 : decode cX9_ripeOf 37 = .ok (.iload_n 1, 1) := by decide +kernel
theorem dX9_ripeOf_38 : decode cX9_ripeOf 38 = .ok (.aload_n 0, 1) := by decide +kernel
theorem dX9_ripeOf_39 : decode cX9_ripeOf 39 = .ok (.getfield 16, 3) := by decide +kernel
theorem dX9_ripeOf_42 : decode cX9_ripeOf 42 = .ok (.iconst 4, 1) := by decide +kernel
theorem dX9_ripeOf_43 : decode cX9_ripeOf 43 = .ok (.iload_n 1, 1) := by decide +kernel
theorem dX9_ripeOf_44 : decode cX9_ripeOf 44 = .ok (.imul, 1) := by decide +kernel
theorem dX9_ripeOf_45 : decode cX9_ripeOf 45 = .ok (.iaload, 1) := by decide +kernel
theorem dX9_ripeOf_46 : decode cX9_ripeOf 46 = .ok (.invokevirtual 182, 3) := by decide +kernel
theorem dX9_ripeOf_49 : decode cX9_ripeOf 49 = .ok (.iload_n 2, 1) := by decide +kernel
theorem dX9_ripeOf_50 : decode cX9_ripeOf 50 = .ok (.if_icmp .lt 8, 3) := by decide +kernel
theorem dX9_ripeOf_53 : decode cX9_ripeOf 53 = .ok (.iload 4, 2) := by decide +kernel
theorem dX9_ripeOf_55 : decode cX9_ripeOf 55 = .ok (.goto 4, 3) := by decide +kernel
theorem dX9_ripeOf_58 : decode cX9_ripeOf 58 = .ok (.iconst (-1), 1) := by decide +kernel
theorem dX9_ripeOf_59 : decode cX9_ripeOf 59 = .ok (.istore_n 3, 1) := by decide +kernel
theorem dX9_ripeOf_60 : decode cX9_ripeOf 60 = .ok (.iinc 4 1, 3) := by decide +kernel
theorem dX9_ripeOf_63 : decode cX9_ripeOf 63 = .ok (.goto (-54), 3) := by decide +kernel
theorem dX9_ripeOf_66 : decode cX9_ripeOf 66 = .ok (.aload_n 0, 1) := by decide +kernel
theorem dX9_ripeOf_67 : decode cX9_ripeOf 67 = .ok (.invokevirtual 234, 3) := by decide +kernel
theorem dX9_ripeOf_70 : decode cX9_ripeOf 70 = .ok (.iload_n 3, 1) := by decide +kernel
theorem dX9_ripeOf_71 : decode cX9_ripeOf 71 = .ok (.ireturn, 1) := by decide +kernel
theorem dX9_ripe_0 : decode cX9_ripe 0 = .ok (.aload_n 0, 1) := by decide +kernel
theorem dX9_ripe_1 : decode cX9_ripe 1 = .ok (.iload_n 1, 1) := by decide +kernel
theorem dX9_ripe_2 : decode cX9_ripe 2 = .ok (.invokevirtual 176, 3) := by decide +kernel
theorem dX9_ripe_5 : decode cX9_ripe 5 = .ok (.ifCond .ne 6, 3) := by decide +kernel
theorem dX9_ripe_8 : decode cX9_ripe 8 = .ok (.bipush (-5), 2) := by decide +kernel
theorem dX9_ripe_10 : decode cX9_ripe 10 = .ok (.ireturn, 1) := by decide +kernel
theorem dX9_ripe_11 : decode cX9_ripe 11 = .ok (.iload_n 2, 1) := by decide +kernel
theorem dX9_ripe_12 : decode cX9_ripe 12 = .ok (.iconst 0, 1) := by decide +kernel
theorem dX9_ripe_13 : decode cX9_ripe 13 = .ok (.sipush 1998, 3) := by decide +kernel
theorem dX9_ripe_16 : decode cX9_ripe 16 = .ok (.invokestatic 84, 3) := by decide +kernel
theorem dX9_ripe_19 : decode cX9_ripe 19 = .ok (.ifCond .eq 12, 3) := by decide +kernel
theorem dX9_ripe_22 : decode cX9_ripe 22 = .ok (.aload_n 0, 1) := by decide +kernel
theorem dX9_ripe_23 : decode cX9_ripe 23 = .ok (.iload_n 1, 1) := by decide +kernel
theorem dX9_ripe_24 : decode cX9_ripe 24 = .ok (.iload_n 2, 1) := by decide +kernel
theorem dX9_ripe_25 : decode cX9_ripe 25 = .ok (.invokevirtual 240, 3) := by decide +kernel
theorem dX9_ripe_28 : decode cX9_ripe 28 = .ok (.goto 5, 3) := by decide +kernel
theorem dX9_ripe_31 : decode cX9_ripe 31 = .ok (.bipush (-7), 2) := by decide +kernel
theorem dX9_ripe_33 : decode cX9_ripe 33 = .ok (.ireturn, 1) := by decide +kernel
theorem dX9_soonest_0 : decode cX9_soonest 0 = .ok (.aload_n 0, 1) := by decide +kernel
theorem dX9_soonest_1 : decode cX9_soonest 1 = .ok (.iload_n 1, 1) := by decide +kernel
theorem dX9_soonest_2 : decode cX9_soonest 2 = .ok (.invokevirtual 176, 3) := by decide +kernel
theorem dX9_soonest_5 : decode cX9_soonest 5 = .ok (.ifCond .ne 6, 3) := by decide +kernel
theorem dX9_soonest_8 : decode cX9_soonest 8 = .ok (.bipush (-5), 2) := by decide +kernel
theorem dX9_soonest_10 : decode cX9_soonest 10 = .ok (.ireturn, 1) := by decide +kernel
theorem dX9_soonest_11 : decode cX9_soonest 11 = .ok (.iload_n 2, 1) := by decide +kernel
theorem dX9_soonest_12 : decode cX9_soonest 12 = .ok (.iconst 1, 1) := by decide +kernel
theorem dX9_soonest_13 : decode cX9_soonest 13 = .ok (.sipush 200, 3) := by decide +kernel
theorem dX9_soonest_16 : decode cX9_soonest 16 = .ok (.invokestatic 84, 3) := by decide +kernel
theorem dX9_soonest_19 : decode cX9_soonest 19 = .ok (.ifCond .ne 6, 3) := by decide +kernel
theorem dX9_soonest_22 : decode cX9_soonest 22 = .ok (.bipush (-7), 2) := by decide +kernel
theorem dX9_soonest_24 : decode cX9_soonest 24 = .ok (.ireturn, 1) := by decide +kernel
theorem dX9_soonest_25 : decode cX9_soonest 25 = .ok (.aload_n 0, 1) := by decide +kernel
theorem dX9_soonest_26 : decode cX9_soonest 26 = .ok (.getfield 16, 3) := by decide +kernel
theorem dX9_soonest_29 : decode cX9_soonest 29 = .ok (.iconst 4, 1) := by decide +kernel
theorem dX9_soonest_30 : decode cX9_soonest 30 = .ok (.iload_n 1, 1) := by decide +kernel
theorem dX9_soonest_31 : decode cX9_soonest 31 = .ok (.imul, 1) := by decide +kernel
theorem dX9_soonest_32 : decode cX9_soonest 32 = .ok (.iconst 3, 1) := by decide +kernel
theorem dX9_soonest_33 : decode cX9_soonest 33 = .ok (.iadd, 1) := by decide +kernel
theorem dX9_soonest_34 : decode cX9_soonest 34 = .ok (.iaload, 1) := by decide +kernel
theorem dX9_soonest_35 : decode cX9_soonest 35 = .ok (.iconst 1, 1) := by decide +kernel
theorem dX9_soonest_36 : decode cX9_soonest 36 = .ok (.if_icmp .ne 7, 3) := by decide +kernel
theorem dX9_soonest_39 : decode cX9_soonest 39 = .ok (.iconst (-1), 1) := by decide +kernel
theorem dX9_soonest_40 : decode cX9_soonest 40 = .ok (.goto 9, 3) := by decide +kernel
theorem dX9_soonest_43 : decode cX9_soonest 43 = .ok (.aload_n 0, 1) := by decide +kernel
theorem dX9_soonest_44 : decode cX9_soonest 44 = .ok (.iload_n 1, 1) := by decide +kernel
theorem dX9_soonest_45 : decode cX9_soonest 45 = .ok (.iload_n 2, 1) := by decide +kernel
theorem dX9_soonest_46 : decode cX9_soonest 46 = .ok (.invokevirtual 240, 3) := by decide +kernel
theorem dX9_soonest_49 : decode cX9_soonest 49 = .ok (.ireturn, 1) := by decide +kernel
theorem dX9_offersWrong_0 : decode cX9_offersWrong 0 = .ok (.iload_n 1, 1) := by decide +kernel
theorem dX9_offersWrong_1 : decode cX9_offersWrong 1 = .ok (.iconst 0, 1) := by decide +kernel
theorem dX9_offersWrong_2 : decode cX9_offersWrong 2 = .ok (.iconst 3, 1) := by decide +kernel
theorem dX9_offersWrong_3 : decode cX9_offersWrong 3 = .ok (.invokestatic 84, 3) := by decide +kernel
theorem dX9_offersWrong_6 : decode cX9_offersWrong 6 = .ok (.ifCond .ne 6, 3) := by decide +kernel
theorem dX9_offersWrong_9 : decode cX9_offersWrong 9 = .ok (.bipush (-2), 2) := by decide +kernel
theorem dX9_offersWrong_11 : decode cX9_offersWrong 11 = .ok (.ireturn, 1) := by decide +kernel
theorem dX9_offersWrong_12 : decode cX9_offersWrong 12 = .ok (.aload_n 0, 1) := by decide +kernel
theorem dX9_offersWrong_13 : decode cX9_offersWrong 13 = .ok (.getfield 34, 3) := by decide +kernel
theorem dX9_offersWrong_16 : decode cX9_offersWrong 16 = .ok (.iload_n 1, 1) := by decide +kernel
theorem dX9_offersWrong_17 : decode cX9_offersWrong 17 = .ok (.iaload, 1) := by decide +kernel
theorem dX9_offersWrong_18 : decode cX9_offersWrong 18 = .ok (.iconst (-1), 1) := by decide +kernel
theorem dX9_offersWrong_19 : decode cX9_offersWrong 19 = .ok (.if_icmp .ne 6, 3) := by decide +kernel
theorem dX9_offersWrong_22 : decode cX9_offersWrong 22 = .ok (.bipush (-11), 2) := by decide +kernel
theorem dX9_offersWrong_24 : decode cX9_offersWrong 24 = .ok (.ireturn, 1) := by decide +kernel
theorem dX9_offersWrong_25 : decode cX9_offersWrong 25 = .ok (.aload_n 0, 1) := by decide +kernel
theorem dX9_offersWrong_26 : decode cX9_offersWrong 26 = .ok (.getfield 37, 3) := by decide +kernel
theorem dX9_offersWrong_29 : decode cX9_offersWrong 29 = .ok (.iload_n 1, 1) := by decide +kernel
theorem dX9_offersWrong_30 : decode cX9_offersWrong 30 = .ok (.iaload, 1) := by decide +kernel
theorem dX9_offersWrong_31 : decode cX9_offersWrong 31 = .ok (.bipush 12, 2) := by decide +kernel
theorem dX9_offersWrong_33 : decode cX9_offersWrong 33 = .ok (.if_icmp .gt 18, 3) := by decide +kernel
theorem dX9_offersWrong_36 : decode cX9_offersWrong 36 = .ok (.aload_n 0, 1) := by decide +kernel
theorem dX9_offersWrong_37 : decode cX9_offersWrong 37 = .ok (.getfield 37, 3) := by decide +kernel
theorem dX9_offersWrong_40 : decode cX9_offersWrong 40 = .ok (.iload_n 1, 1) := by decide +kernel
theorem dX9_offersWrong_41 : decode cX9_offersWrong 41 = .ok (.iaload, 1) := by decide +kernel
theorem dX9_offersWrong_42 : decode cX9_offersWrong 42 = .ok (.iconst 2, 1) := by decide +kernel
theorem dX9_offersWrong_43 : decode cX9_offersWrong 43 = .ok (.irem, 1) := by decide +kernel
theorem dX9_offersWrong_44 : decode cX9_offersWrong 44 = .ok (.ifCond .ne 7, 3) := by decide +kernel
theorem dX9_offersWrong_47 : decode cX9_offersWrong 47 = .ok (.iconst 1, 1) := by decide +kernel
theorem dX9_offersWrong_48 : decode cX9_offersWrong 48 = .ok (.goto 4, 3) := by decide +kernel
theorem dX9_offersWrong_51 : decode cX9_offersWrong 51 = .ok (.iconst 0, 1) := by decide +kernel
theorem dX9_offersWrong_52 : decode cX9_offersWrong 52 = .ok (.istore_n 2, 1) := by decide +kernel
theorem dX9_offersWrong_53 : decode cX9_offersWrong 53 = .ok (.iconst 0, 1) := by decide +kernel
theorem dX9_offersWrong_54 : decode cX9_offersWrong 54 = .ok (.istore_n 3, 1) := by decide +kernel
theorem dX9_offersWrong_55 : decode cX9_offersWrong 55 = .ok (.iload_n 3, 1) := by decide +kernel
theorem dX9_offersWrong_56 : decode cX9_offersWrong 56 = .ok (.aload_n 0, 1) := by decide +kernel
theorem dX9_offersWrong_57 : decode cX9_offersWrong 57 = .ok (.getfield 37, 3) := by decide +kernel
theorem dX9_offersWrong_60 : decode cX9_offersWrong 60 = .ok (.iload_n 1, 1) := by decide +kernel
theorem dX9_offersWrong_61 : decode cX9_offersWrong 61 = .ok (.iaload, 1) := by decide +kernel
theorem dX9_offersWrong_62 : decode cX9_offersWrong 62 = .ok (.if_icmp .ge 45, 3) := by decide +kernel
theorem dX9_offersWrong_65 : decode cX9_offersWrong 65 = .ok (.iload_n 2, 1) := by decide +kernel
theorem dX9_offersWrong_66 : decode cX9_offersWrong 66 = .ok (.aload_n 0, 1) := by decide +kernel
theorem dX9_offersWrong_67 : decode cX9_offersWrong 67 = .ok (.getfield 40, 3) := by decide +kernel
theorem dX9_offersWrong_70 : decode cX9_offersWrong 70 = .ok (.bipush 40, 2) := by decide +kernel
theorem dX9_offersWrong_72 : decode cX9_offersWrong 72 = .ok (.iload_n 1, 1) := by decide +kernel
theorem dX9_offersWrong_73 : decode cX9_offersWrong 73 = .ok (.imul, 1) := by decide +kernel
theorem dX9_offersWrong_74 : decode cX9_offersWrong 74 = .ok (.iload_n 3, 1) := by decide +kernel
theorem dX9_offersWrong_75 : decode cX9_offersWrong 75 = .ok (.iadd, 1) := by decide +kernel
theorem dX9_offersWrong_76 : decode cX9_offersWrong 76 = .ok (.iaload, 1) := by decide +kernel
theorem dX9_offersWrong_77 : decode cX9_offersWrong 77 = .ok (.iconst 1, 1) := by decide +kernel
theorem dX9_offersWrong_78 : decode cX9_offersWrong 78 = .ok (.iload_n 3, 1) := by decide +kernel
theorem dX9_offersWrong_79 : decode cX9_offersWrong 79 = .ok (.iconst 2, 1) := by decide +kernel
theorem dX9_offersWrong_80 : decode cX9_offersWrong 80 = .ok (.irem, 1) := by decide +kernel
theorem dX9_offersWrong_81 : decode cX9_offersWrong 81 = .ok (.isub, 1) := by decide +kernel
theorem dX9_offersWrong_82 : decode cX9_offersWrong 82 = .ok (.iload_n 3, 1) := by decide +kernel
theorem dX9_offersWrong_83 : decode cX9_offersWrong 83 = .ok (.iconst 2, 1) := by decide +kernel
theorem dX9_offersWrong_84 : decode cX9_offersWrong 84 = .ok (.irem, 1) := by decide +kernel
theorem dX9_offersWrong_85 : decode cX9_offersWrong 85 = .ok (.ifCond .ne 9, 3) := by decide +kernel
theorem dX9_offersWrong_88 : decode cX9_offersWrong 88 = .ok (.sipush 200, 3) := by decide +kernel
theorem dX9_offersWrong_91 : decode cX9_offersWrong 91 = .ok (.goto 5, 3) := by decide +kernel
theorem dX9_offersWrong_94 : decode cX9_offersWrong 94 = .ok (.bipush 59, 2) := by decide +kernel
theorem dX9_offersWrong_96 : decode cX9_offersWrong 96 = .ok (.invokestatic 84, 3) := by decide +kernel
theorem dX9_offersWrong_99 : decode cX9_offersWrong 99 = .ok (.iand, 1) := by decide +kernel
theorem dX9_offersWrong_100 : decode cX9_offersWrong 100 = .ok (.istore_n 2, 1) := by decide +kernel
theorem dX9_offersWrong_101 : decode cX9_offersWrong 101 = .ok (.iinc 3 1, 3) := by decide +kernel
theorem dX9_offersWrong_104 : decode cX9_offersWrong 104 = .ok (.goto (-49), 3) := by decide +kernel
theorem dX9_offersWrong_107 : decode cX9_offersWrong 107 = .ok (.iload_n 2, 1) := by decide +kernel
theorem dX9_offersWrong_108 : decode cX9_offersWrong 108 = .ok (.ifCond .eq 7, 3) := by decide +kernel
theorem dX9_offersWrong_111 : decode cX9_offersWrong 111 = .ok (.iconst 0, 1) := by decide +kernel
theorem dX9_offersWrong_112 : decode cX9_offersWrong 112 = .ok (.goto 5, 3) := by decide +kernel
theorem dX9_offersWrong_115 : decode cX9_offersWrong 115 = .ok (.bipush (-2), 2) := by decide +kernel
theorem dX9_offersWrong_117 : decode cX9_offersWrong 117 = .ok (.ireturn, 1) := by decide +kernel
theorem dX9_canTake_0 : decode cX9_canTake 0 = .ok (.iconst 1, 1) := by decide +kernel
theorem dX9_canTake_1 : decode cX9_canTake 1 = .ok (.istore 4, 2) := by decide +kernel
theorem dX9_canTake_3 : decode cX9_canTake 3 = .ok (.aload_n 0, 1) := by decide +kernel
theorem dX9_canTake_4 : decode cX9_canTake 4 = .ok (.invokevirtual 231, 3) := by decide +kernel
theorem dX9_canTake_7 : decode cX9_canTake 7 = .ok (.iconst 0, 1) := by decide +kernel
theorem dX9_canTake_8 : decode cX9_canTake 8 = .ok (.istore 5, 2) := by decide +kernel
theorem dX9_canTake_10 : decode cX9_canTake 10 = .ok (.iload 5, 2) := by decide +kernel
theorem dX9_canTake_12 : decode cX9_canTake 12 = .ok (.bipush 60, 2) := by decide +kernel
theorem dX9_canTake_14 : decode cX9_canTake 14 = .ok (.if_icmp .ge 162, 3) := by decide +kernel
theorem dX9_canTake_17 : decode cX9_canTake 17 = .ok (.aload_n 0, 1) := by decide +kernel
theorem dX9_canTake_18 : decode cX9_canTake 18 = .ok (.iload_n 2, 1) := by decide +kernel
theorem dX9_canTake_19 : decode cX9_canTake 19 = .ok (.invokevirtual 216, 3) := by decide +kernel
theorem dX9_canTake_22 : decode cX9_canTake 22 = .ok (.iconst 0, 1) := by decide +kernel
theorem dX9_canTake_23 : decode cX9_canTake 23 = .ok (.istore 6, 2) := by decide +kernel
theorem dX9_canTake_25 : decode cX9_canTake 25 = .ok (.iload 6, 2) := by decide +kernel
theorem dX9_canTake_27 : decode cX9_canTake 27 = .ok (.aload_n 0, 1) := by decide +kernel
theorem dX9_canTake_28 : decode cX9_canTake 28 = .ok (.getfield 37, 3) := by decide +kernel
theorem dX9_canTake_31 : decode cX9_canTake 31 = .ok (.iload_n 1, 1) := by decide +kernel
theorem dX9_canTake_32 : decode cX9_canTake 32 = .ok (.iaload, 1) := by decide +kernel
theorem dX9_canTake_33 : decode cX9_canTake 33 = .ok (.iconst 2, 1) := by decide +kernel
theorem dX9_canTake_34 : decode cX9_canTake 34 = .ok (.idiv, 1) := by decide +kernel
theorem dX9_canTake_35 : decode cX9_canTake 35 = .ok (.if_icmp .ge 125, 3) := by decide +kernel
theorem dX9_canTake_38 : decode cX9_canTake 38 = .ok (.bipush 40, 2) := by decide +kernel
theorem dX9_canTake_40 : decode cX9_canTake 40 = .ok (.iload_n 1, 1) := by decide +kernel
theorem dX9_canTake_41 : decode cX9_canTake 41 = .ok (.imul, 1) := by decide +kernel
theorem dX9_canTake_42 : decode cX9_canTake 42 = .ok (.iconst 2, 1) := by decide +kernel
theorem dX9_canTake_43 : decode cX9_canTake 43 = .ok (.iload 6, 2) := by decide +kernel
theorem dX9_canTake_45 : decode cX9_canTake 45 = .ok (.imul, 1) := by decide +kernel
theorem dX9_canTake_46 : decode cX9_canTake 46 = .ok (.iadd, 1) := by decide +kernel
theorem dX9_canTake_47 : decode cX9_canTake 47 = .ok (.istore 7, 2) := by decide +kernel
theorem dX9_canTake_49 : decode cX9_canTake 49 = .ok (.iload_n 3, 1) := by decide +kernel
theorem dX9_canTake_50 : decode cX9_canTake 50 = .ok (.iload 6, 2) := by decide +kernel
theorem dX9_canTake_52 : decode cX9_canTake 52 = .ok (.ishr, 1) := by decide +kernel
theorem dX9_canTake_53 : decode cX9_canTake 53 = .ok (.iconst 1, 1) := by decide +kernel
theorem dX9_canTake_54 : decode cX9_canTake 54 = .ok (.iand, 1) := by decide +kernel
theorem dX9_canTake_55 : decode cX9_canTake 55 = .ok (.iconst 1, 1) := by decide +kernel
theorem dX9_canTake_56 : decode cX9_canTake 56 = .ok (.if_icmp .ne 98, 3) := by decide +kernel
theorem dX9_canTake_59 : decode cX9_canTake 59 = .ok (.aload_n 0, 1) := by decide +kernel
theorem dX9_canTake_60 : decode cX9_canTake 60 = .ok (.getfield 40, 3) := by decide +kernel
theorem dX9_canTake_63 : decode cX9_canTake 63 = .ok (.iload 7, 2) := by decide +kernel
theorem dX9_canTake_65 : decode cX9_canTake 65 = .ok (.iconst 1, 1) := by decide +kernel
theorem dX9_canTake_66 : decode cX9_canTake 66 = .ok (.iadd, 1) := by decide +kernel
theorem dX9_canTake_67 : decode cX9_canTake 67 = .ok (.iaload, 1) := by decide +kernel
theorem dX9_canTake_68 : decode cX9_canTake 68 = .ok (.iload 5, 2) := by decide +kernel
theorem dX9_canTake_70 : decode cX9_canTake 70 = .ok (.if_icmp .ne 84, 3) := by decide +kernel
theorem dX9_canTake_73 : decode cX9_canTake 73 = .ok (.iload 4, 2) := by decide +kernel
theorem dX9_canTake_75 : decode cX9_canTake 75 = .ok (.aload_n 0, 1) := by decide +kernel
theorem dX9_canTake_76 : decode cX9_canTake 76 = .ok (.iload_n 2, 1) := by decide +kernel
theorem dX9_canTake_77 : decode cX9_canTake 77 = .ok (.aload_n 0, 1) := by decide +kernel
theorem dX9_canTake_78 : decode cX9_canTake 78 = .ok (.getfield 16, 3) := by decide +kernel
theorem dX9_canTake_81 : decode cX9_canTake 81 = .ok (.iconst 4, 1) := by decide +kernel
theorem dX9_canTake_82 : decode cX9_canTake 82 = .ok (.iload_n 2, 1) := by decide +kernel
theorem dX9_canTake_83 : decode cX9_canTake 83 = .ok (.imul, 1) := by decide +kernel
theorem dX9_canTake_84 : decode cX9_canTake 84 = .ok (.iaload, 1) := by decide +kernel
theorem dX9_canTake_85 : decode cX9_canTake 85 = .ok (.invokevirtual 182, 3) := by decide +kernel
theorem dX9_canTake_88 : decode cX9_canTake 88 = .ok (.aload_n 0, 1) := by decide +kernel
theorem dX9_canTake_89 : decode cX9_canTake 89 = .ok (.getfield 40, 3) := by decide +kernel
theorem dX9_canTake_92 : decode cX9_canTake 92 = .ok (.iload 7, 2) := by decide +kernel
theorem dX9_canTake_94 : decode cX9_canTake 94 = .ok (.iaload, 1) := by decide +kernel
theorem dX9_canTake_95 : decode cX9_canTake 95 = .ok (.if_icmp .lt 7, 3) := by decide +kernel
theorem dX9_canTake_98 : decode cX9_canTake 98 = .ok (.iconst 1, 1) := by decide +kernel
theorem dX9_canTake_99 : decode cX9_canTake 99 = .ok (.goto 4, 3) := by decide +kernel
theorem dX9_canTake_102 : decode cX9_canTake 102 = .ok (.iconst 0, 1) := by decide +kernel
theorem dX9_canTake_103 : decode cX9_canTake 103 = .ok (.iand, 1) := by decide +kernel
theorem dX9_canTake_104 : decode cX9_canTake 104 = .ok (.istore 4, 2) := by decide +kernel
theorem dX9_canTake_106 : decode cX9_canTake 106 = .ok (.aload_n 0, 1) := by decide +kernel
theorem dX9_canTake_107 : decode cX9_canTake 107 = .ok (.getfield 16, 3) := by decide +kernel
theorem dX9_canTake_110 : decode cX9_canTake 110 = .ok (.iconst 4, 1) := by decide +kernel
theorem dX9_canTake_111 : decode cX9_canTake 111 = .ok (.iload_n 2, 1) := by decide +kernel
theorem dX9_canTake_112 : decode cX9_canTake 112 = .ok (.imul, 1) := by decide +kernel
theorem dX9_canTake_113 : decode cX9_canTake 113 = .ok (.iaload, 1) := by decide +kernel
theorem dX9_canTake_114 : decode cX9_canTake 114 = .ok (.aload_n 0, 1) := by decide +kernel
theorem dX9_canTake_115 : decode cX9_canTake 115 = .ok (.getfield 40, 3) := by decide +kernel
theorem dX9_canTake_118 : decode cX9_canTake 118 = .ok (.iload 7, 2) := by decide +kernel
theorem dX9_canTake_120 : decode cX9_canTake 120 = .ok (.iaload, 1) := by decide +kernel
theorem dX9_canTake_121 : decode cX9_canTake 121 = .ok (.isub, 1) := by decide +kernel
theorem dX9_canTake_122 : decode cX9_canTake 122 = .ok (.aload_n 0, 1) := by decide +kernel
theorem dX9_canTake_123 : decode cX9_canTake 123 = .ok (.iconst 1, 1) := by decide +kernel
theorem dX9_canTake_124 : decode cX9_canTake 124 = .ok (.iload_n 2, 1) := by decide +kernel
theorem dX9_canTake_125 : decode cX9_canTake 125 = .ok (.aload_n 0, 1) := by decide +kernel
theorem dX9_canTake_126 : decode cX9_canTake 126 = .ok (.getfield 91, 3) := by decide +kernel
theorem dX9_canTake_129 : decode cX9_canTake 129 = .ok (.invokevirtual 179, 3) := by decide +kernel
theorem dX9_canTake_132 : decode cX9_canTake 132 = .ok (.isub, 1) := by decide +kernel
theorem dX9_canTake_133 : decode cX9_canTake 133 = .ok (.istore 8, 2) := by decide +kernel
theorem dX9_canTake_135 : decode cX9_canTake 135 = .ok (.aload_n 0, 1) := by decide +kernel
theorem dX9_canTake_136 : decode cX9_canTake 136 = .ok (.getfield 16, 3) := by decide +kernel
theorem dX9_canTake_139 : decode cX9_canTake 139 = .ok (.iconst 4, 1) := by decide +kernel
theorem dX9_canTake_140 : decode cX9_canTake 140 = .ok (.iload_n 2, 1) := by decide +kernel
theorem dX9_canTake_141 : decode cX9_canTake 141 = .ok (.imul, 1) := by decide +kernel
theorem dX9_canTake_142 : decode cX9_canTake 142 = .ok (.iload 8, 2) := by decide +kernel
theorem dX9_canTake_144 : decode cX9_canTake 144 = .ok (.ifCond .ge 7, 3) := by decide +kernel
theorem dX9_canTake_147 : decode cX9_canTake 147 = .ok (.iconst 0, 1) := by decide +kernel
theorem dX9_canTake_148 : decode cX9_canTake 148 = .ok (.goto 5, 3) := by decide +kernel
theorem dX9_canTake_151 : decode cX9_canTake 151 = .ok (.iload 8, 2) := by decide +kernel
theorem dX9_canTake_153 : decode cX9_canTake 153 = .ok (.iastore, 1) := by decide +kernel
theorem dX9_canTake_154 : decode cX9_canTake 154 = .ok (.iinc 6 1, 3) := by decide +kernel
theorem dX9_canTake_157 : decode cX9_canTake 157 = .ok (.goto (-132), 3) := by decide +kernel
theorem dX9_canTake_160 : decode cX9_canTake 160 = .ok (.aload_n 0, 1) := by decide +kernel
theorem dX9_canTake_161 : decode cX9_canTake 161 = .ok (.dup, 1) := by decide +kernel
theorem dX9_canTake_162 : decode cX9_canTake 162 = .ok (.getfield 91, 3) := by decide +kernel
theorem dX9_canTake_165 : decode cX9_canTake 165 = .ok (.iconst 1, 1) := by decide +kernel
theorem dX9_canTake_166 : decode cX9_canTake 166 = .ok (.iadd, 1) := by decide +kernel
theorem dX9_canTake_167 : decode cX9_canTake 167 = .ok (.putfield 91, 3) := by decide +kernel
theorem dX9_canTake_170 : decode cX9_canTake 170 = .ok (.iinc 5 1, 3) := by decide +kernel
theorem dX9_canTake_173 : decode cX9_canTake 173 = .ok (.goto (-163), 3) := by decide +kernel
theorem dX9_canTake_176 : decode cX9_canTake 176 = .ok (.aload_n 0, 1) := by decide +kernel
theorem dX9_canTake_177 : decode cX9_canTake 177 = .ok (.invokevirtual 234, 3) := by decide +kernel
theorem dX9_canTake_180 : decode cX9_canTake 180 = .ok (.iload 4, 2) := by decide +kernel
theorem dX9_canTake_182 : decode cX9_canTake 182 = .ok (.ireturn, 1) := by decide +kernel
theorem dX9_take_0 : decode cX9_take 0 = .ok (.aload_n 0, 1) := by decide +kernel
theorem dX9_take_1 : decode cX9_take 1 = .ok (.iload_n 1, 1) := by decide +kernel
theorem dX9_take_2 : decode cX9_take 2 = .ok (.invokevirtual 243, 3) := by decide +kernel
theorem dX9_take_5 : decode cX9_take 5 = .ok (.istore 4, 2) := by decide +kernel
theorem dX9_take_7 : decode cX9_take 7 = .ok (.iload 4, 2) := by decide +kernel
theorem dX9_take_9 : decode cX9_take 9 = .ok (.ifCond .eq 6, 3) := by decide +kernel
theorem dX9_take_12 : decode cX9_take 12 = .ok (.iload 4, 2) := by decide +kernel
theorem dX9_take_14 : decode cX9_take 14 = .ok (.ireturn, 1) := by decide +kernel
theorem dX9_take_15 : decode cX9_take 15 = .ok (.aload_n 0, 1) := by decide +kernel
theorem dX9_take_16 : decode cX9_take 16 = .ok (.iload_n 2, 1) := by decide +kernel
theorem dX9_take_17 : decode cX9_take 17 = .ok (.invokevirtual 176, 3) := by decide +kernel
theorem dX9_take_20 : decode cX9_take 20 = .ok (.ifCond .ne 6, 3) := by decide +kernel
theorem dX9_take_23 : decode cX9_take 23 = .ok (.bipush (-5), 2) := by decide +kernel
theorem dX9_take_25 : decode cX9_take 25 = .ok (.ireturn, 1) := by decide +kernel
theorem dX9_take_26 : decode cX9_take 26 = .ok (.iload_n 3, 1) := by decide +kernel
theorem dX9_take_27 : decode cX9_take 27 = .ok (.iconst 0, 1) := by decide +kernel
theorem dX9_take_28 : decode cX9_take 28 = .ok (.iconst 1, 1) := by decide +kernel
theorem dX9_take_29 : decode cX9_take 29 = .ok (.invokestatic 84, 3) := by decide +kernel
theorem dX9_take_32 : decode cX9_take 32 = .ok (.ifCond .ne 6, 3) := by decide +kernel
theorem dX9_take_35 : decode cX9_take 35 = .ok (.bipush (-7), 2) := by decide +kernel
theorem dX9_take_37 : decode cX9_take 37 = .ok (.ireturn, 1) := by decide +kernel
theorem dX9_take_38 : decode cX9_take 38 = .ok (.iconst 0, 1) := by decide +kernel
theorem dX9_take_39 : decode cX9_take 39 = .ok (.istore 5, 2) := by decide +kernel
theorem dX9_take_41 : decode cX9_take 41 = .ok (.iconst 0, 1) := by decide +kernel
theorem dX9_take_42 : decode cX9_take 42 = .ok (.istore 6, 2) := by decide +kernel
theorem dX9_take_44 : decode cX9_take 44 = .ok (.iconst 1, 1) := by decide +kernel
theorem dX9_take_45 : decode cX9_take 45 = .ok (.istore 7, 2) := by decide +kernel
theorem dX9_take_47 : decode cX9_take 47 = .ok (.iload 7, 2) := by decide +kernel
theorem dX9_take_49 : decode cX9_take 49 = .ok (.iconst 1, 1) := by decide +kernel
theorem dX9_take_50 : decode cX9_take 50 = .ok (.aload_n 0, 1) := by decide +kernel
theorem dX9_take_51 : decode cX9_take 51 = .ok (.getfield 37, 3) := by decide +kernel
theorem dX9_take_54 : decode cX9_take 54 = .ok (.iload_n 1, 1) := by decide +kernel
theorem dX9_take_55 : decode cX9_take 55 = .ok (.iaload, 1) := by decide +kernel
theorem dX9_take_56 : decode cX9_take 56 = .ok (.iconst 2, 1) := by decide +kernel
theorem dX9_take_57 : decode cX9_take 57 = .ok (.idiv, 1) := by decide +kernel
theorem dX9_take_58 : decode cX9_take 58 = .ok (.ishl, 1) := by decide +kernel
theorem dX9_take_59 : decode cX9_take 59 = .ok (.if_icmp .ge 107, 3) := by decide +kernel
theorem dX9_take_62 : decode cX9_take 62 = .ok (.aload_n 0, 1) := by decide +kernel
theorem dX9_take_63 : decode cX9_take 63 = .ok (.getfield 16, 3) := by decide +kernel
theorem dX9_take_66 : decode cX9_take 66 = .ok (.iconst 4, 1) := by decide +kernel
theorem dX9_take_67 : decode cX9_take 67 = .ok (.iload_n 2, 1) := by decide +kernel
theorem dX9_take_68 : decode cX9_take 68 = .ok (.imul, 1) := by decide +kernel
theorem dX9_take_69 : decode cX9_take 69 = .ok (.iconst 3, 1) := by decide +kernel
theorem dX9_take_70 : decode cX9_take 70 = .ok (.iadd, 1) := by decide +kernel
theorem dX9_take_71 : decode cX9_take 71 = .ok (.iaload, 1) := by decide +kernel
theorem dX9_take_72 : decode cX9_take 72 = .ok (.ifCond .ne 94, 3) := by decide +kernel
theorem dX9_take_75 : decode cX9_take 75 = .ok (.iconst 0, 1) := by decide +kernel
theorem dX9_take_76 : decode cX9_take 76 = .ok (.istore 8, 2) := by decide +kernel
theorem dX9_take_78 : decode cX9_take 78 = .ok (.iconst 0, 1) := by decide +kernel
theorem dX9_take_79 : decode cX9_take 79 = .ok (.istore 9, 2) := by decide +kernel
theorem dX9_take_81 : decode cX9_take 81 = .ok (.iload 9, 2) := by decide +kernel
theorem dX9_take_83 : decode cX9_take 83 = .ok (.aload_n 0, 1) := by decide +kernel
theorem dX9_take_84 : decode cX9_take 84 = .ok (.getfield 37, 3) := by decide +kernel
theorem dX9_take_87 : decode cX9_take 87 = .ok (.iload_n 1, 1) := by decide +kernel
theorem dX9_take_88 : decode cX9_take 88 = .ok (.iaload, 1) := by decide +kernel
theorem dX9_take_89 : decode cX9_take 89 = .ok (.iconst 2, 1) := by decide +kernel
theorem dX9_take_90 : decode cX9_take 90 = .ok (.idiv, 1) := by decide +kernel
theorem dX9_take_91 : decode cX9_take 91 = .ok (.if_icmp .ge 43, 3) := by decide +kernel
theorem dX9_take_94 : decode cX9_take 94 = .ok (.iload 8, 2) := by decide +kernel
theorem dX9_take_96 : decode cX9_take 96 = .ok (.iload 7, 2) := by decide +kernel
theorem dX9_take_98 : decode cX9_take 98 = .ok (.iload 9, 2) := by decide +kernel
theorem dX9_take_100 : decode cX9_take 100 = .ok (.ishr, 1) := by decide +kernel
theorem dX9_take_101 : decode cX9_take 101 = .ok (.iconst 1, 1) := by decide +kernel
theorem dX9_take_102 : decode cX9_take 102 = .ok (.iand, 1) := by decide +kernel
theorem dX9_take_103 : decode cX9_take 103 = .ok (.iconst 1, 1) := by decide +kernel
theorem dX9_take_104 : decode cX9_take 104 = .ok (.if_icmp .ne 20, 3) := by decide +kernel
theorem dX9_take_107 : decode cX9_take 107 = .ok (.aload_n 0, 1) := by decide +kernel
theorem dX9_take_108 : decode cX9_take 108 = .ok (.getfield 40, 3) := by decide +kernel
theorem dX9_take_111 : decode cX9_take 111 = .ok (.bipush 40, 2) := by decide +kernel
theorem dX9_take_113 : decode cX9_take 113 = .ok (.iload_n 1, 1) := by decide +kernel
theorem dX9_take_114 : decode cX9_take 114 = .ok (.imul, 1) := by decide +kernel
theorem dX9_take_115 : decode cX9_take 115 = .ok (.iconst 2, 1) := by decide +kernel
theorem dX9_take_116 : decode cX9_take 116 = .ok (.iload 9, 2) := by decide +kernel
theorem dX9_take_118 : decode cX9_take 118 = .ok (.imul, 1) := by decide +kernel
theorem dX9_take_119 : decode cX9_take 119 = .ok (.iadd, 1) := by decide +kernel
theorem dX9_take_120 : decode cX9_take 120 = .ok (.iaload, 1) := by decide +kernel
theorem dX9_take_121 : decode cX9_take 121 = .ok (.goto 4, 3) := by decide +kernel
theorem dX9_take_124 : decode cX9_take 124 = .ok (.iconst 0, 1) := by decide +kernel
theorem dX9_take_125 : decode cX9_take 125 = .ok (.iadd, 1) := by decide +kernel
theorem dX9_take_126 : decode cX9_take 126 = .ok (.istore 8, 2) := by decide +kernel
theorem dX9_take_128 : decode cX9_take 128 = .ok (.iinc 9 1, 3) := by decide +kernel
theorem dX9_take_131 : decode cX9_take 131 = .ok (.goto (-50), 3) := by decide +kernel
theorem dX9_take_134 : decode cX9_take 134 = .ok (.iload 8, 2) := by decide +kernel
theorem dX9_take_136 : decode cX9_take 136 = .ok (.iload 6, 2) := by decide +kernel
theorem dX9_take_138 : decode cX9_take 138 = .ok (.if_icmp .le 22, 3) := by decide +kernel
theorem dX9_take_141 : decode cX9_take 141 = .ok (.aload_n 0, 1) := by decide +kernel
theorem dX9_take_142 : decode cX9_take 142 = .ok (.iload_n 1, 1) := by decide +kernel
theorem dX9_take_143 : decode cX9_take 143 = .ok (.iload_n 2, 1) := by decide +kernel
theorem dX9_take_144 : decode cX9_take 144 = .ok (.iload 7, 2) := by decide +kernel
theorem dX9_take_146 : decode cX9_take 146 = .ok (.invokevirtual 246, 3) := by decide +kernel
theorem dX9_take_149 : decode cX9_take 149 = .ok (.ifCond .eq 11, 3) := by decide +kernel
theorem dX9_take_152 : decode cX9_take 152 = .ok (.iload 7, 2) := by decide +kernel
theorem dX9_take_154 : decode cX9_take 154 = .ok (.istore 5, 2) := by decide +kernel
theorem dX9_take_156 : decode cX9_take 156 = .ok (.iload 8, 2) := by decide +kernel
theorem dX9_take_158 : decode cX9_take 158 = .ok (.istore 6, 2) := by decide +kernel
theorem dX9_take_160 : decode cX9_take 160 = .ok (.iinc 7 1, 3) := by decide +kernel
theorem dX9_take_163 : decode cX9_take 163 = .ok (.goto (-116), 3) := by decide +kernel
theorem dX9_take_166 : decode cX9_take 166 = .ok (.iload_n 3, 1) := by decide +kernel
theorem dX9_take_167 : decode cX9_take 167 = .ok (.ifCond .ne 8, 3) := by decide +kernel
theorem dX9_take_170 : decode cX9_take 170 = .ok (.iload 5, 2) := by decide +kernel
theorem dX9_take_172 : decode cX9_take 172 = .ok (.goto 5, 3) := by decide +kernel
theorem dX9_take_175 : decode cX9_take 175 = .ok (.iload 6, 2) := by decide +kernel
theorem dX9_take_177 : decode cX9_take 177 = .ok (.ireturn, 1) := by decide +kernel
theorem dX9_canBe_0 : decode cX9_canBe 0 = .ok (.aload_n 0, 1) := by decide +kernel
theorem dX9_canBe_1 : decode cX9_canBe 1 = .ok (.iload_n 1, 1) := by decide +kernel
theorem dX9_canBe_2 : decode cX9_canBe 2 = .ok (.invokevirtual 164, 3) := by decide +kernel
theorem dX9_canBe_5 : decode cX9_canBe 5 = .ok (.ifCond .eq 43, 3) := by decide +kernel
theorem dX9_canBe_8 : decode cX9_canBe 8 = .ok (.iload_n 2, 1) := by decide +kernel
theorem dX9_canBe_9 : decode cX9_canBe 9 = .ok (.ifCond .le 41, 3) := by decide +kernel
theorem dX9_canBe_12 : decode cX9_canBe 12 = .ok (.aload_n 0, 1) := by decide +kernel
theorem dX9_canBe_13 : decode cX9_canBe 13 = .ok (.getfield 19, 3) := by decide +kernel
theorem dX9_canBe_16 : decode cX9_canBe 16 = .ok (.bipush 6, 2) := by decide +kernel
theorem dX9_canBe_18 : decode cX9_canBe 18 = .ok (.iload_n 1, 1) := by decide +kernel
theorem dX9_canBe_19 : decode cX9_canBe 19 = .ok (.imul, 1) := by decide +kernel
theorem dX9_canBe_20 : decode cX9_canBe 20 = .ok (.iaload, 1) := by decide +kernel
theorem dX9_canBe_21 : decode cX9_canBe 21 = .ok (.aload_n 0, 1) := by decide +kernel
theorem dX9_canBe_22 : decode cX9_canBe 22 = .ok (.getfield 19, 3) := by decide +kernel
theorem dX9_canBe_25 : decode cX9_canBe 25 = .ok (.bipush 6, 2) := by decide +kernel
theorem dX9_canBe_27 : decode cX9_canBe 27 = .ok (.aload_n 0, 1) := by decide +kernel
theorem dX9_canBe_28 : decode cX9_canBe 28 = .ok (.getfield 64, 3) := by decide +kernel
theorem dX9_canBe_31 : decode cX9_canBe 31 = .ok (.iload_n 2, 1) := by decide +kernel
theorem dX9_canBe_32 : decode cX9_canBe 32 = .ok (.iconst 1, 1) := by decide +kernel
theorem dX9_canBe_33 : decode cX9_canBe 33 = .ok (.isub, 1) := by decide +kernel
theorem dX9_canBe_34 : decode cX9_canBe 34 = .ok (.iconst 0, 1) := by decide +kernel
theorem dX9_canBe_35 : decode cX9_canBe 35 = .ok (.bipush 7, 2) := by decide +kernel
theorem dX9_canBe_37 : decode cX9_canBe 37 = .ok (.invokestatic 173, 3) := by decide +kernel
theorem dX9_canBe_40 : decode cX9_canBe 40 = .ok (.iaload, 1) := by decide +kernel
theorem dX9_canBe_41 : decode cX9_canBe 41 = .ok (.imul, 1) := by decide +kernel
theorem dX9_canBe_42 : decode cX9_canBe 42 = .ok (.iconst 1, 1) := by decide +kernel
theorem dX9_canBe_43 : decode cX9_canBe 43 = .ok (.iadd, 1) := by decide +kernel
theorem dX9_canBe_44 : decode cX9_canBe 44 = .ok (.iaload, 1) := by decide +kernel
theorem dX9_canBe_45 : decode cX9_canBe 45 = .ok (.if_icmp .eq 5, 3) := by decide +kernel
theorem dX9_canBe_48 : decode cX9_canBe 48 = .ok (.iconst 0, 1) := by decide +kernel
theorem dX9_canBe_49 : decode cX9_canBe 49 = .ok (.ireturn, 1) := by decide +kernel
theorem dX9_canBe_50 : decode cX9_canBe 50 = .ok (.iconst 1, 1) := by decide +kernel
theorem dX9_canBe_51 : decode cX9_canBe 51 = .ok (.istore_n 3, 1) := by decide +kernel
theorem dX9_canBe_52 : decode cX9_canBe 52 = .ok (.iload_n 3, 1) := by decide +kernel
theorem dX9_canBe_53 : decode cX9_canBe 53 = .ok (.iload_n 2, 1) := by decide +kernel
theorem dX9_canBe_54 : decode cX9_canBe 54 = .ok (.if_icmp .ge 39, 3) := by decide +kernel
theorem dX9_canBe_57 : decode cX9_canBe 57 = .ok (.aload_n 0, 1) := by decide +kernel
theorem dX9_canBe_58 : decode cX9_canBe 58 = .ok (.getfield 19, 3) := by decide +kernel
theorem dX9_canBe_61 : decode cX9_canBe 61 = .ok (.bipush 6, 2) := by decide +kernel
theorem dX9_canBe_63 : decode cX9_canBe 63 = .ok (.aload_n 0, 1) := by decide +kernel
theorem dX9_canBe_64 : decode cX9_canBe 64 = .ok (.getfield 64, 3) := by decide +kernel
theorem dX9_canBe_67 : decode cX9_canBe 67 = .ok (.iload_n 3, 1) := by decide +kernel
theorem dX9_canBe_68 : decode cX9_canBe 68 = .ok (.iaload, 1) := by decide +kernel
theorem dX9_canBe_69 : decode cX9_canBe 69 = .ok (.imul, 1) := by decide +kernel
theorem dX9_canBe_70 : decode cX9_canBe 70 = .ok (.iaload, 1) := by decide +kernel
theorem dX9_canBe_71 : decode cX9_canBe 71 = .ok (.aload_n 0, 1) := by decide +kernel
theorem dX9_canBe_72 : decode cX9_canBe 72 = .ok (.getfield 19, 3) := by decide +kernel
theorem dX9_canBe_75 : decode cX9_canBe 75 = .ok (.bipush 6, 2) := by decide +kernel
theorem dX9_canBe_77 : decode cX9_canBe 77 = .ok (.iload_n 1, 1) := by decide +kernel
theorem dX9_canBe_78 : decode cX9_canBe 78 = .ok (.imul, 1) := by decide +kernel
theorem dX9_canBe_79 : decode cX9_canBe 79 = .ok (.iconst 1, 1) := by decide +kernel
theorem dX9_canBe_80 : decode cX9_canBe 80 = .ok (.iadd, 1) := by decide +kernel
theorem dX9_canBe_81 : decode cX9_canBe 81 = .ok (.iaload, 1) := by decide +kernel
theorem dX9_canBe_82 : decode cX9_canBe 82 = .ok (.if_icmp .ne 5, 3) := by decide +kernel
theorem dX9_canBe_85 : decode cX9_canBe 85 = .ok (.iconst 0, 1) := by decide +kernel
theorem dX9_canBe_86 : decode cX9_canBe 86 = .ok (.ireturn, 1) := by decide +kernel
theorem dX9_canBe_87 : decode cX9_canBe 87 = .ok (.iinc 3 1, 3) := by decide +kernel
theorem dX9_canBe_90 : decode cX9_canBe 90 = .ok (.goto (-38), 3) := by decide +kernel
theorem dX9_canBe_93 : decode cX9_canBe 93 = .ok (.iconst 1, 1) := by decide +kernel
theorem dX9_canBe_94 : decode cX9_canBe 94 = .ok (.ireturn, 1) := by decide +kernel
theorem dX9_closes_0 : decode cX9_closes 0 = .ok (.iload_n 1, 1) := by decide +kernel
theorem dX9_closes_1 : decode cX9_closes 1 = .ok (.ifCond .le 40, 3) := by decide +kernel
theorem dX9_closes_4 : decode cX9_closes 4 = .ok (.aload_n 0, 1) := by decide +kernel
theorem dX9_closes_5 : decode cX9_closes 5 = .ok (.getfield 19, 3) := by decide +kernel
theorem dX9_closes_8 : decode cX9_closes 8 = .ok (.bipush 6, 2) := by decide +kernel
theorem dX9_closes_10 : decode cX9_closes 10 = .ok (.aload_n 0, 1) := by decide +kernel
theorem dX9_closes_11 : decode cX9_closes 11 = .ok (.getfield 64, 3) := by decide +kernel
theorem dX9_closes_14 : decode cX9_closes 14 = .ok (.iload_n 1, 1) := by decide +kernel
theorem dX9_closes_15 : decode cX9_closes 15 = .ok (.iaload, 1) := by decide +kernel
theorem dX9_closes_16 : decode cX9_closes 16 = .ok (.imul, 1) := by decide +kernel
theorem dX9_closes_17 : decode cX9_closes 17 = .ok (.iconst 1, 1) := by decide +kernel
theorem dX9_closes_18 : decode cX9_closes 18 = .ok (.iadd, 1) := by decide +kernel
theorem dX9_closes_19 : decode cX9_closes 19 = .ok (.iaload, 1) := by decide +kernel
theorem dX9_closes_20 : decode cX9_closes 20 = .ok (.aload_n 0, 1) := by decide +kernel
theorem dX9_closes_21 : decode cX9_closes 21 = .ok (.getfield 19, 3) := by decide +kernel
theorem dX9_closes_24 : decode cX9_closes 24 = .ok (.bipush 6, 2) := by decide +kernel
theorem dX9_closes_26 : decode cX9_closes 26 = .ok (.aload_n 0, 1) := by decide +kernel
theorem dX9_closes_27 : decode cX9_closes 27 = .ok (.getfield 64, 3) := by decide +kernel
theorem dX9_closes_30 : decode cX9_closes 30 = .ok (.iconst 0, 1) := by decide +kernel
theorem dX9_closes_31 : decode cX9_closes 31 = .ok (.iaload, 1) := by decide +kernel
theorem dX9_closes_32 : decode cX9_closes 32 = .ok (.imul, 1) := by decide +kernel
theorem dX9_closes_33 : decode cX9_closes 33 = .ok (.iaload, 1) := by decide +kernel
theorem dX9_closes_34 : decode cX9_closes 34 = .ok (.if_icmp .ne 7, 3) := by decide +kernel
theorem dX9_closes_37 : decode cX9_closes 37 = .ok (.iconst 1, 1) := by decide +kernel
theorem dX9_closes_38 : decode cX9_closes 38 = .ok (.goto 4, 3) := by decide +kernel
theorem dX9_closes_41 : decode cX9_closes 41 = .ok (.iconst 0, 1) := by decide +kernel
theorem dX9_closes_42 : decode cX9_closes 42 = .ok (.ireturn, 1) := by decide +kernel
theorem dX9_findsRing_0 : decode cX9_findsRing 0 = .ok (.iconst 0, 1) := by decide +kernel
theorem dX9_findsRing_1 : decode cX9_findsRing 1 = .ok (.istore_n 1, 1) := by decide +kernel
theorem dX9_findsRing_2 : decode cX9_findsRing 2 = .ok (.aload_n 0, 1) := by decide +kernel
theorem dX9_findsRing_3 : decode cX9_findsRing 3 = .ok (.getfield 64, 3) := by decide +kernel
theorem dX9_findsRing_6 : decode cX9_findsRing 6 = .ok (.iconst 0, 1) := by decide +kernel
theorem dX9_findsRing_7 : decode cX9_findsRing 7 = .ok (.iconst (-1), 1) := by decide +kernel
theorem dX9_findsRing_8 : decode cX9_findsRing 8 = .ok (.iastore, 1) := by decide +kernel
theorem dX9_findsRing_9 : decode cX9_findsRing 9 = .ok (.iload_n 1, 1) := by decide +kernel
theorem dX9_findsRing_10 : decode cX9_findsRing 10 = .ok (.ifCond .lt 86, 3) := by decide +kernel
theorem dX9_findsRing_13 : decode cX9_findsRing 13 = .ok (.aload_n 0, 1) := by decide +kernel
theorem dX9_findsRing_14 : decode cX9_findsRing 14 = .ok (.getfield 64, 3) := by decide +kernel
theorem dX9_findsRing_17 : decode cX9_findsRing 17 = .ok (.iload_n 1, 1) := by decide +kernel
theorem dX9_findsRing_18 : decode cX9_findsRing 18 = .ok (.iaload, 1) := by decide +kernel
theorem dX9_findsRing_19 : decode cX9_findsRing 19 = .ok (.iconst 1, 1) := by decide +kernel
theorem dX9_findsRing_20 : decode cX9_findsRing 20 = .ok (.iadd, 1) := by decide +kernel
theorem dX9_findsRing_21 : decode cX9_findsRing 21 = .ok (.istore_n 2, 1) := by decide +kernel
theorem dX9_findsRing_22 : decode cX9_findsRing 22 = .ok (.iload_n 2, 1) := by decide +kernel
theorem dX9_findsRing_23 : decode cX9_findsRing 23 = .ok (.aload_n 0, 1) := by decide +kernel
theorem dX9_findsRing_24 : decode cX9_findsRing 24 = .ok (.getfield 88, 3) := by decide +kernel
theorem dX9_findsRing_27 : decode cX9_findsRing 27 = .ok (.if_icmp .ge 18, 3) := by decide +kernel
theorem dX9_findsRing_30 : decode cX9_findsRing 30 = .ok (.aload_n 0, 1) := by decide +kernel
theorem dX9_findsRing_31 : decode cX9_findsRing 31 = .ok (.iload_n 2, 1) := by decide +kernel
theorem dX9_findsRing_32 : decode cX9_findsRing 32 = .ok (.iload_n 1, 1) := by decide +kernel
theorem dX9_findsRing_33 : decode cX9_findsRing 33 = .ok (.invokevirtual 249, 3) := by decide +kernel
theorem dX9_findsRing_36 : decode cX9_findsRing 36 = .ok (.ifCond .ne 9, 3) := by decide +kernel
theorem dX9_findsRing_39 : decode cX9_findsRing 39 = .ok (.iinc 2 1, 3) := by decide +kernel
theorem dX9_findsRing_42 : decode cX9_findsRing 42 = .ok (.goto (-20), 3) := by decide +kernel
theorem dX9_findsRing_45 : decode cX9_findsRing 45 = .ok (.iload_n 2, 1) := by decide +kernel
theorem dX9_findsRing_46 : decode cX9_findsRing 46 = .ok (.aload_n 0, 1) := by decide +kernel
theorem dX9_findsRing_47 : decode cX9_findsRing 47 = .ok (.getfield 88, 3) := by decide +kernel
theorem dX9_findsRing_50 : decode cX9_findsRing 50 = .ok (.if_icmp .ne 9, 3) := by decide +kernel
theorem dX9_findsRing_53 : decode cX9_findsRing 53 = .ok (.iinc 1 (-1), 3) := by decide +kernel
theorem dX9_findsRing_56 : decode cX9_findsRing 56 = .ok (.goto 37, 3) := by decide +kernel
theorem dX9_findsRing_59 : decode cX9_findsRing 59 = .ok (.aload_n 0, 1) := by decide +kernel
theorem dX9_findsRing_60 : decode cX9_findsRing 60 = .ok (.getfield 64, 3) := by decide +kernel
theorem dX9_findsRing_63 : decode cX9_findsRing 63 = .ok (.iload_n 1, 1) := by decide +kernel
theorem dX9_findsRing_64 : decode cX9_findsRing 64 = .ok (.iload_n 2, 1) := by decide +kernel
theorem dX9_findsRing_65 : decode cX9_findsRing 65 = .ok (.iastore, 1) := by decide +kernel
theorem dX9_findsRing_66 : decode cX9_findsRing 66 = .ok (.aload_n 0, 1) := by decide +kernel
theorem dX9_findsRing_67 : decode cX9_findsRing 67 = .ok (.iload_n 1, 1) := by decide +kernel
theorem dX9_findsRing_68 : decode cX9_findsRing 68 = .ok (.invokevirtual 253, 3) := by decide +kernel
theorem dX9_findsRing_71 : decode cX9_findsRing 71 = .ok (.ifCond .eq 12, 3) := by decide +kernel
theorem dX9_findsRing_74 : decode cX9_findsRing 74 = .ok (.aload_n 0, 1) := by decide +kernel
theorem dX9_findsRing_75 : decode cX9_findsRing 75 = .ok (.iload_n 1, 1) := by decide +kernel
theorem dX9_findsRing_76 : decode cX9_findsRing 76 = .ok (.iconst 1, 1) := by decide +kernel
theorem dX9_findsRing_77 : decode cX9_findsRing 77 = .ok (.iadd, 1) := by decide +kernel
theorem dX9_findsRing_78 : decode cX9_findsRing 78 = .ok (.putfield 256, 3) := by decide +kernel
theorem dX9_findsRing_81 : decode cX9_findsRing 81 = .ok (.iconst 1, 1) := by decide +kernel
theorem dX9_findsRing_82 : decode cX9_findsRing 82 = .ok (.ireturn, 1) := by decide +kernel
theorem dX9_findsRing_83 : decode cX9_findsRing 83 = .ok (.iinc 1 1, 3) := by decide +kernel
theorem dX9_findsRing_86 : decode cX9_findsRing 86 = .ok (.aload_n 0, 1) := by decide +kernel
theorem dX9_findsRing_87 : decode cX9_findsRing 87 = .ok (.getfield 64, 3) := by decide +kernel
theorem dX9_findsRing_90 : decode cX9_findsRing 90 = .ok (.iload_n 1, 1) := by decide +kernel
theorem dX9_findsRing_91 : decode cX9_findsRing 91 = .ok (.iconst (-1), 1) := by decide +kernel
theorem dX9_findsRing_92 : decode cX9_findsRing 92 = .ok (.iastore, 1) := by decide +kernel
theorem dX9_findsRing_93 : decode cX9_findsRing 93 = .ok (.goto (-84), 3) := by decide +kernel
theorem dX9_findsRing_96 : decode cX9_findsRing 96 = .ok (.aload_n 0, 1) := by decide +kernel
theorem dX9_findsRing_97 : decode cX9_findsRing 97 = .ok (.iconst 0, 1) := by decide +kernel
theorem dX9_findsRing_98 : decode cX9_findsRing 98 = .ok (.putfield 256, 3) := by decide +kernel
theorem dX9_findsRing_101 : decode cX9_findsRing 101 = .ok (.iconst 0, 1) := by decide +kernel
theorem dX9_findsRing_102 : decode cX9_findsRing 102 = .ok (.ireturn, 1) := by decide +kernel
theorem dX9_leastOnWay_0 : decode cX9_leastOnWay 0 = .ok (.iconst 0, 1) := by decide +kernel
theorem dX9_leastOnWay_1 : decode cX9_leastOnWay 1 = .ok (.istore_n 1, 1) := by decide +kernel
theorem dX9_leastOnWay_2 : decode cX9_leastOnWay 2 = .ok (.iconst 0, 1) := by decide +kernel
theorem dX9_leastOnWay_3 : decode cX9_leastOnWay 3 = .ok (.istore_n 2, 1) := by decide +kernel
theorem dX9_leastOnWay_4 : decode cX9_leastOnWay 4 = .ok (.iload_n 2, 1) := by decide +kernel
theorem dX9_leastOnWay_5 : decode cX9_leastOnWay 5 = .ok (.aload_n 0, 1) := by decide +kernel
theorem dX9_leastOnWay_6 : decode cX9_leastOnWay 6 = .ok (.getfield 256, 3) := by decide +kernel
theorem dX9_leastOnWay_9 : decode cX9_leastOnWay 9 = .ok (.if_icmp .ge 41, 3) := by decide +kernel
theorem dX9_leastOnWay_12 : decode cX9_leastOnWay 12 = .ok (.aload_n 0, 1) := by decide +kernel
theorem dX9_leastOnWay_13 : decode cX9_leastOnWay 13 = .ok (.getfield 19, 3) := by decide +kernel
theorem dX9_leastOnWay_16 : decode cX9_leastOnWay 16 = .ok (.bipush 6, 2) := by decide +kernel
theorem dX9_leastOnWay_18 : decode cX9_leastOnWay 18 = .ok (.aload_n 0, 1) := by decide +kernel
theorem dX9_leastOnWay_19 : decode cX9_leastOnWay 19 = .ok (.getfield 64, 3) := by decide +kernel
theorem dX9_leastOnWay_22 : decode cX9_leastOnWay 22 = .ok (.iload_n 2, 1) := by decide +kernel
theorem dX9_leastOnWay_23 : decode cX9_leastOnWay 23 = .ok (.iaload, 1) := by decide +kernel
theorem dX9_leastOnWay_24 : decode cX9_leastOnWay 24 = .ok (.imul, 1) := by decide +kernel
theorem dX9_leastOnWay_25 : decode cX9_leastOnWay 25 = .ok (.iconst 2, 1) := by decide +kernel
theorem dX9_leastOnWay_26 : decode cX9_leastOnWay 26 = .ok (.iadd, 1) := by decide +kernel
theorem dX9_leastOnWay_27 : decode cX9_leastOnWay 27 = .ok (.iaload, 1) := by decide +kernel
theorem dX9_leastOnWay_28 : decode cX9_leastOnWay 28 = .ok (.istore_n 3, 1) := by decide +kernel
theorem dX9_leastOnWay_29 : decode cX9_leastOnWay 29 = .ok (.iload_n 2, 1) := by decide +kernel
theorem dX9_leastOnWay_30 : decode cX9_leastOnWay 30 = .ok (.ifCond .eq 8, 3) := by decide +kernel
theorem dX9_leastOnWay_33 : decode cX9_leastOnWay 33 = .ok (.iload_n 3, 1) := by decide +kernel
theorem dX9_leastOnWay_34 : decode cX9_leastOnWay 34 = .ok (.iload_n 1, 1) := by decide +kernel
theorem dX9_leastOnWay_35 : decode cX9_leastOnWay 35 = .ok (.if_icmp .ge 7, 3) := by decide +kernel
theorem dX9_leastOnWay_38 : decode cX9_leastOnWay 38 = .ok (.iload_n 3, 1) := by decide +kernel
theorem dX9_leastOnWay_39 : decode cX9_leastOnWay 39 = .ok (.goto 4, 3) := by decide +kernel
theorem dX9_leastOnWay_42 : decode cX9_leastOnWay 42 = .ok (.iload_n 1, 1) := by decide +kernel
theorem dX9_leastOnWay_43 : decode cX9_leastOnWay 43 = .ok (.istore_n 1, 1) := by decide +kernel
theorem dX9_leastOnWay_44 : decode cX9_leastOnWay 44 = .ok (.iinc 2 1, 3) := by decide +kernel
theorem dX9_leastOnWay_47 : decode cX9_leastOnWay 47 = .ok (.goto (-43), 3) := by decide +kernel
theorem dX9_leastOnWay_50 : decode cX9_leastOnWay 50 = .ok (.iload_n 1, 1) := by decide +kernel
theorem dX9_leastOnWay_51 : decode cX9_leastOnWay 51 = .ok (.ireturn, 1) := by decide +kernel
theorem dX9_ring_0 : decode cX9_ring 0 = .ok (.iload_n 1, 1) := by decide +kernel
theorem dX9_ring_1 : decode cX9_ring 1 = .ok (.iconst 0, 1) := by decide +kernel
theorem dX9_ring_2 : decode cX9_ring 2 = .ok (.iconst 1, 1) := by decide +kernel
theorem dX9_ring_3 : decode cX9_ring 3 = .ok (.invokestatic 84, 3) := by decide +kernel
theorem dX9_ring_6 : decode cX9_ring 6 = .ok (.ifCond .ne 6, 3) := by decide +kernel
theorem dX9_ring_9 : decode cX9_ring 9 = .ok (.bipush (-2), 2) := by decide +kernel
theorem dX9_ring_11 : decode cX9_ring 11 = .ok (.ireturn, 1) := by decide +kernel
theorem dX9_ring_12 : decode cX9_ring 12 = .ok (.iconst 0, 1) := by decide +kernel
theorem dX9_ring_13 : decode cX9_ring 13 = .ok (.istore_n 2, 1) := by decide +kernel
theorem dX9_ring_14 : decode cX9_ring 14 = .ok (.aload_n 0, 1) := by decide +kernel
theorem dX9_ring_15 : decode cX9_ring 15 = .ok (.invokevirtual 259, 3) := by decide +kernel
theorem dX9_ring_18 : decode cX9_ring 18 = .ok (.pop, 1) := by decide +kernel
theorem dX9_ring_19 : decode cX9_ring 19 = .ok (.iconst 0, 1) := by decide +kernel
theorem dX9_ring_20 : decode cX9_ring 20 = .ok (.istore_n 3, 1) := by decide +kernel
theorem dX9_ring_21 : decode cX9_ring 21 = .ok (.iload_n 3, 1) := by decide +kernel
theorem dX9_ring_22 : decode cX9_ring 22 = .ok (.aload_n 0, 1) := by decide +kernel
theorem dX9_ring_23 : decode cX9_ring 23 = .ok (.getfield 256, 3) := by decide +kernel
theorem dX9_ring_26 : decode cX9_ring 26 = .ok (.if_icmp .ge 20, 3) := by decide +kernel
theorem dX9_ring_29 : decode cX9_ring 29 = .ok (.iload_n 2, 1) := by decide +kernel
theorem dX9_ring_30 : decode cX9_ring 30 = .ok (.iconst 1, 1) := by decide +kernel
theorem dX9_ring_31 : decode cX9_ring 31 = .ok (.aload_n 0, 1) := by decide +kernel
theorem dX9_ring_32 : decode cX9_ring 32 = .ok (.getfield 64, 3) := by decide +kernel
theorem dX9_ring_35 : decode cX9_ring 35 = .ok (.iload_n 3, 1) := by decide +kernel
theorem dX9_ring_36 : decode cX9_ring 36 = .ok (.iaload, 1) := by decide +kernel
theorem dX9_ring_37 : decode cX9_ring 37 = .ok (.ishl, 1) := by decide +kernel
theorem dX9_ring_38 : decode cX9_ring 38 = .ok (.ior, 1) := by decide +kernel
theorem dX9_ring_39 : decode cX9_ring 39 = .ok (.istore_n 2, 1) := by decide +kernel
theorem dX9_ring_40 : decode cX9_ring 40 = .ok (.iinc 3 1, 3) := by decide +kernel
theorem dX9_ring_43 : decode cX9_ring 43 = .ok (.goto (-22), 3) := by decide +kernel
theorem dX9_ring_46 : decode cX9_ring 46 = .ok (.iload_n 1, 1) := by decide +kernel
theorem dX9_ring_47 : decode cX9_ring 47 = .ok (.ifCond .ne 7, 3) := by decide +kernel
theorem dX9_ring_50 : decode cX9_ring 50 = .ok (.iload_n 2, 1) := by decide +kernel
theorem dX9_ring_51 : decode cX9_ring 51 = .ok (.goto 7, 3) := by decide +kernel
theorem dX9_ring_54 : decode cX9_ring 54 = .ok (.aload_n 0, 1) := by decide +kernel
theorem dX9_ring_55 : decode cX9_ring 55 = .ok (.invokevirtual 262, 3) := by decide +kernel
theorem dX9_ring_58 : decode cX9_ring 58 = .ok (.ireturn, 1) := by decide +kernel
theorem dX9_clears_0 : decode cX9_clears 0 = .ok (.aload_n 0, 1) := by decide +kernel
theorem dX9_clears_1 : decode cX9_clears 1 = .ok (.getfield 19, 3) := by decide +kernel
theorem dX9_clears_4 : decode cX9_clears 4 = .ok (.bipush 6, 2) := by decide +kernel
theorem dX9_clears_6 : decode cX9_clears 6 = .ok (.iload_n 1, 1) := by decide +kernel
theorem dX9_clears_7 : decode cX9_clears 7 = .ok (.imul, 1) := by decide +kernel
theorem dX9_clears_8 : decode cX9_clears 8 = .ok (.iconst 4, 1) := by decide +kernel
theorem dX9_clears_9 : decode cX9_clears 9 = .ok (.iadd, 1) := by decide +kernel
theorem dX9_clears_10 : decode cX9_clears 10 = .ok (.iaload, 1) := by decide +kernel
theorem dX9_clears_11 : decode cX9_clears 11 = .ok (.istore_n 2, 1) := by decide +kernel
theorem dX9_clears_12 : decode cX9_clears 12 = .ok (.aload_n 0, 1) := by decide +kernel
theorem dX9_clears_13 : decode cX9_clears 13 = .ok (.getfield 19, 3) := by decide +kernel
theorem dX9_clears_16 : decode cX9_clears 16 = .ok (.bipush 6, 2) := by decide +kernel
theorem dX9_clears_18 : decode cX9_clears 18 = .ok (.iload_n 1, 1) := by decide +kernel
theorem dX9_clears_19 : decode cX9_clears 19 = .ok (.imul, 1) := by decide +kernel
theorem dX9_clears_20 : decode cX9_clears 20 = .ok (.iconst 5, 1) := by decide +kernel
theorem dX9_clears_21 : decode cX9_clears 21 = .ok (.iadd, 1) := by decide +kernel
theorem dX9_clears_22 : decode cX9_clears 22 = .ok (.iconst 3, 1) := by decide +kernel
theorem dX9_clears_23 : decode cX9_clears 23 = .ok (.iastore, 1) := by decide +kernel
theorem dX9_clears_24 : decode cX9_clears 24 = .ok (.aload_n 0, 1) := by decide +kernel
theorem dX9_clears_25 : decode cX9_clears 25 = .ok (.getfield 19, 3) := by decide +kernel
theorem dX9_clears_28 : decode cX9_clears 28 = .ok (.bipush 6, 2) := by decide +kernel
theorem dX9_clears_30 : decode cX9_clears 30 = .ok (.iload_n 1, 1) := by decide +kernel
theorem dX9_clears_31 : decode cX9_clears 31 = .ok (.imul, 1) := by decide +kernel
theorem dX9_clears_32 : decode cX9_clears 32 = .ok (.iconst 4, 1) := by decide +kernel
theorem dX9_clears_33 : decode cX9_clears 33 = .ok (.iadd, 1) := by decide +kernel
theorem dX9_clears_34 : decode cX9_clears 34 = .ok (.iconst (-1), 1) := by decide +kernel
theorem dX9_clears_35 : decode cX9_clears 35 = .ok (.iastore, 1) := by decide +kernel
theorem dX9_clears_36 : decode cX9_clears 36 = .ok (.iload_n 2, 1) := by decide +kernel
theorem dX9_clears_37 : decode cX9_clears 37 = .ok (.iconst (-1), 1) := by decide +kernel
theorem dX9_clears_38 : decode cX9_clears 38 = .ok (.if_icmp .eq 15, 3) := by decide +kernel
theorem dX9_clears_41 : decode cX9_clears 41 = .ok (.aload_n 0, 1) := by decide +kernel
theorem dX9_clears_42 : decode cX9_clears 42 = .ok (.getfield 19, 3) := by decide +kernel
theorem dX9_clears_45 : decode cX9_clears 45 = .ok (.bipush 6, 2) := by decide +kernel
theorem dX9_clears_47 : decode cX9_clears 47 = .ok (.iload_n 2, 1) := by decide +kernel
theorem dX9_clears_48 : decode cX9_clears 48 = .ok (.imul, 1) := by decide +kernel
theorem dX9_clears_49 : decode cX9_clears 49 = .ok (.iconst 4, 1) := by decide +kernel
theorem dX9_clears_50 : decode cX9_clears 50 = .ok (.iadd, 1) := by decide +kernel
theorem dX9_clears_51 : decode cX9_clears 51 = .ok (.iconst (-1), 1) := by decide +kernel
theorem dX9_clears_52 : decode cX9_clears 52 = .ok (.iastore, 1) := by decide +kernel
theorem dX9_clears_53 : decode cX9_clears 53 = .ok (.return_, 1) := by decide +kernel
theorem dX9_clear_0 : decode cX9_clear 0 = .ok (.iconst 0, 1) := by decide +kernel
theorem dX9_clear_1 : decode cX9_clear 1 = .ok (.istore_n 1, 1) := by decide +kernel
theorem dX9_clear_2 : decode cX9_clear 2 = .ok (.aload_n 0, 1) := by decide +kernel
theorem dX9_clear_3 : decode cX9_clear 3 = .ok (.invokevirtual 259, 3) := by decide +kernel
theorem dX9_clear_6 : decode cX9_clear 6 = .ok (.ifCond .eq 80, 3) := by decide +kernel
theorem dX9_clear_9 : decode cX9_clear 9 = .ok (.aload_n 0, 1) := by decide +kernel
theorem dX9_clear_10 : decode cX9_clear 10 = .ok (.invokevirtual 262, 3) := by decide +kernel
theorem dX9_clear_13 : decode cX9_clear 13 = .ok (.istore_n 2, 1) := by decide +kernel
theorem dX9_clear_14 : decode cX9_clear 14 = .ok (.iload_n 1, 1) := by decide +kernel
theorem dX9_clear_15 : decode cX9_clear 15 = .ok (.iload_n 2, 1) := by decide +kernel
theorem dX9_clear_16 : decode cX9_clear 16 = .ok (.aload_n 0, 1) := by decide +kernel
theorem dX9_clear_17 : decode cX9_clear 17 = .ok (.getfield 256, 3) := by decide +kernel
theorem dX9_clear_20 : decode cX9_clear 20 = .ok (.imul, 1) := by decide +kernel
theorem dX9_clear_21 : decode cX9_clear 21 = .ok (.iadd, 1) := by decide +kernel
theorem dX9_clear_22 : decode cX9_clear 22 = .ok (.istore_n 1, 1) := by decide +kernel
theorem dX9_clear_23 : decode cX9_clear 23 = .ok (.iconst 0, 1) := by decide +kernel
theorem dX9_clear_24 : decode cX9_clear 24 = .ok (.istore_n 3, 1) := by decide +kernel
theorem dX9_clear_25 : decode cX9_clear 25 = .ok (.iload_n 3, 1) := by decide +kernel
theorem dX9_clear_26 : decode cX9_clear 26 = .ok (.aload_n 0, 1) := by decide +kernel
theorem dX9_clear_27 : decode cX9_clear 27 = .ok (.getfield 256, 3) := by decide +kernel
theorem dX9_clear_30 : decode cX9_clear 30 = .ok (.if_icmp .ge 53, 3) := by decide +kernel
theorem dX9_clear_33 : decode cX9_clear 33 = .ok (.bipush 6, 2) := by decide +kernel
theorem dX9_clear_35 : decode cX9_clear 35 = .ok (.aload_n 0, 1) := by decide +kernel
theorem dX9_clear_36 : decode cX9_clear 36 = .ok (.getfield 64, 3) := by decide +kernel
theorem dX9_clear_39 : decode cX9_clear 39 = .ok (.iload_n 3, 1) := by decide +kernel
theorem dX9_clear_40 : decode cX9_clear 40 = .ok (.iaload, 1) := by decide +kernel
theorem dX9_clear_41 : decode cX9_clear 41 = .ok (.imul, 1) := by decide +kernel
theorem dX9_clear_42 : decode cX9_clear 42 = .ok (.iconst 2, 1) := by decide +kernel
theorem dX9_clear_43 : decode cX9_clear 43 = .ok (.iadd, 1) := by decide +kernel
theorem dX9_clear_44 : decode cX9_clear 44 = .ok (.istore 4, 2) := by decide +kernel
theorem dX9_clear_46 : decode cX9_clear 46 = .ok (.aload_n 0, 1) := by decide +kernel
theorem dX9_clear_47 : decode cX9_clear 47 = .ok (.getfield 19, 3) := by decide +kernel
theorem dX9_clear_50 : decode cX9_clear 50 = .ok (.iload 4, 2) := by decide +kernel
theorem dX9_clear_52 : decode cX9_clear 52 = .ok (.dup2, 1) := by decide +kernel
theorem dX9_clear_53 : decode cX9_clear 53 = .ok (.iaload, 1) := by decide +kernel
theorem dX9_clear_54 : decode cX9_clear 54 = .ok (.iload_n 2, 1) := by decide +kernel
theorem dX9_clear_55 : decode cX9_clear 55 = .ok (.isub, 1) := by decide +kernel
theorem dX9_clear_56 : decode cX9_clear 56 = .ok (.iastore, 1) := by decide +kernel
theorem dX9_clear_57 : decode cX9_clear 57 = .ok (.aload_n 0, 1) := by decide +kernel
theorem dX9_clear_58 : decode cX9_clear 58 = .ok (.getfield 19, 3) := by decide +kernel
theorem dX9_clear_61 : decode cX9_clear 61 = .ok (.iload 4, 2) := by decide +kernel
theorem dX9_clear_63 : decode cX9_clear 63 = .ok (.iaload, 1) := by decide +kernel
theorem dX9_clear_64 : decode cX9_clear 64 = .ok (.ifCond .ne 13, 3) := by decide +kernel
theorem dX9_clear_67 : decode cX9_clear 67 = .ok (.aload_n 0, 1) := by decide +kernel
theorem dX9_clear_68 : decode cX9_clear 68 = .ok (.aload_n 0, 1) := by decide +kernel
theorem dX9_clear_69 : decode cX9_clear 69 = .ok (.getfield 64, 3) := by decide +kernel
theorem dX9_clear_72 : decode cX9_clear 72 = .ok (.iload_n 3, 1) := by decide +kernel
theorem dX9_clear_73 : decode cX9_clear 73 = .ok (.iaload, 1) := by decide +kernel
theorem dX9_clear_74 : decode cX9_clear 74 = .ok (.invokevirtual 265, 3) := by decide +kernel
theorem dX9_clear_77 : decode cX9_clear 77 = .ok (.iinc 3 1, 3) := by decide +kernel
theorem dX9_clear_80 : decode cX9_clear 80 = .ok (.goto (-55), 3) := by decide +kernel
theorem dX9_clear_83 : decode cX9_clear 83 = .ok (.goto (-81), 3) := by decide +kernel
theorem dX9_clear_86 : decode cX9_clear 86 = .ok (.iload_n 1, 1) := by decide +kernel
theorem dX9_clear_87 : decode cX9_clear 87 = .ok (.ireturn, 1) := by decide +kernel
theorem dX9_net_0 : decode cX9_net 0 = .ok (.aload_n 0, 1) := by decide +kernel
theorem dX9_net_1 : decode cX9_net 1 = .ok (.iload_n 1, 1) := by decide +kernel
theorem dX9_net_2 : decode cX9_net 2 = .ok (.invokevirtual 176, 3) := by decide +kernel
theorem dX9_net_5 : decode cX9_net 5 = .ok (.ifCond .ne 7, 3) := by decide +kernel
theorem dX9_net_8 : decode cX9_net 8 = .ok (.ldc_w 268, 3) := by decide +kernel
theorem dX9_net_11 : decode cX9_net 11 = .ok (.ireturn, 1) := by decide +kernel
theorem dX9_net_12 : decode cX9_net 12 = .ok (.aload_n 0, 1) := by decide +kernel
theorem dX9_net_13 : decode cX9_net 13 = .ok (.iload_n 1, 1) := by decide +kernel
theorem dX9_net_14 : decode cX9_net 14 = .ok (.invokevirtual 167, 3) := by decide +kernel
theorem dX9_net_17 : decode cX9_net 17 = .ok (.ineg, 1) := by decide +kernel
theorem dX9_net_18 : decode cX9_net 18 = .ok (.istore_n 2, 1) := by decide +kernel
theorem dX9_net_19 : decode cX9_net 19 = .ok (.iconst 0, 1) := by decide +kernel
theorem dX9_net_20 : decode cX9_net 20 = .ok (.istore_n 3, 1) := by decide +kernel
theorem dX9_net_21 : decode cX9_net 21 = .ok (.iload_n 3, 1) := by decide +kernel
theorem dX9_net_22 : decode cX9_net 22 = .ok (.aload_n 0, 1) := by decide +kernel
theorem dX9_net_23 : decode cX9_net 23 = .ok (.getfield 88, 3) := by decide +kernel
theorem dX9_net_26 : decode cX9_net 26 = .ok (.if_icmp .ge 50, 3) := by decide +kernel
theorem dX9_net_29 : decode cX9_net 29 = .ok (.iload_n 2, 1) := by decide +kernel
theorem dX9_net_30 : decode cX9_net 30 = .ok (.aload_n 0, 1) := by decide +kernel
theorem dX9_net_31 : decode cX9_net 31 = .ok (.getfield 19, 3) := by decide +kernel
theorem dX9_net_34 : decode cX9_net 34 = .ok (.bipush 6, 2) := by decide +kernel
theorem dX9_net_36 : decode cX9_net 36 = .ok (.iload_n 3, 1) := by decide +kernel
theorem dX9_net_37 : decode cX9_net 37 = .ok (.imul, 1) := by decide +kernel
theorem dX9_net_38 : decode cX9_net 38 = .ok (.iconst 1, 1) := by decide +kernel
theorem dX9_net_39 : decode cX9_net 39 = .ok (.iadd, 1) := by decide +kernel
theorem dX9_net_40 : decode cX9_net 40 = .ok (.iaload, 1) := by decide +kernel
theorem dX9_net_41 : decode cX9_net 41 = .ok (.iload_n 1, 1) := by decide +kernel
theorem dX9_net_42 : decode cX9_net 42 = .ok (.if_icmp .ne 25, 3) := by decide +kernel
theorem dX9_net_45 : decode cX9_net 45 = .ok (.aload_n 0, 1) := by decide +kernel
theorem dX9_net_46 : decode cX9_net 46 = .ok (.iload_n 3, 1) := by decide +kernel
theorem dX9_net_47 : decode cX9_net 47 = .ok (.invokevirtual 164, 3) := by decide +kernel
theorem dX9_net_50 : decode cX9_net 50 = .ok (.ifCond .eq 17, 3) := by decide +kernel
theorem dX9_net_53 : decode cX9_net 53 = .ok (.aload_n 0, 1) := by decide +kernel
theorem dX9_net_54 : decode cX9_net 54 = .ok (.getfield 19, 3) := by decide +kernel
theorem dX9_net_57 : decode cX9_net 57 = .ok (.bipush 6, 2) := by decide +kernel
theorem dX9_net_59 : decode cX9_net 59 = .ok (.iload_n 3, 1) := by decide +kernel
theorem dX9_net_60 : decode cX9_net 60 = .ok (.imul, 1) := by decide +kernel
theorem dX9_net_61 : decode cX9_net 61 = .ok (.iconst 2, 1) := by decide +kernel
theorem dX9_net_62 : decode cX9_net 62 = .ok (.iadd, 1) := by decide +kernel
theorem dX9_net_63 : decode cX9_net 63 = .ok (.iaload, 1) := by decide +kernel
theorem dX9_net_64 : decode cX9_net 64 = .ok (.goto 4, 3) := by decide +kernel
theorem dX9_net_67 : decode cX9_net 67 = .ok (.iconst 0, 1) := by decide +kernel
theorem dX9_net_68 : decode cX9_net 68 = .ok (.iadd, 1) := by decide +kernel
theorem dX9_net_69 : decode cX9_net 69 = .ok (.istore_n 2, 1) := by decide +kernel
theorem dX9_net_70 : decode cX9_net 70 = .ok (.iinc 3 1, 3) := by decide +kernel
theorem dX9_net_73 : decode cX9_net 73 = .ok (.goto (-52), 3) := by decide +kernel
theorem dX9_net_76 : decode cX9_net 76 = .ok (.iload_n 2, 1) := by decide +kernel
theorem dX9_net_77 : decode cX9_net 77 = .ok (.ireturn, 1) := by decide +kernel
theorem dX9_fallStep_0 : decode cX9_fallStep 0 = .ok (.iload_n 1, 1) := by decide +kernel
theorem dX9_fallStep_1 : decode cX9_fallStep 1 = .ok (.istore_n 2, 1) := by decide +kernel
theorem dX9_fallStep_2 : decode cX9_fallStep 2 = .ok (.iconst 0, 1) := by decide +kernel
theorem dX9_fallStep_3 : decode cX9_fallStep 3 = .ok (.istore_n 3, 1) := by decide +kernel
theorem dX9_fallStep_4 : decode cX9_fallStep 4 = .ok (.iload_n 3, 1) := by decide +kernel
theorem dX9_fallStep_5 : decode cX9_fallStep 5 = .ok (.aload_n 0, 1) := by decide +kernel
theorem dX9_fallStep_6 : decode cX9_fallStep 6 = .ok (.getfield 81, 3) := by decide +kernel
theorem dX9_fallStep_9 : decode cX9_fallStep 9 = .ok (.if_icmp .ge 137, 3) := by decide +kernel
theorem dX9_fallStep_12 : decode cX9_fallStep 12 = .ok (.aload_n 0, 1) := by decide +kernel
theorem dX9_fallStep_13 : decode cX9_fallStep 13 = .ok (.iload_n 3, 1) := by decide +kernel
theorem dX9_fallStep_14 : decode cX9_fallStep 14 = .ok (.aload_n 0, 1) := by decide +kernel
theorem dX9_fallStep_15 : decode cX9_fallStep 15 = .ok (.getfield 16, 3) := by decide +kernel
theorem dX9_fallStep_18 : decode cX9_fallStep 18 = .ok (.iconst 4, 1) := by decide +kernel
theorem dX9_fallStep_19 : decode cX9_fallStep 19 = .ok (.iload_n 3, 1) := by decide +kernel
theorem dX9_fallStep_20 : decode cX9_fallStep 20 = .ok (.imul, 1) := by decide +kernel
theorem dX9_fallStep_21 : decode cX9_fallStep 21 = .ok (.iaload, 1) := by decide +kernel
theorem dX9_fallStep_22 : decode cX9_fallStep 22 = .ok (.invokevirtual 182, 3) := by decide +kernel
theorem dX9_fallStep_25 : decode cX9_fallStep 25 = .ok (.istore 4, 2) := by decide +kernel
theorem dX9_fallStep_27 : decode cX9_fallStep 27 = .ok (.iconst 0, 1) := by decide +kernel
theorem dX9_fallStep_28 : decode cX9_fallStep 28 = .ok (.istore 5, 2) := by decide +kernel
theorem dX9_fallStep_30 : decode cX9_fallStep 30 = .ok (.iload 5, 2) := by decide +kernel
theorem dX9_fallStep_32 : decode cX9_fallStep 32 = .ok (.aload_n 0, 1) := by decide +kernel
theorem dX9_fallStep_33 : decode cX9_fallStep 33 = .ok (.getfield 88, 3) := by decide +kernel
theorem dX9_fallStep_36 : decode cX9_fallStep 36 = .ok (.if_icmp .ge 84, 3) := by decide +kernel
theorem dX9_fallStep_39 : decode cX9_fallStep 39 = .ok (.aload_n 0, 1) := by decide +kernel
theorem dX9_fallStep_40 : decode cX9_fallStep 40 = .ok (.getfield 19, 3) := by decide +kernel
theorem dX9_fallStep_43 : decode cX9_fallStep 43 = .ok (.bipush 6, 2) := by decide +kernel
theorem dX9_fallStep_45 : decode cX9_fallStep 45 = .ok (.iload 5, 2) := by decide +kernel
theorem dX9_fallStep_47 : decode cX9_fallStep 47 = .ok (.imul, 1) := by decide +kernel
theorem dX9_fallStep_48 : decode cX9_fallStep 48 = .ok (.iconst 1, 1) := by decide +kernel
theorem dX9_fallStep_49 : decode cX9_fallStep 49 = .ok (.iadd, 1) := by decide +kernel
theorem dX9_fallStep_50 : decode cX9_fallStep 50 = .ok (.iaload, 1) := by decide +kernel
theorem dX9_fallStep_51 : decode cX9_fallStep 51 = .ok (.iload_n 3, 1) := by decide +kernel
theorem dX9_fallStep_52 : decode cX9_fallStep 52 = .ok (.if_icmp .ne 33, 3) := by decide +kernel
theorem dX9_fallStep_55 : decode cX9_fallStep 55 = .ok (.aload_n 0, 1) := by decide +kernel
theorem dX9_fallStep_56 : decode cX9_fallStep 56 = .ok (.iload 5, 2) := by decide +kernel
theorem dX9_fallStep_58 : decode cX9_fallStep 58 = .ok (.invokevirtual 164, 3) := by decide +kernel
theorem dX9_fallStep_61 : decode cX9_fallStep 61 = .ok (.ifCond .eq 24, 3) := by decide +kernel
theorem dX9_fallStep_64 : decode cX9_fallStep 64 = .ok (.iload_n 1, 1) := by decide +kernel
theorem dX9_fallStep_65 : decode cX9_fallStep 65 = .ok (.aload_n 0, 1) := by decide +kernel
theorem dX9_fallStep_66 : decode cX9_fallStep 66 = .ok (.getfield 19, 3) := by decide +kernel
theorem dX9_fallStep_69 : decode cX9_fallStep 69 = .ok (.bipush 6, 2) := by decide +kernel
theorem dX9_fallStep_71 : decode cX9_fallStep 71 = .ok (.iload 5, 2) := by decide +kernel
theorem dX9_fallStep_73 : decode cX9_fallStep 73 = .ok (.imul, 1) := by decide +kernel
theorem dX9_fallStep_74 : decode cX9_fallStep 74 = .ok (.iaload, 1) := by decide +kernel
theorem dX9_fallStep_75 : decode cX9_fallStep 75 = .ok (.ishr, 1) := by decide +kernel
theorem dX9_fallStep_76 : decode cX9_fallStep 76 = .ok (.iconst 1, 1) := by decide +kernel
theorem dX9_fallStep_77 : decode cX9_fallStep 77 = .ok (.iand, 1) := by decide +kernel
theorem dX9_fallStep_78 : decode cX9_fallStep 78 = .ok (.ifCond .ne 7, 3) := by decide +kernel
theorem dX9_fallStep_81 : decode cX9_fallStep 81 = .ok (.iconst 1, 1) := by decide +kernel
theorem dX9_fallStep_82 : decode cX9_fallStep 82 = .ok (.goto 4, 3) := by decide +kernel
theorem dX9_fallStep_85 : decode cX9_fallStep 85 = .ok (.iconst 0, 1) := by decide +kernel
theorem dX9_fallStep_86 : decode cX9_fallStep 86 = .ok (.istore 6, 2) := by decide +kernel
theorem dX9_fallStep_88 : decode cX9_fallStep 88 = .ok (.iload 4, 2) := by decide +kernel
theorem dX9_fallStep_90 : decode cX9_fallStep 90 = .ok (.iload 6, 2) := by decide +kernel
theorem dX9_fallStep_92 : decode cX9_fallStep 92 = .ok (.ifCond .eq 18, 3) := by decide +kernel
theorem dX9_fallStep_95 : decode cX9_fallStep 95 = .ok (.aload_n 0, 1) := by decide +kernel
theorem dX9_fallStep_96 : decode cX9_fallStep 96 = .ok (.getfield 19, 3) := by decide +kernel
theorem dX9_fallStep_99 : decode cX9_fallStep 99 = .ok (.bipush 6, 2) := by decide +kernel
theorem dX9_fallStep_101 : decode cX9_fallStep 101 = .ok (.iload 5, 2) := by decide +kernel
theorem dX9_fallStep_103 : decode cX9_fallStep 103 = .ok (.imul, 1) := by decide +kernel
theorem dX9_fallStep_104 : decode cX9_fallStep 104 = .ok (.iconst 2, 1) := by decide +kernel
theorem dX9_fallStep_105 : decode cX9_fallStep 105 = .ok (.iadd, 1) := by decide +kernel
theorem dX9_fallStep_106 : decode cX9_fallStep 106 = .ok (.iaload, 1) := by decide +kernel
theorem dX9_fallStep_107 : decode cX9_fallStep 107 = .ok (.goto 4, 3) := by decide +kernel
theorem dX9_fallStep_110 : decode cX9_fallStep 110 = .ok (.iconst 0, 1) := by decide +kernel
theorem dX9_fallStep_111 : decode cX9_fallStep 111 = .ok (.iadd, 1) := by decide +kernel
theorem dX9_fallStep_112 : decode cX9_fallStep 112 = .ok (.istore 4, 2) := by decide +kernel
theorem dX9_fallStep_114 : decode cX9_fallStep 114 = .ok (.iinc 5 1, 3) := by decide +kernel
theorem dX9_fallStep_117 : decode cX9_fallStep 117 = .ok (.goto (-87), 3) := by decide +kernel
theorem dX9_fallStep_120 : decode cX9_fallStep 120 = .ok (.iload_n 2, 1) := by decide +kernel
theorem dX9_fallStep_121 : decode cX9_fallStep 121 = .ok (.iload 4, 2) := by decide +kernel
theorem dX9_fallStep_123 : decode cX9_fallStep 123 = .ok (.aload_n 0, 1) := by decide +kernel
theorem dX9_fallStep_124 : decode cX9_fallStep 124 = .ok (.iload_n 3, 1) := by decide +kernel
theorem dX9_fallStep_125 : decode cX9_fallStep 125 = .ok (.invokevirtual 167, 3) := by decide +kernel
theorem dX9_fallStep_128 : decode cX9_fallStep 128 = .ok (.if_icmp .ge 9, 3) := by decide +kernel
theorem dX9_fallStep_131 : decode cX9_fallStep 131 = .ok (.iconst 1, 1) := by decide +kernel
theorem dX9_fallStep_132 : decode cX9_fallStep 132 = .ok (.iload_n 3, 1) := by decide +kernel
theorem dX9_fallStep_133 : decode cX9_fallStep 133 = .ok (.ishl, 1) := by decide +kernel
theorem dX9_fallStep_134 : decode cX9_fallStep 134 = .ok (.goto 4, 3) := by decide +kernel
theorem dX9_fallStep_137 : decode cX9_fallStep 137 = .ok (.iconst 0, 1) := by decide +kernel
theorem dX9_fallStep_138 : decode cX9_fallStep 138 = .ok (.ior, 1) := by decide +kernel
theorem dX9_fallStep_139 : decode cX9_fallStep 139 = .ok (.istore_n 2, 1) := by decide +kernel
theorem dX9_fallStep_140 : decode cX9_fallStep 140 = .ok (.iinc 3 1, 3) := by decide +kernel
theorem dX9_fallStep_143 : decode cX9_fallStep 143 = .ok (.goto (-139), 3) := by decide +kernel
theorem dX9_fallStep_146 : decode cX9_fallStep 146 = .ok (.iload_n 2, 1) := by decide +kernel
theorem dX9_fallStep_147 : decode cX9_fallStep 147 = .ok (.ireturn, 1) := by decide +kernel
theorem dX9_fallen_0 : decode cX9_fallen 0 = .ok (.iload_n 1, 1) := by decide +kernel
theorem dX9_fallen_1 : decode cX9_fallen 1 = .ok (.istore_n 2, 1) := by decide +kernel
theorem dX9_fallen_2 : decode cX9_fallen 2 = .ok (.aload_n 0, 1) := by decide +kernel
theorem dX9_fallen_3 : decode cX9_fallen 3 = .ok (.iload_n 2, 1) := by decide +kernel
theorem dX9_fallen_4 : decode cX9_fallen 4 = .ok (.invokevirtual 269, 3) := by decide +kernel
theorem dX9_fallen_7 : decode cX9_fallen 7 = .ok (.istore_n 3, 1) := by decide +kernel
theorem dX9_fallen_8 : decode cX9_fallen 8 = .ok (.aload_n 0, 1) := by decide +kernel
theorem dX9_fallen_9 : decode cX9_fallen 9 = .ok (.iconst 0, 1) := by decide +kernel
theorem dX9_fallen_10 : decode cX9_fallen 10 = .ok (.putfield 272, 3) := by decide +kernel
theorem dX9_fallen_13 : decode cX9_fallen 13 = .ok (.iload_n 3, 1) := by decide +kernel
theorem dX9_fallen_14 : decode cX9_fallen 14 = .ok (.iload_n 2, 1) := by decide +kernel
theorem dX9_fallen_15 : decode cX9_fallen 15 = .ok (.if_icmp .eq 24, 3) := by decide +kernel
theorem dX9_fallen_18 : decode cX9_fallen 18 = .ok (.iload_n 3, 1) := by decide +kernel
theorem dX9_fallen_19 : decode cX9_fallen 19 = .ok (.istore_n 2, 1) := by decide +kernel
theorem dX9_fallen_20 : decode cX9_fallen 20 = .ok (.aload_n 0, 1) := by decide +kernel
theorem dX9_fallen_21 : decode cX9_fallen 21 = .ok (.dup, 1) := by decide +kernel
theorem dX9_fallen_22 : decode cX9_fallen 22 = .ok (.getfield 272, 3) := by decide +kernel
theorem dX9_fallen_25 : decode cX9_fallen 25 = .ok (.iconst 1, 1) := by decide +kernel
theorem dX9_fallen_26 : decode cX9_fallen 26 = .ok (.iadd, 1) := by decide +kernel
theorem dX9_fallen_27 : decode cX9_fallen 27 = .ok (.putfield 272, 3) := by decide +kernel
theorem dX9_fallen_30 : decode cX9_fallen 30 = .ok (.aload_n 0, 1) := by decide +kernel
theorem dX9_fallen_31 : decode cX9_fallen 31 = .ok (.iload_n 2, 1) := by decide +kernel
theorem dX9_fallen_32 : decode cX9_fallen 32 = .ok (.invokevirtual 269, 3) := by decide +kernel
theorem dX9_fallen_35 : decode cX9_fallen 35 = .ok (.istore_n 3, 1) := by decide +kernel
theorem dX9_fallen_36 : decode cX9_fallen 36 = .ok (.goto (-23), 3) := by decide +kernel
theorem dX9_fallen_39 : decode cX9_fallen 39 = .ok (.iload_n 2, 1) := by decide +kernel
theorem dX9_fallen_40 : decode cX9_fallen 40 = .ok (.ireturn, 1) := by decide +kernel
theorem dX9_falls_0 : decode cX9_falls 0 = .ok (.iload_n 1, 1) := by decide +kernel
theorem dX9_falls_1 : decode cX9_falls 1 = .ok (.iconst 0, 1) := by decide +kernel
theorem dX9_falls_2 : decode cX9_falls 2 = .ok (.iconst 1, 1) := by decide +kernel
theorem dX9_falls_3 : decode cX9_falls 3 = .ok (.aload_n 0, 1) := by decide +kernel
theorem dX9_falls_4 : decode cX9_falls 4 = .ok (.getfield 81, 3) := by decide +kernel
theorem dX9_falls_7 : decode cX9_falls 7 = .ok (.ishl, 1) := by decide +kernel
theorem dX9_falls_8 : decode cX9_falls 8 = .ok (.iconst 1, 1) := by decide +kernel
theorem dX9_falls_9 : decode cX9_falls 9 = .ok (.isub, 1) := by decide +kernel
theorem dX9_falls_10 : decode cX9_falls 10 = .ok (.invokestatic 84, 3) := by decide +kernel
theorem dX9_falls_13 : decode cX9_falls 13 = .ok (.ifCond .eq 12, 3) := by decide +kernel
theorem dX9_falls_16 : decode cX9_falls 16 = .ok (.iload_n 2, 1) := by decide +kernel
theorem dX9_falls_17 : decode cX9_falls 17 = .ok (.iconst 0, 1) := by decide +kernel
theorem dX9_falls_18 : decode cX9_falls 18 = .ok (.iconst 1, 1) := by decide +kernel
theorem dX9_falls_19 : decode cX9_falls 19 = .ok (.invokestatic 84, 3) := by decide +kernel
theorem dX9_falls_22 : decode cX9_falls 22 = .ok (.ifCond .ne 6, 3) := by decide +kernel
theorem dX9_falls_25 : decode cX9_falls 25 = .ok (.bipush (-2), 2) := by decide +kernel
theorem dX9_falls_27 : decode cX9_falls 27 = .ok (.ireturn, 1) := by decide +kernel
theorem dX9_falls_28 : decode cX9_falls 28 = .ok (.aload_n 0, 1) := by decide +kernel
theorem dX9_falls_29 : decode cX9_falls 29 = .ok (.iload_n 1, 1) := by decide +kernel
theorem dX9_falls_30 : decode cX9_falls 30 = .ok (.invokevirtual 275, 3) := by decide +kernel
theorem dX9_falls_33 : decode cX9_falls 33 = .ok (.istore_n 3, 1) := by decide +kernel
theorem dX9_falls_34 : decode cX9_falls 34 = .ok (.iload_n 2, 1) := by decide +kernel
theorem dX9_falls_35 : decode cX9_falls 35 = .ok (.ifCond .ne 7, 3) := by decide +kernel
theorem dX9_falls_38 : decode cX9_falls 38 = .ok (.iload_n 3, 1) := by decide +kernel
theorem dX9_falls_39 : decode cX9_falls 39 = .ok (.goto 7, 3) := by decide +kernel
theorem dX9_falls_42 : decode cX9_falls 42 = .ok (.aload_n 0, 1) := by decide +kernel
theorem dX9_falls_43 : decode cX9_falls 43 = .ok (.getfield 272, 3) := by decide +kernel
theorem dX9_falls_46 : decode cX9_falls 46 = .ok (.ireturn, 1) := by decide +kernel
theorem dX9_pillar_0 : decode cX9_pillar 0 = .ok (.iload_n 1, 1) := by decide +kernel
theorem dX9_pillar_1 : decode cX9_pillar 1 = .ok (.iconst 0, 1) := by decide +kernel
theorem dX9_pillar_2 : decode cX9_pillar 2 = .ok (.iconst 1, 1) := by decide +kernel
theorem dX9_pillar_3 : decode cX9_pillar 3 = .ok (.invokestatic 84, 3) := by decide +kernel
theorem dX9_pillar_6 : decode cX9_pillar 6 = .ok (.ifCond .ne 6, 3) := by decide +kernel
theorem dX9_pillar_9 : decode cX9_pillar 9 = .ok (.bipush (-2), 2) := by decide +kernel
theorem dX9_pillar_11 : decode cX9_pillar 11 = .ok (.ireturn, 1) := by decide +kernel
theorem dX9_pillar_12 : decode cX9_pillar 12 = .ok (.iconst (-1), 1) := by decide +kernel
theorem dX9_pillar_13 : decode cX9_pillar 13 = .ok (.istore_n 2, 1) := by decide +kernel
theorem dX9_pillar_14 : decode cX9_pillar 14 = .ok (.iconst (-1), 1) := by decide +kernel
theorem dX9_pillar_15 : decode cX9_pillar 15 = .ok (.istore_n 3, 1) := by decide +kernel
theorem dX9_pillar_16 : decode cX9_pillar 16 = .ok (.iconst 0, 1) := by decide +kernel
theorem dX9_pillar_17 : decode cX9_pillar 17 = .ok (.istore 4, 2) := by decide +kernel
theorem dX9_pillar_19 : decode cX9_pillar 19 = .ok (.iload 4, 2) := by decide +kernel
theorem dX9_pillar_21 : decode cX9_pillar 21 = .ok (.aload_n 0, 1) := by decide +kernel
theorem dX9_pillar_22 : decode cX9_pillar 22 = .ok (.getfield 81, 3) := by decide +kernel
theorem dX9_pillar_25 : decode cX9_pillar 25 = .ok (.if_icmp .ge 48, 3) := by decide +kernel
theorem dX9_pillar_28 : decode cX9_pillar 28 = .ok (.aload_n 0, 1) := by decide +kernel
theorem dX9_pillar_29 : decode cX9_pillar 29 = .ok (.iconst 1, 1) := by decide +kernel
theorem dX9_pillar_30 : decode cX9_pillar 30 = .ok (.iload 4, 2) := by decide +kernel
theorem dX9_pillar_32 : decode cX9_pillar 32 = .ok (.ishl, 1) := by decide +kernel
theorem dX9_pillar_33 : decode cX9_pillar 33 = .ok (.invokevirtual 275, 3) := by decide +kernel
theorem dX9_pillar_36 : decode cX9_pillar 36 = .ok (.invokestatic 278, 3) := by decide +kernel
theorem dX9_pillar_39 : decode cX9_pillar 39 = .ok (.istore 5, 2) := by decide +kernel
theorem dX9_pillar_41 : decode cX9_pillar 41 = .ok (.iload 5, 2) := by decide +kernel
theorem dX9_pillar_43 : decode cX9_pillar 43 = .ok (.iload_n 3, 1) := by decide +kernel
theorem dX9_pillar_44 : decode cX9_pillar 44 = .ok (.if_icmp .le 8, 3) := by decide +kernel
theorem dX9_pillar_47 : decode cX9_pillar 47 = .ok (.iload 4, 2) := by decide +kernel
theorem dX9_pillar_49 : decode cX9_pillar 49 = .ok (.goto 4, 3) := by decide +kernel
theorem dX9_pillar_52 : decode cX9_pillar 52 = .ok (.iload_n 2, 1) := by decide +kernel
theorem dX9_pillar_53 : decode cX9_pillar 53 = .ok (.istore_n 2, 1) := by decide +kernel
theorem dX9_pillar_54 : decode cX9_pillar 54 = .ok (.iload 5, 2) := by decide +kernel
theorem dX9_pillar_56 : decode cX9_pillar 56 = .ok (.iload_n 3, 1) := by decide +kernel
theorem dX9_pillar_57 : decode cX9_pillar 57 = .ok (.if_icmp .le 8, 3) := by decide +kernel
theorem dX9_pillar_60 : decode cX9_pillar 60 = .ok (.iload 5, 2) := by decide +kernel
theorem dX9_pillar_62 : decode cX9_pillar 62 = .ok (.goto 4, 3) := by decide +kernel
theorem dX9_pillar_65 : decode cX9_pillar 65 = .ok (.iload_n 3, 1) := by decide +kernel
theorem dX9_pillar_66 : decode cX9_pillar 66 = .ok (.istore_n 3, 1) := by decide +kernel
theorem dX9_pillar_67 : decode cX9_pillar 67 = .ok (.iinc 4 1, 3) := by decide +kernel
theorem dX9_pillar_70 : decode cX9_pillar 70 = .ok (.goto (-51), 3) := by decide +kernel
theorem dX9_pillar_73 : decode cX9_pillar 73 = .ok (.iload_n 1, 1) := by decide +kernel
theorem dX9_pillar_74 : decode cX9_pillar 74 = .ok (.ifCond .ne 7, 3) := by decide +kernel
theorem dX9_pillar_77 : decode cX9_pillar 77 = .ok (.iload_n 2, 1) := by decide +kernel
theorem dX9_pillar_78 : decode cX9_pillar 78 = .ok (.goto 4, 3) := by decide +kernel
theorem dX9_pillar_81 : decode cX9_pillar 81 = .ok (.iload_n 3, 1) := by decide +kernel
theorem dX9_pillar_82 : decode cX9_pillar 82 = .ok (.ireturn, 1) := by decide +kernel
theorem dX9_tells_0 : decode cX9_tells 0 = .ok (.iload_n 1, 1) := by decide +kernel
theorem dX9_tells_1 : decode cX9_tells 1 = .ok (.istore_n 2, 1) := by decide +kernel
theorem dX9_tells_2 : decode cX9_tells 2 = .ok (.iconst 0, 1) := by decide +kernel
theorem dX9_tells_3 : decode cX9_tells 3 = .ok (.istore_n 3, 1) := by decide +kernel
theorem dX9_tells_4 : decode cX9_tells 4 = .ok (.aload_n 0, 1) := by decide +kernel
theorem dX9_tells_5 : decode cX9_tells 5 = .ok (.getfield 281, 3) := by decide +kernel
theorem dX9_tells_8 : decode cX9_tells 8 = .ok (.iconst 1, 1) := by decide +kernel
theorem dX9_tells_9 : decode cX9_tells 9 = .ok (.isub, 1) := by decide +kernel
theorem dX9_tells_10 : decode cX9_tells 10 = .ok (.istore 4, 2) := by decide +kernel
theorem dX9_tells_12 : decode cX9_tells 12 = .ok (.iload 4, 2) := by decide +kernel
theorem dX9_tells_14 : decode cX9_tells 14 = .ok (.ifCond .lt 53, 3) := by decide +kernel
theorem dX9_tells_17 : decode cX9_tells 17 = .ok (.aload_n 0, 1) := by decide +kernel
theorem dX9_tells_18 : decode cX9_tells 18 = .ok (.getfield 70, 3) := by decide +kernel
theorem dX9_tells_21 : decode cX9_tells 21 = .ok (.iload 4, 2) := by decide +kernel
theorem dX9_tells_23 : decode cX9_tells 23 = .ok (.iload_n 2, 1) := by decide +kernel
theorem dX9_tells_24 : decode cX9_tells 24 = .ok (.aload_n 0, 1) := by decide +kernel
theorem dX9_tells_25 : decode cX9_tells 25 = .ok (.getfield 281, 3) := by decide +kernel
theorem dX9_tells_28 : decode cX9_tells 28 = .ok (.iconst 1, 1) := by decide +kernel
theorem dX9_tells_29 : decode cX9_tells 29 = .ok (.bipush 6, 2) := by decide +kernel
theorem dX9_tells_31 : decode cX9_tells 31 = .ok (.invokestatic 173, 3) := by decide +kernel
theorem dX9_tells_34 : decode cX9_tells 34 = .ok (.irem, 1) := by decide +kernel
theorem dX9_tells_35 : decode cX9_tells 35 = .ok (.iastore, 1) := by decide +kernel
theorem dX9_tells_36 : decode cX9_tells 36 = .ok (.iload_n 2, 1) := by decide +kernel
theorem dX9_tells_37 : decode cX9_tells 37 = .ok (.aload_n 0, 1) := by decide +kernel
theorem dX9_tells_38 : decode cX9_tells 38 = .ok (.getfield 281, 3) := by decide +kernel
theorem dX9_tells_41 : decode cX9_tells 41 = .ok (.iconst 1, 1) := by decide +kernel
theorem dX9_tells_42 : decode cX9_tells 42 = .ok (.bipush 6, 2) := by decide +kernel
theorem dX9_tells_44 : decode cX9_tells 44 = .ok (.invokestatic 173, 3) := by decide +kernel
theorem dX9_tells_47 : decode cX9_tells 47 = .ok (.idiv, 1) := by decide +kernel
theorem dX9_tells_48 : decode cX9_tells 48 = .ok (.istore_n 2, 1) := by decide +kernel
theorem dX9_tells_49 : decode cX9_tells 49 = .ok (.iload_n 3, 1) := by decide +kernel
theorem dX9_tells_50 : decode cX9_tells 50 = .ok (.iconst 1, 1) := by decide +kernel
theorem dX9_tells_51 : decode cX9_tells 51 = .ok (.aload_n 0, 1) := by decide +kernel
theorem dX9_tells_52 : decode cX9_tells 52 = .ok (.getfield 70, 3) := by decide +kernel
theorem dX9_tells_55 : decode cX9_tells 55 = .ok (.iload 4, 2) := by decide +kernel
theorem dX9_tells_57 : decode cX9_tells 57 = .ok (.iaload, 1) := by decide +kernel
theorem dX9_tells_58 : decode cX9_tells 58 = .ok (.ishl, 1) := by decide +kernel
theorem dX9_tells_59 : decode cX9_tells 59 = .ok (.ior, 1) := by decide +kernel
theorem dX9_tells_60 : decode cX9_tells 60 = .ok (.istore_n 3, 1) := by decide +kernel
theorem dX9_tells_61 : decode cX9_tells 61 = .ok (.iinc 4 (-1), 3) := by decide +kernel
theorem dX9_tells_64 : decode cX9_tells 64 = .ok (.goto (-52), 3) := by decide +kernel
theorem dX9_tells_67 : decode cX9_tells 67 = .ok (.iload_n 3, 1) := by decide +kernel
theorem dX9_tells_68 : decode cX9_tells 68 = .ok (.iconst 1, 1) := by decide +kernel
theorem dX9_tells_69 : decode cX9_tells 69 = .ok (.aload_n 0, 1) := by decide +kernel
theorem dX9_tells_70 : decode cX9_tells 70 = .ok (.getfield 281, 3) := by decide +kernel
theorem dX9_tells_73 : decode cX9_tells 73 = .ok (.ishl, 1) := by decide +kernel
theorem dX9_tells_74 : decode cX9_tells 74 = .ok (.iconst 1, 1) := by decide +kernel
theorem dX9_tells_75 : decode cX9_tells 75 = .ok (.isub, 1) := by decide +kernel
theorem dX9_tells_76 : decode cX9_tells 76 = .ok (.if_icmp .ne 7, 3) := by decide +kernel
theorem dX9_tells_79 : decode cX9_tells 79 = .ok (.iconst 1, 1) := by decide +kernel
theorem dX9_tells_80 : decode cX9_tells 80 = .ok (.goto 4, 3) := by decide +kernel
theorem dX9_tells_83 : decode cX9_tells 83 = .ok (.iconst 0, 1) := by decide +kernel
theorem dX9_tells_84 : decode cX9_tells 84 = .ok (.ireturn, 1) := by decide +kernel
theorem dX9_waits_0 : decode cX9_waits 0 = .ok (.iconst 0, 1) := by decide +kernel
theorem dX9_waits_1 : decode cX9_waits 1 = .ok (.istore_n 2, 1) := by decide +kernel
theorem dX9_waits_2 : decode cX9_waits 2 = .ok (.iconst 0, 1) := by decide +kernel
theorem dX9_waits_3 : decode cX9_waits 3 = .ok (.istore_n 3, 1) := by decide +kernel
theorem dX9_waits_4 : decode cX9_waits 4 = .ok (.iconst 0, 1) := by decide +kernel
theorem dX9_waits_5 : decode cX9_waits 5 = .ok (.istore 4, 2) := by decide +kernel
theorem dX9_waits_7 : decode cX9_waits 7 = .ok (.iload 4, 2) := by decide +kernel
theorem dX9_waits_9 : decode cX9_waits 9 = .ok (.aload_n 0, 1) := by decide +kernel
theorem dX9_waits_10 : decode cX9_waits 10 = .ok (.getfield 281, 3) := by decide +kernel
theorem dX9_waits_13 : decode cX9_waits 13 = .ok (.if_icmp .ge 63, 3) := by decide +kernel
theorem dX9_waits_16 : decode cX9_waits 16 = .ok (.aload_n 0, 1) := by decide +kernel
theorem dX9_waits_17 : decode cX9_waits 17 = .ok (.getfield 67, 3) := by decide +kernel
theorem dX9_waits_20 : decode cX9_waits 20 = .ok (.aload_n 0, 1) := by decide +kernel
theorem dX9_waits_21 : decode cX9_waits 21 = .ok (.getfield 70, 3) := by decide +kernel
theorem dX9_waits_24 : decode cX9_waits 24 = .ok (.iload 4, 2) := by decide +kernel
theorem dX9_waits_26 : decode cX9_waits 26 = .ok (.iaload, 1) := by decide +kernel
theorem dX9_waits_27 : decode cX9_waits 27 = .ok (.iaload, 1) := by decide +kernel
theorem dX9_waits_28 : decode cX9_waits 28 = .ok (.istore 5, 2) := by decide +kernel
theorem dX9_waits_30 : decode cX9_waits 30 = .ok (.iload_n 3, 1) := by decide +kernel
theorem dX9_waits_31 : decode cX9_waits 31 = .ok (.iload_n 1, 1) := by decide +kernel
theorem dX9_waits_32 : decode cX9_waits 32 = .ok (.ifCond .ne 7, 3) := by decide +kernel
theorem dX9_waits_35 : decode cX9_waits 35 = .ok (.iload_n 2, 1) := by decide +kernel
theorem dX9_waits_36 : decode cX9_waits 36 = .ok (.goto 16, 3) := by decide +kernel
theorem dX9_waits_39 : decode cX9_waits 39 = .ok (.iload_n 2, 1) := by decide +kernel
theorem dX9_waits_40 : decode cX9_waits 40 = .ok (.aload_n 0, 1) := by decide +kernel
theorem dX9_waits_41 : decode cX9_waits 41 = .ok (.getfield 16, 3) := by decide +kernel
theorem dX9_waits_44 : decode cX9_waits 44 = .ok (.iconst 4, 1) := by decide +kernel
theorem dX9_waits_45 : decode cX9_waits 45 = .ok (.iload 5, 2) := by decide +kernel
theorem dX9_waits_47 : decode cX9_waits 47 = .ok (.imul, 1) := by decide +kernel
theorem dX9_waits_48 : decode cX9_waits 48 = .ok (.iconst 2, 1) := by decide +kernel
theorem dX9_waits_49 : decode cX9_waits 49 = .ok (.iadd, 1) := by decide +kernel
theorem dX9_waits_50 : decode cX9_waits 50 = .ok (.iaload, 1) := by decide +kernel
theorem dX9_waits_51 : decode cX9_waits 51 = .ok (.imul, 1) := by decide +kernel
theorem dX9_waits_52 : decode cX9_waits 52 = .ok (.iadd, 1) := by decide +kernel
theorem dX9_waits_53 : decode cX9_waits 53 = .ok (.istore_n 3, 1) := by decide +kernel
theorem dX9_waits_54 : decode cX9_waits 54 = .ok (.iload_n 2, 1) := by decide +kernel
theorem dX9_waits_55 : decode cX9_waits 55 = .ok (.aload_n 0, 1) := by decide +kernel
theorem dX9_waits_56 : decode cX9_waits 56 = .ok (.iconst 1, 1) := by decide +kernel
theorem dX9_waits_57 : decode cX9_waits 57 = .ok (.iload 5, 2) := by decide +kernel
theorem dX9_waits_59 : decode cX9_waits 59 = .ok (.aload_n 0, 1) := by decide +kernel
theorem dX9_waits_60 : decode cX9_waits 60 = .ok (.getfield 91, 3) := by decide +kernel
theorem dX9_waits_63 : decode cX9_waits 63 = .ok (.invokevirtual 179, 3) := by decide +kernel
theorem dX9_waits_66 : decode cX9_waits 66 = .ok (.iconst 1, 1) := by decide +kernel
theorem dX9_waits_67 : decode cX9_waits 67 = .ok (.iadd, 1) := by decide +kernel
theorem dX9_waits_68 : decode cX9_waits 68 = .ok (.iadd, 1) := by decide +kernel
theorem dX9_waits_69 : decode cX9_waits 69 = .ok (.istore_n 2, 1) := by decide +kernel
theorem dX9_waits_70 : decode cX9_waits 70 = .ok (.iinc 4 1, 3) := by decide +kernel
theorem dX9_waits_73 : decode cX9_waits 73 = .ok (.goto (-66), 3) := by decide +kernel
theorem dX9_waits_76 : decode cX9_waits 76 = .ok (.iload_n 3, 1) := by decide +kernel
theorem dX9_waits_77 : decode cX9_waits 77 = .ok (.ireturn, 1) := by decide +kernel
theorem dX9_day_0 : decode cX9_day 0 = .ok (.iload_n 1, 1) := by decide +kernel
theorem dX9_day_1 : decode cX9_day 1 = .ok (.iconst 0, 1) := by decide +kernel
theorem dX9_day_2 : decode cX9_day 2 = .ok (.iconst 1, 1) := by decide +kernel
theorem dX9_day_3 : decode cX9_day 3 = .ok (.invokestatic 84, 3) := by decide +kernel
theorem dX9_day_6 : decode cX9_day 6 = .ok (.ifCond .eq 12, 3) := by decide +kernel
theorem dX9_day_9 : decode cX9_day 9 = .ok (.iload_n 2, 1) := by decide +kernel
theorem dX9_day_10 : decode cX9_day 10 = .ok (.iconst 0, 1) := by decide +kernel
theorem dX9_day_11 : decode cX9_day 11 = .ok (.iconst 1, 1) := by decide +kernel
theorem dX9_day_12 : decode cX9_day 12 = .ok (.invokestatic 84, 3) := by decide +kernel
theorem dX9_day_15 : decode cX9_day 15 = .ok (.ifCond .ne 6, 3) := by decide +kernel
theorem dX9_day_18 : decode cX9_day 18 = .ok (.bipush (-2), 2) := by decide +kernel
theorem dX9_day_20 : decode cX9_day 20 = .ok (.ireturn, 1) := by decide +kernel
theorem dX9_day_21 : decode cX9_day 21 = .ok (.iconst 1, 1) := by decide +kernel
theorem dX9_day_22 : decode cX9_day 22 = .ok (.istore_n 3, 1) := by decide +kernel
theorem dX9_day_23 : decode cX9_day 23 = .ok (.aload_n 0, 1) := by decide +kernel
theorem dX9_day_24 : decode cX9_day 24 = .ok (.iconst 0, 1) := by decide +kernel
theorem dX9_day_25 : decode cX9_day 25 = .ok (.putfield 281, 3) := by decide +kernel
theorem dX9_day_28 : decode cX9_day 28 = .ok (.iconst 0, 1) := by decide +kernel
theorem dX9_day_29 : decode cX9_day 29 = .ok (.istore 4, 2) := by decide +kernel
theorem dX9_day_31 : decode cX9_day 31 = .ok (.iload 4, 2) := by decide +kernel
theorem dX9_day_33 : decode cX9_day 33 = .ok (.aload_n 0, 1) := by decide +kernel
theorem dX9_day_34 : decode cX9_day 34 = .ok (.getfield 81, 3) := by decide +kernel
theorem dX9_day_37 : decode cX9_day 37 = .ok (.if_icmp .ge 44, 3) := by decide +kernel
theorem dX9_day_40 : decode cX9_day 40 = .ok (.aload_n 0, 1) := by decide +kernel
theorem dX9_day_41 : decode cX9_day 41 = .ok (.getfield 16, 3) := by decide +kernel
theorem dX9_day_44 : decode cX9_day 44 = .ok (.iconst 4, 1) := by decide +kernel
theorem dX9_day_45 : decode cX9_day 45 = .ok (.iload 4, 2) := by decide +kernel
theorem dX9_day_47 : decode cX9_day 47 = .ok (.imul, 1) := by decide +kernel
theorem dX9_day_48 : decode cX9_day 48 = .ok (.iconst 3, 1) := by decide +kernel
theorem dX9_day_49 : decode cX9_day 49 = .ok (.iadd, 1) := by decide +kernel
theorem dX9_day_50 : decode cX9_day 50 = .ok (.iaload, 1) := by decide +kernel
theorem dX9_day_51 : decode cX9_day 51 = .ok (.ifCond .ne 24, 3) := by decide +kernel
theorem dX9_day_54 : decode cX9_day 54 = .ok (.aload_n 0, 1) := by decide +kernel
theorem dX9_day_55 : decode cX9_day 55 = .ok (.getfield 67, 3) := by decide +kernel
theorem dX9_day_58 : decode cX9_day 58 = .ok (.aload_n 0, 1) := by decide +kernel
theorem dX9_day_59 : decode cX9_day 59 = .ok (.getfield 281, 3) := by decide +kernel
theorem dX9_day_62 : decode cX9_day 62 = .ok (.iload 4, 2) := by decide +kernel
theorem dX9_day_64 : decode cX9_day 64 = .ok (.iastore, 1) := by decide +kernel
theorem dX9_day_65 : decode cX9_day 65 = .ok (.aload_n 0, 1) := by decide +kernel
theorem dX9_day_66 : decode cX9_day 66 = .ok (.dup, 1) := by decide +kernel
theorem dX9_day_67 : decode cX9_day 67 = .ok (.getfield 281, 3) := by decide +kernel
theorem dX9_day_70 : decode cX9_day 70 = .ok (.iconst 1, 1) := by decide +kernel
theorem dX9_day_71 : decode cX9_day 71 = .ok (.iadd, 1) := by decide +kernel
theorem dX9_day_72 : decode cX9_day 72 = .ok (.putfield 281, 3) := by decide +kernel
theorem dX9_day_75 : decode cX9_day 75 = .ok (.iinc 4 1, 3) := by decide +kernel
theorem dX9_day_78 : decode cX9_day 78 = .ok (.goto (-47), 3) := by decide +kernel
theorem dX9_day_81 : decode cX9_day 81 = .ok (.iconst 0, 1) := by decide +kernel
theorem dX9_day_82 : decode cX9_day 82 = .ok (.istore 4, 2) := by decide +kernel
theorem dX9_day_84 : decode cX9_day 84 = .ok (.iload 4, 2) := by decide +kernel
theorem dX9_day_86 : decode cX9_day 86 = .ok (.aload_n 0, 1) := by decide +kernel
theorem dX9_day_87 : decode cX9_day 87 = .ok (.getfield 281, 3) := by decide +kernel
theorem dX9_day_90 : decode cX9_day 90 = .ok (.if_icmp .ge 16, 3) := by decide +kernel
theorem dX9_day_93 : decode cX9_day 93 = .ok (.iload_n 3, 1) := by decide +kernel
theorem dX9_day_94 : decode cX9_day 94 = .ok (.aload_n 0, 1) := by decide +kernel
theorem dX9_day_95 : decode cX9_day 95 = .ok (.getfield 281, 3) := by decide +kernel
theorem dX9_day_98 : decode cX9_day 98 = .ok (.imul, 1) := by decide +kernel
theorem dX9_day_99 : decode cX9_day 99 = .ok (.istore_n 3, 1) := by decide +kernel
theorem dX9_day_100 : decode cX9_day 100 = .ok (.iinc 4 1, 3) := by decide +kernel
theorem dX9_day_103 : decode cX9_day 103 = .ok (.goto (-19), 3) := by decide +kernel
theorem dX9_day_106 : decode cX9_day 106 = .ok (.iconst (-1), 1) := by decide +kernel
theorem dX9_day_107 : decode cX9_day 107 = .ok (.istore 4, 2) := by decide +kernel
theorem dX9_day_109 : decode cX9_day 109 = .ok (.iconst 0, 1) := by decide +kernel
theorem dX9_day_110 : decode cX9_day 110 = .ok (.istore 5, 2) := by decide +kernel
theorem dX9_day_112 : decode cX9_day 112 = .ok (.iconst 0, 1) := by decide +kernel
theorem dX9_day_113 : decode cX9_day 113 = .ok (.istore 6, 2) := by decide +kernel
theorem dX9_day_115 : decode cX9_day 115 = .ok (.iload 6, 2) := by decide +kernel
theorem dX9_day_117 : decode cX9_day 117 = .ok (.iload_n 3, 1) := by decide +kernel
theorem dX9_day_118 : decode cX9_day 118 = .ok (.if_icmp .ge 75, 3) := by decide +kernel
theorem dX9_day_121 : decode cX9_day 121 = .ok (.aload_n 0, 1) := by decide +kernel
theorem dX9_day_122 : decode cX9_day 122 = .ok (.iload 6, 2) := by decide +kernel
theorem dX9_day_124 : decode cX9_day 124 = .ok (.invokevirtual 284, 3) := by decide +kernel
theorem dX9_day_127 : decode cX9_day 127 = .ok (.ifCond .eq 60, 3) := by decide +kernel
theorem dX9_day_130 : decode cX9_day 130 = .ok (.aload_n 0, 1) := by decide +kernel
theorem dX9_day_131 : decode cX9_day 131 = .ok (.iload_n 1, 1) := by decide +kernel
theorem dX9_day_132 : decode cX9_day 132 = .ok (.invokevirtual 287, 3) := by decide +kernel
theorem dX9_day_135 : decode cX9_day 135 = .ok (.istore 7, 2) := by decide +kernel
theorem dX9_day_137 : decode cX9_day 137 = .ok (.iload 4, 2) := by decide +kernel
theorem dX9_day_139 : decode cX9_day 139 = .ok (.iconst (-1), 1) := by decide +kernel
theorem dX9_day_140 : decode cX9_day 140 = .ok (.if_icmp .eq 10, 3) := by decide +kernel
theorem dX9_day_143 : decode cX9_day 143 = .ok (.iload 7, 2) := by decide +kernel
theorem dX9_day_145 : decode cX9_day 145 = .ok (.iload 4, 2) := by decide +kernel
theorem dX9_day_147 : decode cX9_day 147 = .ok (.if_icmp .ge 7, 3) := by decide +kernel
theorem dX9_day_150 : decode cX9_day 150 = .ok (.iconst 1, 1) := by decide +kernel
theorem dX9_day_151 : decode cX9_day 151 = .ok (.goto 4, 3) := by decide +kernel
theorem dX9_day_154 : decode cX9_day 154 = .ok (.iconst 0, 1) := by decide +kernel
theorem dX9_day_155 : decode cX9_day 155 = .ok (.istore 8, 2) := by decide +kernel
theorem dX9_day_157 : decode cX9_day 157 = .ok (.iload 8, 2) := by decide +kernel
theorem dX9_day_159 : decode cX9_day 159 = .ok (.ifCond .eq 8, 3) := by decide +kernel
theorem dX9_day_162 : decode cX9_day 162 = .ok (.iload 7, 2) := by decide +kernel
theorem dX9_day_164 : decode cX9_day 164 = .ok (.goto 5, 3) := by decide +kernel
theorem dX9_day_167 : decode cX9_day 167 = .ok (.iload 4, 2) := by decide +kernel
theorem dX9_day_169 : decode cX9_day 169 = .ok (.istore 4, 2) := by decide +kernel
theorem dX9_day_171 : decode cX9_day 171 = .ok (.iload 8, 2) := by decide +kernel
theorem dX9_day_173 : decode cX9_day 173 = .ok (.ifCond .eq 10, 3) := by decide +kernel
theorem dX9_day_176 : decode cX9_day 176 = .ok (.aload_n 0, 1) := by decide +kernel
theorem dX9_day_177 : decode cX9_day 177 = .ok (.invokevirtual 290, 3) := by decide +kernel
theorem dX9_day_180 : decode cX9_day 180 = .ok (.goto 5, 3) := by decide +kernel
theorem dX9_day_183 : decode cX9_day 183 = .ok (.iload 5, 2) := by decide +kernel
theorem dX9_day_185 : decode cX9_day 185 = .ok (.istore 5, 2) := by decide +kernel
theorem dX9_day_187 : decode cX9_day 187 = .ok (.iinc 6 1, 3) := by decide +kernel
theorem dX9_day_190 : decode cX9_day 190 = .ok (.goto (-75), 3) := by decide +kernel
theorem dX9_day_193 : decode cX9_day 193 = .ok (.iload_n 2, 1) := by decide +kernel
theorem dX9_day_194 : decode cX9_day 194 = .ok (.ifCond .ne 8, 3) := by decide +kernel
theorem dX9_day_197 : decode cX9_day 197 = .ok (.iload 4, 2) := by decide +kernel
theorem dX9_day_199 : decode cX9_day 199 = .ok (.goto 5, 3) := by decide +kernel
theorem dX9_day_202 : decode cX9_day 202 = .ok (.iload 5, 2) := by decide +kernel
theorem dX9_day_204 : decode cX9_day 204 = .ok (.ireturn, 1) := by decide +kernel
theorem dX9_digitsNow_0 : decode cX9_digitsNow 0 = .ok (.iconst 0, 1) := by decide +kernel
theorem dX9_digitsNow_1 : decode cX9_digitsNow 1 = .ok (.istore_n 1, 1) := by decide +kernel
theorem dX9_digitsNow_2 : decode cX9_digitsNow 2 = .ok (.iconst 0, 1) := by decide +kernel
theorem dX9_digitsNow_3 : decode cX9_digitsNow 3 = .ok (.istore_n 2, 1) := by decide +kernel
theorem dX9_digitsNow_4 : decode cX9_digitsNow 4 = .ok (.iload_n 2, 1) := by decide +kernel
theorem dX9_digitsNow_5 : decode cX9_digitsNow 5 = .ok (.aload_n 0, 1) := by decide +kernel
theorem dX9_digitsNow_6 : decode cX9_digitsNow 6 = .ok (.getfield 281, 3) := by decide +kernel
theorem dX9_digitsNow_9 : decode cX9_digitsNow 9 = .ok (.if_icmp .ge 28, 3) := by decide +kernel
theorem dX9_digitsNow_12 : decode cX9_digitsNow 12 = .ok (.bipush 10, 2) := by decide +kernel
theorem dX9_digitsNow_14 : decode cX9_digitsNow 14 = .ok (.iload_n 1, 1) := by decide +kernel
theorem dX9_digitsNow_15 : decode cX9_digitsNow 15 = .ok (.imul, 1) := by decide +kernel
theorem dX9_digitsNow_16 : decode cX9_digitsNow 16 = .ok (.aload_n 0, 1) := by decide +kernel
theorem dX9_digitsNow_17 : decode cX9_digitsNow 17 = .ok (.getfield 67, 3) := by decide +kernel
theorem dX9_digitsNow_20 : decode cX9_digitsNow 20 = .ok (.aload_n 0, 1) := by decide +kernel
theorem dX9_digitsNow_21 : decode cX9_digitsNow 21 = .ok (.getfield 70, 3) := by decide +kernel
theorem dX9_digitsNow_24 : decode cX9_digitsNow 24 = .ok (.iload_n 2, 1) := by decide +kernel
theorem dX9_digitsNow_25 : decode cX9_digitsNow 25 = .ok (.iaload, 1) := by decide +kernel
theorem dX9_digitsNow_26 : decode cX9_digitsNow 26 = .ok (.iaload, 1) := by decide +kernel
theorem dX9_digitsNow_27 : decode cX9_digitsNow 27 = .ok (.iadd, 1) := by decide +kernel
theorem dX9_digitsNow_28 : decode cX9_digitsNow 28 = .ok (.iconst 1, 1) := by decide +kernel
theorem dX9_digitsNow_29 : decode cX9_digitsNow 29 = .ok (.iadd, 1) := by decide +kernel
theorem dX9_digitsNow_30 : decode cX9_digitsNow 30 = .ok (.istore_n 1, 1) := by decide +kernel
theorem dX9_digitsNow_31 : decode cX9_digitsNow 31 = .ok (.iinc 2 1, 3) := by decide +kernel
theorem dX9_digitsNow_34 : decode cX9_digitsNow 34 = .ok (.goto (-30), 3) := by decide +kernel
theorem dX9_digitsNow_37 : decode cX9_digitsNow 37 = .ok (.iload_n 1, 1) := by decide +kernel
theorem dX9_digitsNow_38 : decode cX9_digitsNow 38 = .ok (.ireturn, 1) := by decide +kernel
theorem dX9_toldWrong_0 : decode cX9_toldWrong 0 = .ok (.iload_n 1, 1) := by decide +kernel
theorem dX9_toldWrong_1 : decode cX9_toldWrong 1 = .ok (.iconst 0, 1) := by decide +kernel
theorem dX9_toldWrong_2 : decode cX9_toldWrong 2 = .ok (.iconst 3, 1) := by decide +kernel
theorem dX9_toldWrong_3 : decode cX9_toldWrong 3 = .ok (.invokestatic 84, 3) := by decide +kernel
theorem dX9_toldWrong_6 : decode cX9_toldWrong 6 = .ok (.ifCond .ne 6, 3) := by decide +kernel
theorem dX9_toldWrong_9 : decode cX9_toldWrong 9 = .ok (.bipush (-2), 2) := by decide +kernel
theorem dX9_toldWrong_11 : decode cX9_toldWrong 11 = .ok (.ireturn, 1) := by decide +kernel
theorem dX9_toldWrong_12 : decode cX9_toldWrong 12 = .ok (.aload_n 0, 1) := by decide +kernel
theorem dX9_toldWrong_13 : decode cX9_toldWrong 13 = .ok (.getfield 34, 3) := by decide +kernel
theorem dX9_toldWrong_16 : decode cX9_toldWrong 16 = .ok (.iload_n 1, 1) := by decide +kernel
theorem dX9_toldWrong_17 : decode cX9_toldWrong 17 = .ok (.iaload, 1) := by decide +kernel
theorem dX9_toldWrong_18 : decode cX9_toldWrong 18 = .ok (.iconst (-1), 1) := by decide +kernel
theorem dX9_toldWrong_19 : decode cX9_toldWrong 19 = .ok (.if_icmp .ne 6, 3) := by decide +kernel
theorem dX9_toldWrong_22 : decode cX9_toldWrong 22 = .ok (.bipush (-11), 2) := by decide +kernel
theorem dX9_toldWrong_24 : decode cX9_toldWrong 24 = .ok (.ireturn, 1) := by decide +kernel
theorem dX9_toldWrong_25 : decode cX9_toldWrong 25 = .ok (.aload_n 0, 1) := by decide +kernel
theorem dX9_toldWrong_26 : decode cX9_toldWrong 26 = .ok (.iload_n 2, 1) := by decide +kernel
theorem dX9_toldWrong_27 : decode cX9_toldWrong 27 = .ok (.invokevirtual 176, 3) := by decide +kernel
theorem dX9_toldWrong_30 : decode cX9_toldWrong 30 = .ok (.ifCond .eq 7, 3) := by decide +kernel
theorem dX9_toldWrong_33 : decode cX9_toldWrong 33 = .ok (.iconst 0, 1) := by decide +kernel
theorem dX9_toldWrong_34 : decode cX9_toldWrong 34 = .ok (.goto 5, 3) := by decide +kernel
theorem dX9_toldWrong_37 : decode cX9_toldWrong 37 = .ok (.bipush (-5), 2) := by decide +kernel
theorem dX9_toldWrong_39 : decode cX9_toldWrong 39 = .ok (.ireturn, 1) := by decide +kernel
theorem dX9_unlike_0 : decode cX9_unlike 0 = .ok (.iconst (-1), 1) := by decide +kernel
theorem dX9_unlike_1 : decode cX9_unlike 1 = .ok (.istore_n 3, 1) := by decide +kernel
theorem dX9_unlike_2 : decode cX9_unlike 2 = .ok (.aload_n 0, 1) := by decide +kernel
theorem dX9_unlike_3 : decode cX9_unlike 3 = .ok (.invokevirtual 231, 3) := by decide +kernel
theorem dX9_unlike_6 : decode cX9_unlike 6 = .ok (.iconst 0, 1) := by decide +kernel
theorem dX9_unlike_7 : decode cX9_unlike 7 = .ok (.istore 4, 2) := by decide +kernel
theorem dX9_unlike_9 : decode cX9_unlike 9 = .ok (.iload 4, 2) := by decide +kernel
theorem dX9_unlike_11 : decode cX9_unlike 11 = .ok (.aload_n 0, 1) := by decide +kernel
theorem dX9_unlike_12 : decode cX9_unlike 12 = .ok (.getfield 37, 3) := by decide +kernel
theorem dX9_unlike_15 : decode cX9_unlike 15 = .ok (.iload_n 1, 1) := by decide +kernel
theorem dX9_unlike_16 : decode cX9_unlike 16 = .ok (.iaload, 1) := by decide +kernel
theorem dX9_unlike_17 : decode cX9_unlike 17 = .ok (.if_icmp .ge 59, 3) := by decide +kernel
theorem dX9_unlike_20 : decode cX9_unlike 20 = .ok (.iload_n 3, 1) := by decide +kernel
theorem dX9_unlike_21 : decode cX9_unlike 21 = .ok (.iconst (-1), 1) := by decide +kernel
theorem dX9_unlike_22 : decode cX9_unlike 22 = .ok (.if_icmp .ne 54, 3) := by decide +kernel
theorem dX9_unlike_25 : decode cX9_unlike 25 = .ok (.aload_n 0, 1) := by decide +kernel
theorem dX9_unlike_26 : decode cX9_unlike 26 = .ok (.iload_n 2, 1) := by decide +kernel
theorem dX9_unlike_27 : decode cX9_unlike 27 = .ok (.invokevirtual 216, 3) := by decide +kernel
theorem dX9_unlike_30 : decode cX9_unlike 30 = .ok (.aload_n 0, 1) := by decide +kernel
theorem dX9_unlike_31 : decode cX9_unlike 31 = .ok (.dup, 1) := by decide +kernel
theorem dX9_unlike_32 : decode cX9_unlike 32 = .ok (.getfield 91, 3) := by decide +kernel
theorem dX9_unlike_35 : decode cX9_unlike 35 = .ok (.iconst 1, 1) := by decide +kernel
theorem dX9_unlike_36 : decode cX9_unlike 36 = .ok (.iadd, 1) := by decide +kernel
theorem dX9_unlike_37 : decode cX9_unlike 37 = .ok (.putfield 91, 3) := by decide +kernel
theorem dX9_unlike_40 : decode cX9_unlike 40 = .ok (.aload_n 0, 1) := by decide +kernel
theorem dX9_unlike_41 : decode cX9_unlike 41 = .ok (.getfield 40, 3) := by decide +kernel
theorem dX9_unlike_44 : decode cX9_unlike 44 = .ok (.bipush 40, 2) := by decide +kernel
theorem dX9_unlike_46 : decode cX9_unlike 46 = .ok (.iload_n 1, 1) := by decide +kernel
theorem dX9_unlike_47 : decode cX9_unlike 47 = .ok (.imul, 1) := by decide +kernel
theorem dX9_unlike_48 : decode cX9_unlike 48 = .ok (.iload 4, 2) := by decide +kernel
theorem dX9_unlike_50 : decode cX9_unlike 50 = .ok (.iadd, 1) := by decide +kernel
theorem dX9_unlike_51 : decode cX9_unlike 51 = .ok (.iaload, 1) := by decide +kernel
theorem dX9_unlike_52 : decode cX9_unlike 52 = .ok (.aload_n 0, 1) := by decide +kernel
theorem dX9_unlike_53 : decode cX9_unlike 53 = .ok (.getfield 16, 3) := by decide +kernel
theorem dX9_unlike_56 : decode cX9_unlike 56 = .ok (.iconst 4, 1) := by decide +kernel
theorem dX9_unlike_57 : decode cX9_unlike 57 = .ok (.iload_n 2, 1) := by decide +kernel
theorem dX9_unlike_58 : decode cX9_unlike 58 = .ok (.imul, 1) := by decide +kernel
theorem dX9_unlike_59 : decode cX9_unlike 59 = .ok (.iaload, 1) := by decide +kernel
theorem dX9_unlike_60 : decode cX9_unlike 60 = .ok (.if_icmp .ne 7, 3) := by decide +kernel
theorem dX9_unlike_63 : decode cX9_unlike 63 = .ok (.iconst (-1), 1) := by decide +kernel
theorem dX9_unlike_64 : decode cX9_unlike 64 = .ok (.goto 5, 3) := by decide +kernel
theorem dX9_unlike_67 : decode cX9_unlike 67 = .ok (.iload 4, 2) := by decide +kernel
theorem dX9_unlike_69 : decode cX9_unlike 69 = .ok (.istore_n 3, 1) := by decide +kernel
theorem dX9_unlike_70 : decode cX9_unlike 70 = .ok (.iinc 4 1, 3) := by decide +kernel
theorem dX9_unlike_73 : decode cX9_unlike 73 = .ok (.goto (-64), 3) := by decide +kernel
theorem dX9_unlike_76 : decode cX9_unlike 76 = .ok (.aload_n 0, 1) := by decide +kernel
theorem dX9_unlike_77 : decode cX9_unlike 77 = .ok (.invokevirtual 234, 3) := by decide +kernel
theorem dX9_unlike_80 : decode cX9_unlike 80 = .ok (.iload_n 3, 1) := by decide +kernel
theorem dX9_unlike_81 : decode cX9_unlike 81 = .ok (.ireturn, 1) := by decide +kernel
theorem dX9_judge_0 : decode cX9_judge 0 = .ok (.aload_n 0, 1) := by decide +kernel
theorem dX9_judge_1 : decode cX9_judge 1 = .ok (.iload_n 1, 1) := by decide +kernel
theorem dX9_judge_2 : decode cX9_judge 2 = .ok (.iload_n 2, 1) := by decide +kernel
theorem dX9_judge_3 : decode cX9_judge 3 = .ok (.invokevirtual 293, 3) := by decide +kernel
theorem dX9_judge_6 : decode cX9_judge 6 = .ok (.istore_n 3, 1) := by decide +kernel
theorem dX9_judge_7 : decode cX9_judge 7 = .ok (.iload_n 3, 1) := by decide +kernel
theorem dX9_judge_8 : decode cX9_judge 8 = .ok (.ifCond .ne 12, 3) := by decide +kernel
theorem dX9_judge_11 : decode cX9_judge 11 = .ok (.aload_n 0, 1) := by decide +kernel
theorem dX9_judge_12 : decode cX9_judge 12 = .ok (.iload_n 1, 1) := by decide +kernel
theorem dX9_judge_13 : decode cX9_judge 13 = .ok (.iload_n 2, 1) := by decide +kernel
theorem dX9_judge_14 : decode cX9_judge 14 = .ok (.invokevirtual 296, 3) := by decide +kernel
theorem dX9_judge_17 : decode cX9_judge 17 = .ok (.goto 4, 3) := by decide +kernel
theorem dX9_judge_20 : decode cX9_judge 20 = .ok (.iload_n 3, 1) := by decide +kernel
theorem dX9_judge_21 : decode cX9_judge 21 = .ok (.ireturn, 1) := by decide +kernel
theorem dX9_kinds_0 : decode cX9_kinds 0 = .ok (.aload_n 0, 1) := by decide +kernel
theorem dX9_kinds_1 : decode cX9_kinds 1 = .ok (.iload_n 1, 1) := by decide +kernel
theorem dX9_kinds_2 : decode cX9_kinds 2 = .ok (.iload_n 2, 1) := by decide +kernel
theorem dX9_kinds_3 : decode cX9_kinds 3 = .ok (.invokevirtual 293, 3) := by decide +kernel
theorem dX9_kinds_6 : decode cX9_kinds 6 = .ok (.istore 4, 2) := by decide +kernel
theorem dX9_kinds_8 : decode cX9_kinds 8 = .ok (.iload 4, 2) := by decide +kernel
theorem dX9_kinds_10 : decode cX9_kinds 10 = .ok (.ifCond .eq 6, 3) := by decide +kernel
theorem dX9_kinds_13 : decode cX9_kinds 13 = .ok (.iload 4, 2) := by decide +kernel
theorem dX9_kinds_15 : decode cX9_kinds 15 = .ok (.ireturn, 1) := by decide +kernel
theorem dX9_kinds_16 : decode cX9_kinds 16 = .ok (.iload_n 3, 1) := by decide +kernel
theorem dX9_kinds_17 : decode cX9_kinds 17 = .ok (.iconst 0, 1) := by decide +kernel
theorem dX9_kinds_18 : decode cX9_kinds 18 = .ok (.iconst 2, 1) := by decide +kernel
theorem dX9_kinds_19 : decode cX9_kinds 19 = .ok (.invokestatic 84, 3) := by decide +kernel
theorem dX9_kinds_22 : decode cX9_kinds 22 = .ok (.ifCond .ne 6, 3) := by decide +kernel
theorem dX9_kinds_25 : decode cX9_kinds 25 = .ok (.bipush (-7), 2) := by decide +kernel
theorem dX9_kinds_27 : decode cX9_kinds 27 = .ok (.ireturn, 1) := by decide +kernel
theorem dX9_kinds_28 : decode cX9_kinds 28 = .ok (.aload_n 0, 1) := by decide +kernel
theorem dX9_kinds_29 : decode cX9_kinds 29 = .ok (.getfield 7, 3) := by decide +kernel
theorem dX9_kinds_32 : decode cX9_kinds 32 = .ok (.iload_n 2, 1) := by decide +kernel
theorem dX9_kinds_33 : decode cX9_kinds 33 = .ok (.iaload, 1) := by decide +kernel
theorem dX9_kinds_34 : decode cX9_kinds 34 = .ok (.istore 5, 2) := by decide +kernel
theorem dX9_kinds_36 : decode cX9_kinds 36 = .ok (.aload_n 0, 1) := by decide +kernel
theorem dX9_kinds_37 : decode cX9_kinds 37 = .ok (.getfield 13, 3) := by decide +kernel
theorem dX9_kinds_40 : decode cX9_kinds 40 = .ok (.iload_n 2, 1) := by decide +kernel
theorem dX9_kinds_41 : decode cX9_kinds 41 = .ok (.iaload, 1) := by decide +kernel
theorem dX9_kinds_42 : decode cX9_kinds 42 = .ok (.istore 6, 2) := by decide +kernel
theorem dX9_kinds_44 : decode cX9_kinds 44 = .ok (.aload_n 0, 1) := by decide +kernel
theorem dX9_kinds_45 : decode cX9_kinds 45 = .ok (.getfield 16, 3) := by decide +kernel
theorem dX9_kinds_48 : decode cX9_kinds 48 = .ok (.iconst 4, 1) := by decide +kernel
theorem dX9_kinds_49 : decode cX9_kinds 49 = .ok (.iload_n 2, 1) := by decide +kernel
theorem dX9_kinds_50 : decode cX9_kinds 50 = .ok (.imul, 1) := by decide +kernel
theorem dX9_kinds_51 : decode cX9_kinds 51 = .ok (.iconst 1, 1) := by decide +kernel
theorem dX9_kinds_52 : decode cX9_kinds 52 = .ok (.iadd, 1) := by decide +kernel
theorem dX9_kinds_53 : decode cX9_kinds 53 = .ok (.iaload, 1) := by decide +kernel
theorem dX9_kinds_54 : decode cX9_kinds 54 = .ok (.istore 7, 2) := by decide +kernel
theorem dX9_kinds_56 : decode cX9_kinds 56 = .ok (.iconst 0, 1) := by decide +kernel
theorem dX9_kinds_57 : decode cX9_kinds 57 = .ok (.istore 8, 2) := by decide +kernel
theorem dX9_kinds_59 : decode cX9_kinds 59 = .ok (.iconst 0, 1) := by decide +kernel
theorem dX9_kinds_60 : decode cX9_kinds 60 = .ok (.istore 9, 2) := by decide +kernel
theorem dX9_kinds_62 : decode cX9_kinds 62 = .ok (.iload 9, 2) := by decide +kernel
theorem dX9_kinds_64 : decode cX9_kinds 64 = .ok (.iload_n 3, 1) := by decide +kernel
theorem dX9_kinds_65 : decode cX9_kinds 65 = .ok (.ifCond .ne 8, 3) := by decide +kernel
theorem dX9_kinds_68 : decode cX9_kinds 68 = .ok (.bipush 6, 2) := by decide +kernel
theorem dX9_kinds_70 : decode cX9_kinds 70 = .ok (.goto 5, 3) := by decide +kernel
theorem dX9_kinds_73 : decode cX9_kinds 73 = .ok (.bipush 10, 2) := by decide +kernel
theorem dX9_kinds_75 : decode cX9_kinds 75 = .ok (.if_icmp .ge 89, 3) := by decide +kernel
theorem dX9_kinds_78 : decode cX9_kinds 78 = .ok (.aload_n 0, 1) := by decide +kernel
theorem dX9_kinds_79 : decode cX9_kinds 79 = .ok (.getfield 7, 3) := by decide +kernel
theorem dX9_kinds_82 : decode cX9_kinds 82 = .ok (.iload_n 2, 1) := by decide +kernel
theorem dX9_kinds_83 : decode cX9_kinds 83 = .ok (.iload_n 3, 1) := by decide +kernel
theorem dX9_kinds_84 : decode cX9_kinds 84 = .ok (.ifCond .ne 8, 3) := by decide +kernel
theorem dX9_kinds_87 : decode cX9_kinds 87 = .ok (.iload 9, 2) := by decide +kernel
theorem dX9_kinds_89 : decode cX9_kinds 89 = .ok (.goto 5, 3) := by decide +kernel
theorem dX9_kinds_92 : decode cX9_kinds 92 = .ok (.iload 5, 2) := by decide +kernel
theorem dX9_kinds_94 : decode cX9_kinds 94 = .ok (.iastore, 1) := by decide +kernel
theorem dX9_kinds_95 : decode cX9_kinds 95 = .ok (.aload_n 0, 1) := by decide +kernel
theorem dX9_kinds_96 : decode cX9_kinds 96 = .ok (.getfield 13, 3) := by decide +kernel
theorem dX9_kinds_99 : decode cX9_kinds 99 = .ok (.iload_n 2, 1) := by decide +kernel
theorem dX9_kinds_100 : decode cX9_kinds 100 = .ok (.iload_n 3, 1) := by decide +kernel
theorem dX9_kinds_101 : decode cX9_kinds 101 = .ok (.iconst 1, 1) := by decide +kernel
theorem dX9_kinds_102 : decode cX9_kinds 102 = .ok (.if_icmp .ne 8, 3) := by decide +kernel
theorem dX9_kinds_105 : decode cX9_kinds 105 = .ok (.iload 9, 2) := by decide +kernel
theorem dX9_kinds_107 : decode cX9_kinds 107 = .ok (.goto 5, 3) := by decide +kernel
theorem dX9_kinds_110 : decode cX9_kinds 110 = .ok (.iload 6, 2) := by decide +kernel
theorem dX9_kinds_112 : decode cX9_kinds 112 = .ok (.iastore, 1) := by decide +kernel
theorem dX9_kinds_113 : decode cX9_kinds 113 = .ok (.aload_n 0, 1) := by decide +kernel
theorem dX9_kinds_114 : decode cX9_kinds 114 = .ok (.getfield 16, 3) := by decide +kernel
theorem dX9_kinds_117 : decode cX9_kinds 117 = .ok (.iconst 4, 1) := by decide +kernel
theorem dX9_kinds_118 : decode cX9_kinds 118 = .ok (.iload_n 2, 1) := by decide +kernel
theorem dX9_kinds_119 : decode cX9_kinds 119 = .ok (.imul, 1) := by decide +kernel
theorem dX9_kinds_120 : decode cX9_kinds 120 = .ok (.iconst 1, 1) := by decide +kernel
theorem dX9_kinds_121 : decode cX9_kinds 121 = .ok (.iadd, 1) := by decide +kernel
theorem dX9_kinds_122 : decode cX9_kinds 122 = .ok (.iload_n 3, 1) := by decide +kernel
theorem dX9_kinds_123 : decode cX9_kinds 123 = .ok (.iconst 2, 1) := by decide +kernel
theorem dX9_kinds_124 : decode cX9_kinds 124 = .ok (.if_icmp .ne 8, 3) := by decide +kernel
theorem dX9_kinds_127 : decode cX9_kinds 127 = .ok (.iload 9, 2) := by decide +kernel
theorem dX9_kinds_129 : decode cX9_kinds 129 = .ok (.goto 5, 3) := by decide +kernel
theorem dX9_kinds_132 : decode cX9_kinds 132 = .ok (.iload 7, 2) := by decide +kernel
theorem dX9_kinds_134 : decode cX9_kinds 134 = .ok (.iastore, 1) := by decide +kernel
theorem dX9_kinds_135 : decode cX9_kinds 135 = .ok (.iload 8, 2) := by decide +kernel
theorem dX9_kinds_137 : decode cX9_kinds 137 = .ok (.aload_n 0, 1) := by decide +kernel
theorem dX9_kinds_138 : decode cX9_kinds 138 = .ok (.iload_n 1, 1) := by decide +kernel
theorem dX9_kinds_139 : decode cX9_kinds 139 = .ok (.iload_n 2, 1) := by decide +kernel
theorem dX9_kinds_140 : decode cX9_kinds 140 = .ok (.invokevirtual 296, 3) := by decide +kernel
theorem dX9_kinds_143 : decode cX9_kinds 143 = .ok (.iconst (-1), 1) := by decide +kernel
theorem dX9_kinds_144 : decode cX9_kinds 144 = .ok (.if_icmp .ne 10, 3) := by decide +kernel
theorem dX9_kinds_147 : decode cX9_kinds 147 = .ok (.iconst 1, 1) := by decide +kernel
theorem dX9_kinds_148 : decode cX9_kinds 148 = .ok (.iload 9, 2) := by decide +kernel
theorem dX9_kinds_150 : decode cX9_kinds 150 = .ok (.ishl, 1) := by decide +kernel
theorem dX9_kinds_151 : decode cX9_kinds 151 = .ok (.goto 4, 3) := by decide +kernel
theorem dX9_kinds_154 : decode cX9_kinds 154 = .ok (.iconst 0, 1) := by decide +kernel
theorem dX9_kinds_155 : decode cX9_kinds 155 = .ok (.ior, 1) := by decide +kernel
theorem dX9_kinds_156 : decode cX9_kinds 156 = .ok (.istore 8, 2) := by decide +kernel
theorem dX9_kinds_158 : decode cX9_kinds 158 = .ok (.iinc 9 1, 3) := by decide +kernel
theorem dX9_kinds_161 : decode cX9_kinds 161 = .ok (.goto (-99), 3) := by decide +kernel
theorem dX9_kinds_164 : decode cX9_kinds 164 = .ok (.aload_n 0, 1) := by decide +kernel
theorem dX9_kinds_165 : decode cX9_kinds 165 = .ok (.getfield 7, 3) := by decide +kernel
theorem dX9_kinds_168 : decode cX9_kinds 168 = .ok (.iload_n 2, 1) := by decide +kernel
theorem dX9_kinds_169 : decode cX9_kinds 169 = .ok (.iload 5, 2) := by decide +kernel
theorem dX9_kinds_171 : decode cX9_kinds 171 = .ok (.iastore, 1) := by decide +kernel
theorem dX9_kinds_172 : decode cX9_kinds 172 = .ok (.aload_n 0, 1) := by decide +kernel
theorem dX9_kinds_173 : decode cX9_kinds 173 = .ok (.getfield 13, 3) := by decide +kernel
theorem dX9_kinds_176 : decode cX9_kinds 176 = .ok (.iload_n 2, 1) := by decide +kernel
theorem dX9_kinds_177 : decode cX9_kinds 177 = .ok (.iload 6, 2) := by decide +kernel
theorem dX9_kinds_179 : decode cX9_kinds 179 = .ok (.iastore, 1) := by decide +kernel
theorem dX9_kinds_180 : decode cX9_kinds 180 = .ok (.aload_n 0, 1) := by decide +kernel
theorem dX9_kinds_181 : decode cX9_kinds 181 = .ok (.getfield 16, 3) := by decide +kernel
theorem dX9_kinds_184 : decode cX9_kinds 184 = .ok (.iconst 4, 1) := by decide +kernel
theorem dX9_kinds_185 : decode cX9_kinds 185 = .ok (.iload_n 2, 1) := by decide +kernel
theorem dX9_kinds_186 : decode cX9_kinds 186 = .ok (.imul, 1) := by decide +kernel
theorem dX9_kinds_187 : decode cX9_kinds 187 = .ok (.iconst 1, 1) := by decide +kernel
theorem dX9_kinds_188 : decode cX9_kinds 188 = .ok (.iadd, 1) := by decide +kernel
theorem dX9_kinds_189 : decode cX9_kinds 189 = .ok (.iload 7, 2) := by decide +kernel
theorem dX9_kinds_191 : decode cX9_kinds 191 = .ok (.iastore, 1) := by decide +kernel
theorem dX9_kinds_192 : decode cX9_kinds 192 = .ok (.iload 8, 2) := by decide +kernel
theorem dX9_kinds_194 : decode cX9_kinds 194 = .ok (.ireturn, 1) := by decide +kernel
theorem dX9_since_0 : decode cX9_since 0 = .ok (.aload_n 0, 1) := by decide +kernel
theorem dX9_since_1 : decode cX9_since 1 = .ok (.iload_n 1, 1) := by decide +kernel
theorem dX9_since_2 : decode cX9_since 2 = .ok (.iload_n 2, 1) := by decide +kernel
theorem dX9_since_3 : decode cX9_since 3 = .ok (.invokevirtual 293, 3) := by decide +kernel
theorem dX9_since_6 : decode cX9_since 6 = .ok (.ifCond .eq 7, 3) := by decide +kernel
theorem dX9_since_9 : decode cX9_since 9 = .ok (.ldc2_w 299, 3) := by decide +kernel
theorem dX9_since_12 : decode cX9_since 12 = .ok (.lreturn, 1) := by decide +kernel
theorem dX9_since_13 : decode cX9_since 13 = .ok (.aload_n 0, 1) := by decide +kernel
theorem dX9_since_14 : decode cX9_since 14 = .ok (.getfield 91, 3) := by decide +kernel
theorem dX9_since_17 : decode cX9_since 17 = .ok (.istore_n 3, 1) := by decide +kernel
theorem dX9_since_18 : decode cX9_since 18 = .ok (.lconst 0, 1) := by decide +kernel
theorem dX9_since_19 : decode cX9_since 19 = .ok (.lstore 4, 2) := by decide +kernel
theorem dX9_since_21 : decode cX9_since 21 = .ok (.iconst 0, 1) := by decide +kernel
theorem dX9_since_22 : decode cX9_since 22 = .ok (.istore 6, 2) := by decide +kernel
theorem dX9_since_24 : decode cX9_since 24 = .ok (.iload 6, 2) := by decide +kernel
theorem dX9_since_26 : decode cX9_since 26 = .ok (.bipush 52, 2) := by decide +kernel
theorem dX9_since_28 : decode cX9_since 28 = .ok (.if_icmp .ge 38, 3) := by decide +kernel
theorem dX9_since_31 : decode cX9_since 31 = .ok (.aload_n 0, 1) := by decide +kernel
theorem dX9_since_32 : decode cX9_since 32 = .ok (.iload 6, 2) := by decide +kernel
theorem dX9_since_34 : decode cX9_since 34 = .ok (.putfield 91, 3) := by decide +kernel
theorem dX9_since_37 : decode cX9_since 37 = .ok (.lload 4, 2) := by decide +kernel
theorem dX9_since_39 : decode cX9_since 39 = .ok (.aload_n 0, 1) := by decide +kernel
theorem dX9_since_40 : decode cX9_since 40 = .ok (.iload_n 1, 1) := by decide +kernel
theorem dX9_since_41 : decode cX9_since 41 = .ok (.iload_n 2, 1) := by decide +kernel
theorem dX9_since_42 : decode cX9_since 42 = .ok (.invokevirtual 296, 3) := by decide +kernel
theorem dX9_since_45 : decode cX9_since 45 = .ok (.iconst (-1), 1) := by decide +kernel
theorem dX9_since_46 : decode cX9_since 46 = .ok (.if_icmp .ne 10, 3) := by decide +kernel
theorem dX9_since_49 : decode cX9_since 49 = .ok (.lconst 1, 1) := by decide +kernel
theorem dX9_since_50 : decode cX9_since 50 = .ok (.iload 6, 2) := by decide +kernel
theorem dX9_since_52 : decode cX9_since 52 = .ok (.lshl, 1) := by decide +kernel
theorem dX9_since_53 : decode cX9_since 53 = .ok (.goto 4, 3) := by decide +kernel
theorem dX9_since_56 : decode cX9_since 56 = .ok (.lconst 0, 1) := by decide +kernel
theorem dX9_since_57 : decode cX9_since 57 = .ok (.lor, 1) := by decide +kernel
theorem dX9_since_58 : decode cX9_since 58 = .ok (.lstore 4, 2) := by decide +kernel
theorem dX9_since_60 : decode cX9_since 60 = .ok (.iinc 6 1, 3) := by decide +kernel
theorem dX9_since_63 : decode cX9_since 63 = .ok (.goto (-39), 3) := by decide +kernel
theorem dX9_since_66 : decode cX9_since 66 = .ok (.aload_n 0, 1) := by decide +kernel
theorem dX9_since_67 : decode cX9_since 67 = .ok (.iload_n 3, 1) := by decide +kernel
theorem dX9_since_68 : decode cX9_since 68 = .ok (.putfield 91, 3) := by decide +kernel
theorem dX9_since_71 : decode cX9_since 71 = .ok (.lload 4, 2) := by decide +kernel
theorem dX9_since_73 : decode cX9_since 73 = .ok (.lreturn, 1) := by decide +kernel
theorem dX9_laws_0 : decode cX9_laws 0 = .ok (.aload_n 0, 1) := by decide +kernel
theorem dX9_laws_1 : decode cX9_laws 1 = .ok (.iload_n 1, 1) := by decide +kernel
theorem dX9_laws_2 : decode cX9_laws 2 = .ok (.iload_n 2, 1) := by decide +kernel
theorem dX9_laws_3 : decode cX9_laws 3 = .ok (.invokevirtual 293, 3) := by decide +kernel
theorem dX9_laws_6 : decode cX9_laws 6 = .ok (.istore_n 3, 1) := by decide +kernel
theorem dX9_laws_7 : decode cX9_laws 7 = .ok (.iload_n 3, 1) := by decide +kernel
theorem dX9_laws_8 : decode cX9_laws 8 = .ok (.ifCond .eq 5, 3) := by decide +kernel
theorem dX9_laws_11 : decode cX9_laws 11 = .ok (.iload_n 3, 1) := by decide +kernel
theorem dX9_laws_12 : decode cX9_laws 12 = .ok (.ireturn, 1) := by decide +kernel
theorem dX9_laws_13 : decode cX9_laws 13 = .ok (.aload_n 0, 1) := by decide +kernel
theorem dX9_laws_14 : decode cX9_laws 14 = .ok (.getfield 97, 3) := by decide +kernel
theorem dX9_laws_17 : decode cX9_laws 17 = .ok (.istore 4, 2) := by decide +kernel
theorem dX9_laws_19 : decode cX9_laws 19 = .ok (.iconst 0, 1) := by decide +kernel
theorem dX9_laws_20 : decode cX9_laws 20 = .ok (.istore 5, 2) := by decide +kernel
theorem dX9_laws_22 : decode cX9_laws 22 = .ok (.iconst 0, 1) := by decide +kernel
theorem dX9_laws_23 : decode cX9_laws 23 = .ok (.istore 6, 2) := by decide +kernel
theorem dX9_laws_25 : decode cX9_laws 25 = .ok (.iload 6, 2) := by decide +kernel
theorem dX9_laws_27 : decode cX9_laws 27 = .ok (.aload_n 0, 1) := by decide +kernel
theorem dX9_laws_28 : decode cX9_laws 28 = .ok (.getfield 94, 3) := by decide +kernel
theorem dX9_laws_31 : decode cX9_laws 31 = .ok (.if_icmp .ge 38, 3) := by decide +kernel
theorem dX9_laws_34 : decode cX9_laws 34 = .ok (.aload_n 0, 1) := by decide +kernel
theorem dX9_laws_35 : decode cX9_laws 35 = .ok (.iload 6, 2) := by decide +kernel
theorem dX9_laws_37 : decode cX9_laws 37 = .ok (.putfield 97, 3) := by decide +kernel
theorem dX9_laws_40 : decode cX9_laws 40 = .ok (.iload 5, 2) := by decide +kernel
theorem dX9_laws_42 : decode cX9_laws 42 = .ok (.aload_n 0, 1) := by decide +kernel
theorem dX9_laws_43 : decode cX9_laws 43 = .ok (.iload_n 1, 1) := by decide +kernel
theorem dX9_laws_44 : decode cX9_laws 44 = .ok (.iload_n 2, 1) := by decide +kernel
theorem dX9_laws_45 : decode cX9_laws 45 = .ok (.invokevirtual 296, 3) := by decide +kernel
theorem dX9_laws_48 : decode cX9_laws 48 = .ok (.iconst (-1), 1) := by decide +kernel
theorem dX9_laws_49 : decode cX9_laws 49 = .ok (.if_icmp .ne 10, 3) := by decide +kernel
theorem dX9_laws_52 : decode cX9_laws 52 = .ok (.iconst 1, 1) := by decide +kernel
theorem dX9_laws_53 : decode cX9_laws 53 = .ok (.iload 6, 2) := by decide +kernel
theorem dX9_laws_55 : decode cX9_laws 55 = .ok (.ishl, 1) := by decide +kernel
theorem dX9_laws_56 : decode cX9_laws 56 = .ok (.goto 4, 3) := by decide +kernel
theorem dX9_laws_59 : decode cX9_laws 59 = .ok (.iconst 0, 1) := by decide +kernel
theorem dX9_laws_60 : decode cX9_laws 60 = .ok (.ior, 1) := by decide +kernel
theorem dX9_laws_61 : decode cX9_laws 61 = .ok (.istore 5, 2) := by decide +kernel
theorem dX9_laws_63 : decode cX9_laws 63 = .ok (.iinc 6 1, 3) := by decide +kernel
theorem dX9_laws_66 : decode cX9_laws 66 = .ok (.goto (-41), 3) := by decide +kernel
theorem dX9_laws_69 : decode cX9_laws 69 = .ok (.aload_n 0, 1) := by decide +kernel
theorem dX9_laws_70 : decode cX9_laws 70 = .ok (.iload 4, 2) := by decide +kernel
theorem dX9_laws_72 : decode cX9_laws 72 = .ok (.putfield 97, 3) := by decide +kernel
theorem dX9_laws_75 : decode cX9_laws 75 = .ok (.iload 5, 2) := by decide +kernel
theorem dX9_laws_77 : decode cX9_laws 77 = .ok (.ireturn, 1) := by decide +kernel
theorem dX9_whose_0 : decode cX9_whose 0 = .ok (.iload_n 1, 1) := by decide +kernel
theorem dX9_whose_1 : decode cX9_whose 1 = .ok (.iconst 0, 1) := by decide +kernel
theorem dX9_whose_2 : decode cX9_whose 2 = .ok (.iconst 3, 1) := by decide +kernel
theorem dX9_whose_3 : decode cX9_whose 3 = .ok (.invokestatic 84, 3) := by decide +kernel
theorem dX9_whose_6 : decode cX9_whose 6 = .ok (.ifCond .ne 6, 3) := by decide +kernel
theorem dX9_whose_9 : decode cX9_whose 9 = .ok (.bipush (-2), 2) := by decide +kernel
theorem dX9_whose_11 : decode cX9_whose 11 = .ok (.ireturn, 1) := by decide +kernel
theorem dX9_whose_12 : decode cX9_whose 12 = .ok (.aload_n 0, 1) := by decide +kernel
theorem dX9_whose_13 : decode cX9_whose 13 = .ok (.getfield 34, 3) := by decide +kernel
theorem dX9_whose_16 : decode cX9_whose 16 = .ok (.iload_n 1, 1) := by decide +kernel
theorem dX9_whose_17 : decode cX9_whose 17 = .ok (.iaload, 1) := by decide +kernel
theorem dX9_whose_18 : decode cX9_whose 18 = .ok (.iconst (-1), 1) := by decide +kernel
theorem dX9_whose_19 : decode cX9_whose 19 = .ok (.if_icmp .ne 6, 3) := by decide +kernel
theorem dX9_whose_22 : decode cX9_whose 22 = .ok (.bipush (-11), 2) := by decide +kernel
theorem dX9_whose_24 : decode cX9_whose 24 = .ok (.ireturn, 1) := by decide +kernel
theorem dX9_whose_25 : decode cX9_whose 25 = .ok (.iconst 0, 1) := by decide +kernel
theorem dX9_whose_26 : decode cX9_whose 26 = .ok (.istore_n 2, 1) := by decide +kernel
theorem dX9_whose_27 : decode cX9_whose 27 = .ok (.iconst 0, 1) := by decide +kernel
theorem dX9_whose_28 : decode cX9_whose 28 = .ok (.istore_n 3, 1) := by decide +kernel
theorem dX9_whose_29 : decode cX9_whose 29 = .ok (.iload_n 3, 1) := by decide +kernel
theorem dX9_whose_30 : decode cX9_whose 30 = .ok (.aload_n 0, 1) := by decide +kernel
theorem dX9_whose_31 : decode cX9_whose 31 = .ok (.getfield 81, 3) := by decide +kernel
theorem dX9_whose_34 : decode cX9_whose 34 = .ok (.if_icmp .ge 29, 3) := by decide +kernel
theorem dX9_whose_37 : decode cX9_whose 37 = .ok (.iload_n 2, 1) := by decide +kernel
theorem dX9_whose_38 : decode cX9_whose 38 = .ok (.aload_n 0, 1) := by decide +kernel
theorem dX9_whose_39 : decode cX9_whose 39 = .ok (.iload_n 1, 1) := by decide +kernel
theorem dX9_whose_40 : decode cX9_whose 40 = .ok (.iload_n 3, 1) := by decide +kernel
theorem dX9_whose_41 : decode cX9_whose 41 = .ok (.invokevirtual 296, 3) := by decide +kernel
theorem dX9_whose_44 : decode cX9_whose 44 = .ok (.iconst (-1), 1) := by decide +kernel
theorem dX9_whose_45 : decode cX9_whose 45 = .ok (.if_icmp .ne 9, 3) := by decide +kernel
theorem dX9_whose_48 : decode cX9_whose 48 = .ok (.iconst 1, 1) := by decide +kernel
theorem dX9_whose_49 : decode cX9_whose 49 = .ok (.iload_n 3, 1) := by decide +kernel
theorem dX9_whose_50 : decode cX9_whose 50 = .ok (.ishl, 1) := by decide +kernel
theorem dX9_whose_51 : decode cX9_whose 51 = .ok (.goto 4, 3) := by decide +kernel
theorem dX9_whose_54 : decode cX9_whose 54 = .ok (.iconst 0, 1) := by decide +kernel
theorem dX9_whose_55 : decode cX9_whose 55 = .ok (.ior, 1) := by decide +kernel
theorem dX9_whose_56 : decode cX9_whose 56 = .ok (.istore_n 2, 1) := by decide +kernel
theorem dX9_whose_57 : decode cX9_whose 57 = .ok (.iinc 3 1, 3) := by decide +kernel
theorem dX9_whose_60 : decode cX9_whose 60 = .ok (.goto (-31), 3) := by decide +kernel
theorem dX9_whose_63 : decode cX9_whose 63 = .ok (.iload_n 2, 1) := by decide +kernel
theorem dX9_whose_64 : decode cX9_whose 64 = .ok (.ireturn, 1) := by decide +kernel
theorem dX9_film_0 : decode cX9_film 0 = .ok (.iload_n 1, 1) := by decide +kernel
theorem dX9_film_1 : decode cX9_film 1 = .ok (.iconst 0, 1) := by decide +kernel
theorem dX9_film_2 : decode cX9_film 2 = .ok (.iconst 3, 1) := by decide +kernel
theorem dX9_film_3 : decode cX9_film 3 = .ok (.invokestatic 84, 3) := by decide +kernel
theorem dX9_film_6 : decode cX9_film 6 = .ok (.ifCond .ne 6, 3) := by decide +kernel
theorem dX9_film_9 : decode cX9_film 9 = .ok (.bipush (-2), 2) := by decide +kernel
theorem dX9_film_11 : decode cX9_film 11 = .ok (.ireturn, 1) := by decide +kernel
theorem dX9_film_12 : decode cX9_film 12 = .ok (.aload_n 0, 1) := by decide +kernel
theorem dX9_film_13 : decode cX9_film 13 = .ok (.iload_n 2, 1) := by decide +kernel
theorem dX9_film_14 : decode cX9_film 14 = .ok (.invokevirtual 176, 3) := by decide +kernel
theorem dX9_film_17 : decode cX9_film 17 = .ok (.ifCond .ne 6, 3) := by decide +kernel
theorem dX9_film_20 : decode cX9_film 20 = .ok (.bipush (-5), 2) := by decide +kernel
theorem dX9_film_22 : decode cX9_film 22 = .ok (.ireturn, 1) := by decide +kernel
theorem dX9_film_23 : decode cX9_film 23 = .ok (.iload_n 3, 1) := by decide +kernel
theorem dX9_film_24 : decode cX9_film 24 = .ok (.iconst 0, 1) := by decide +kernel
theorem dX9_film_25 : decode cX9_film 25 = .ok (.bipush 40, 2) := by decide +kernel
theorem dX9_film_27 : decode cX9_film 27 = .ok (.invokestatic 84, 3) := by decide +kernel
theorem dX9_film_30 : decode cX9_film 30 = .ok (.ifCond .ne 6, 3) := by decide +kernel
theorem dX9_film_33 : decode cX9_film 33 = .ok (.bipush (-7), 2) := by decide +kernel
theorem dX9_film_35 : decode cX9_film 35 = .ok (.ireturn, 1) := by decide +kernel
theorem dX9_film_36 : decode cX9_film 36 = .ok (.aload_n 0, 1) := by decide +kernel
theorem dX9_film_37 : decode cX9_film 37 = .ok (.getfield 34, 3) := by decide +kernel
theorem dX9_film_40 : decode cX9_film 40 = .ok (.iload_n 1, 1) := by decide +kernel
theorem dX9_film_41 : decode cX9_film 41 = .ok (.iconst 1, 1) := by decide +kernel
theorem dX9_film_42 : decode cX9_film 42 = .ok (.iastore, 1) := by decide +kernel
theorem dX9_film_43 : decode cX9_film 43 = .ok (.aload_n 0, 1) := by decide +kernel
theorem dX9_film_44 : decode cX9_film 44 = .ok (.getfield 37, 3) := by decide +kernel
theorem dX9_film_47 : decode cX9_film 47 = .ok (.iload_n 1, 1) := by decide +kernel
theorem dX9_film_48 : decode cX9_film 48 = .ok (.iload_n 3, 1) := by decide +kernel
theorem dX9_film_49 : decode cX9_film 49 = .ok (.iastore, 1) := by decide +kernel
theorem dX9_film_50 : decode cX9_film 50 = .ok (.aload_n 0, 1) := by decide +kernel
theorem dX9_film_51 : decode cX9_film 51 = .ok (.invokevirtual 231, 3) := by decide +kernel
theorem dX9_film_54 : decode cX9_film 54 = .ok (.iconst 0, 1) := by decide +kernel
theorem dX9_film_55 : decode cX9_film 55 = .ok (.istore 4, 2) := by decide +kernel
theorem dX9_film_57 : decode cX9_film 57 = .ok (.iload 4, 2) := by decide +kernel
theorem dX9_film_59 : decode cX9_film 59 = .ok (.bipush 40, 2) := by decide +kernel
theorem dX9_film_61 : decode cX9_film 61 = .ok (.if_icmp .ge 54, 3) := by decide +kernel
theorem dX9_film_64 : decode cX9_film 64 = .ok (.aload_n 0, 1) := by decide +kernel
theorem dX9_film_65 : decode cX9_film 65 = .ok (.iload_n 2, 1) := by decide +kernel
theorem dX9_film_66 : decode cX9_film 66 = .ok (.invokevirtual 216, 3) := by decide +kernel
theorem dX9_film_69 : decode cX9_film 69 = .ok (.aload_n 0, 1) := by decide +kernel
theorem dX9_film_70 : decode cX9_film 70 = .ok (.dup, 1) := by decide +kernel
theorem dX9_film_71 : decode cX9_film 71 = .ok (.getfield 91, 3) := by decide +kernel
theorem dX9_film_74 : decode cX9_film 74 = .ok (.iconst 1, 1) := by decide +kernel
theorem dX9_film_75 : decode cX9_film 75 = .ok (.iadd, 1) := by decide +kernel
theorem dX9_film_76 : decode cX9_film 76 = .ok (.putfield 91, 3) := by decide +kernel
theorem dX9_film_79 : decode cX9_film 79 = .ok (.aload_n 0, 1) := by decide +kernel
theorem dX9_film_80 : decode cX9_film 80 = .ok (.getfield 40, 3) := by decide +kernel
theorem dX9_film_83 : decode cX9_film 83 = .ok (.bipush 40, 2) := by decide +kernel
theorem dX9_film_85 : decode cX9_film 85 = .ok (.iload_n 1, 1) := by decide +kernel
theorem dX9_film_86 : decode cX9_film 86 = .ok (.imul, 1) := by decide +kernel
theorem dX9_film_87 : decode cX9_film 87 = .ok (.iload 4, 2) := by decide +kernel
theorem dX9_film_89 : decode cX9_film 89 = .ok (.iadd, 1) := by decide +kernel
theorem dX9_film_90 : decode cX9_film 90 = .ok (.iload 4, 2) := by decide +kernel
theorem dX9_film_92 : decode cX9_film 92 = .ok (.iload_n 3, 1) := by decide +kernel
theorem dX9_film_93 : decode cX9_film 93 = .ok (.if_icmp .ge 14, 3) := by decide +kernel
theorem dX9_film_96 : decode cX9_film 96 = .ok (.aload_n 0, 1) := by decide +kernel
theorem dX9_film_97 : decode cX9_film 97 = .ok (.getfield 16, 3) := by decide +kernel
theorem dX9_film_100 : decode cX9_film 100 = .ok (.iconst 4, 1) := by decide +kernel
theorem dX9_film_101 : decode cX9_film 101 = .ok (.iload_n 2, 1) := by decide +kernel
theorem dX9_film_102 : decode cX9_film 102 = .ok (.imul, 1) := by decide +kernel
theorem dX9_film_103 : decode cX9_film 103 = .ok (.iaload, 1) := by decide +kernel
theorem dX9_film_104 : decode cX9_film 104 = .ok (.goto 4, 3) := by decide +kernel
theorem dX9_film_107 : decode cX9_film 107 = .ok (.iconst 0, 1) := by decide +kernel
theorem dX9_film_108 : decode cX9_film 108 = .ok (.iastore, 1) := by decide +kernel
theorem dX9_film_109 : decode cX9_film 109 = .ok (.iinc 4 1, 3) := by decide +kernel
theorem dX9_film_112 : decode cX9_film 112 = .ok (.goto (-55), 3) := by decide +kernel
theorem dX9_film_115 : decode cX9_film 115 = .ok (.aload_n 0, 1) := by decide +kernel
theorem dX9_film_116 : decode cX9_film 116 = .ok (.invokevirtual 234, 3) := by decide +kernel
theorem dX9_film_119 : decode cX9_film 119 = .ok (.iload_n 3, 1) := by decide +kernel
theorem dX9_film_120 : decode cX9_film 120 = .ok (.ireturn, 1) := by decide +kernel
theorem dX9_goesByLots_0 : decode cX9_goesByLots 0 = .ok (.iload_n 1, 1) := by decide +kernel
theorem dX9_goesByLots_1 : decode cX9_goesByLots 1 = .ok (.i2l, 1) := by decide +kernel
theorem dX9_goesByLots_2 : decode cX9_goesByLots 2 = .ok (.lconst 1, 1) := by decide +kernel
theorem dX9_goesByLots_3 : decode cX9_goesByLots 3 = .ok (.ladd, 1) := by decide +kernel
theorem dX9_goesByLots_4 : decode cX9_goesByLots 4 = .ok (.lstore_n 3, 1) := by decide +kernel
theorem dX9_goesByLots_5 : decode cX9_goesByLots 5 = .ok (.aload_n 0, 1) := by decide +kernel
theorem dX9_goesByLots_6 : decode cX9_goesByLots 6 = .ok (.invokevirtual 231, 3) := by decide +kernel
theorem dX9_goesByLots_9 : decode cX9_goesByLots 9 = .ok (.iconst 0, 1) := by decide +kernel
theorem dX9_goesByLots_10 : decode cX9_goesByLots 10 = .ok (.istore 5, 2) := by decide +kernel
theorem dX9_goesByLots_12 : decode cX9_goesByLots 12 = .ok (.iload 5, 2) := by decide +kernel
theorem dX9_goesByLots_14 : decode cX9_goesByLots 14 = .ok (.iload_n 2, 1) := by decide +kernel
theorem dX9_goesByLots_15 : decode cX9_goesByLots 15 = .ok (.if_icmp .ge 60, 3) := by decide +kernel
theorem dX9_goesByLots_18 : decode cX9_goesByLots 18 = .ok (.iconst 0, 1) := by decide +kernel
theorem dX9_goesByLots_19 : decode cX9_goesByLots 19 = .ok (.istore 6, 2) := by decide +kernel
theorem dX9_goesByLots_21 : decode cX9_goesByLots 21 = .ok (.iload 6, 2) := by decide +kernel
theorem dX9_goesByLots_23 : decode cX9_goesByLots 23 = .ok (.aload_n 0, 1) := by decide +kernel
theorem dX9_goesByLots_24 : decode cX9_goesByLots 24 = .ok (.getfield 81, 3) := by decide +kernel
theorem dX9_goesByLots_27 : decode cX9_goesByLots 27 = .ok (.if_icmp .ge 36, 3) := by decide +kernel
theorem dX9_goesByLots_30 : decode cX9_goesByLots 30 = .ok (.lload_n 3, 1) := by decide +kernel
theorem dX9_goesByLots_31 : decode cX9_goesByLots 31 = .ok (.ldc2_w 301, 3) := by decide +kernel
theorem dX9_goesByLots_34 : decode cX9_goesByLots 34 = .ok (.lmul, 1) := by decide +kernel
theorem dX9_goesByLots_35 : decode cX9_goesByLots 35 = .ok (.ldc2_w 303, 3) := by decide +kernel
theorem dX9_goesByLots_38 : decode cX9_goesByLots 38 = .ok (.lrem, 1) := by decide +kernel
theorem dX9_goesByLots_39 : decode cX9_goesByLots 39 = .ok (.lstore_n 3, 1) := by decide +kernel
theorem dX9_goesByLots_40 : decode cX9_goesByLots 40 = .ok (.aload_n 0, 1) := by decide +kernel
theorem dX9_goesByLots_41 : decode cX9_goesByLots 41 = .ok (.getfield 16, 3) := by decide +kernel
theorem dX9_goesByLots_44 : decode cX9_goesByLots 44 = .ok (.iconst 4, 1) := by decide +kernel
theorem dX9_goesByLots_45 : decode cX9_goesByLots 45 = .ok (.iload 6, 2) := by decide +kernel
theorem dX9_goesByLots_47 : decode cX9_goesByLots 47 = .ok (.imul, 1) := by decide +kernel
theorem dX9_goesByLots_48 : decode cX9_goesByLots 48 = .ok (.iconst 1, 1) := by decide +kernel
theorem dX9_goesByLots_49 : decode cX9_goesByLots 49 = .ok (.iadd, 1) := by decide +kernel
theorem dX9_goesByLots_50 : decode cX9_goesByLots 50 = .ok (.lload_n 3, 1) := by decide +kernel
theorem dX9_goesByLots_51 : decode cX9_goesByLots 51 = .ok (.ldc2_w 305, 3) := by decide +kernel
theorem dX9_goesByLots_54 : decode cX9_goesByLots 54 = .ok (.lrem, 1) := by decide +kernel
theorem dX9_goesByLots_55 : decode cX9_goesByLots 55 = .ok (.l2i, 1) := by decide +kernel
theorem dX9_goesByLots_56 : decode cX9_goesByLots 56 = .ok (.iastore, 1) := by decide +kernel
theorem dX9_goesByLots_57 : decode cX9_goesByLots 57 = .ok (.iinc 6 1, 3) := by decide +kernel
theorem dX9_goesByLots_60 : decode cX9_goesByLots 60 = .ok (.goto (-39), 3) := by decide +kernel
theorem dX9_goesByLots_63 : decode cX9_goesByLots 63 = .ok (.aload_n 0, 1) := by decide +kernel
theorem dX9_goesByLots_64 : decode cX9_goesByLots 64 = .ok (.iload 5, 2) := by decide +kernel
theorem dX9_goesByLots_66 : decode cX9_goesByLots 66 = .ok (.invokevirtual 225, 3) := by decide +kernel
theorem dX9_goesByLots_69 : decode cX9_goesByLots 69 = .ok (.iinc 5 1, 3) := by decide +kernel
theorem dX9_goesByLots_72 : decode cX9_goesByLots 72 = .ok (.goto (-60), 3) := by decide +kernel
theorem dX9_goesByLots_75 : decode cX9_goesByLots 75 = .ok (.aload_n 0, 1) := by decide +kernel
theorem dX9_goesByLots_76 : decode cX9_goesByLots 76 = .ok (.invokevirtual 234, 3) := by decide +kernel
theorem dX9_goesByLots_79 : decode cX9_goesByLots 79 = .ok (.return_, 1) := by decide +kernel
theorem dX9_drawn_0 : decode cX9_drawn 0 = .ok (.iload_n 1, 1) := by decide +kernel
theorem dX9_drawn_1 : decode cX9_drawn 1 = .ok (.iconst 0, 1) := by decide +kernel
theorem dX9_drawn_2 : decode cX9_drawn 2 = .ok (.ldc_w 307, 3) := by decide +kernel
theorem dX9_drawn_5 : decode cX9_drawn 5 = .ok (.invokestatic 84, 3) := by decide +kernel
theorem dX9_drawn_8 : decode cX9_drawn 8 = .ok (.ifCond .eq 22, 3) := by decide +kernel
theorem dX9_drawn_11 : decode cX9_drawn 11 = .ok (.iload_n 2, 1) := by decide +kernel
theorem dX9_drawn_12 : decode cX9_drawn 12 = .ok (.iconst 0, 1) := by decide +kernel
theorem dX9_drawn_13 : decode cX9_drawn 13 = .ok (.bipush 60, 2) := by decide +kernel
theorem dX9_drawn_15 : decode cX9_drawn 15 = .ok (.invokestatic 84, 3) := by decide +kernel
theorem dX9_drawn_18 : decode cX9_drawn 18 = .ok (.ifCond .eq 12, 3) := by decide +kernel
theorem dX9_drawn_21 : decode cX9_drawn 21 = .ok (.iload_n 3, 1) := by decide +kernel
theorem dX9_drawn_22 : decode cX9_drawn 22 = .ok (.iconst 0, 1) := by decide +kernel
theorem dX9_drawn_23 : decode cX9_drawn 23 = .ok (.iconst 2, 1) := by decide +kernel
theorem dX9_drawn_24 : decode cX9_drawn 24 = .ok (.invokestatic 84, 3) := by decide +kernel
theorem dX9_drawn_27 : decode cX9_drawn 27 = .ok (.ifCond .ne 6, 3) := by decide +kernel
theorem dX9_drawn_30 : decode cX9_drawn 30 = .ok (.bipush (-2), 2) := by decide +kernel
theorem dX9_drawn_32 : decode cX9_drawn 32 = .ok (.ireturn, 1) := by decide +kernel
theorem dX9_drawn_33 : decode cX9_drawn 33 = .ok (.aload_n 0, 1) := by decide +kernel
theorem dX9_drawn_34 : decode cX9_drawn 34 = .ok (.iload_n 1, 1) := by decide +kernel
theorem dX9_drawn_35 : decode cX9_drawn 35 = .ok (.iload_n 2, 1) := by decide +kernel
theorem dX9_drawn_36 : decode cX9_drawn 36 = .ok (.invokevirtual 308, 3) := by decide +kernel
theorem dX9_drawn_39 : decode cX9_drawn 39 = .ok (.iload_n 3, 1) := by decide +kernel
theorem dX9_drawn_40 : decode cX9_drawn 40 = .ok (.ifCond .ne 10, 3) := by decide +kernel
theorem dX9_drawn_43 : decode cX9_drawn 43 = .ok (.aload_n 0, 1) := by decide +kernel
theorem dX9_drawn_44 : decode cX9_drawn 44 = .ok (.getfield 194, 3) := by decide +kernel
theorem dX9_drawn_47 : decode cX9_drawn 47 = .ok (.goto 19, 3) := by decide +kernel
theorem dX9_drawn_50 : decode cX9_drawn 50 = .ok (.iload_n 3, 1) := by decide +kernel
theorem dX9_drawn_51 : decode cX9_drawn 51 = .ok (.iconst 1, 1) := by decide +kernel
theorem dX9_drawn_52 : decode cX9_drawn 52 = .ok (.if_icmp .ne 10, 3) := by decide +kernel
theorem dX9_drawn_55 : decode cX9_drawn 55 = .ok (.aload_n 0, 1) := by decide +kernel
theorem dX9_drawn_56 : decode cX9_drawn 56 = .ok (.getfield 203, 3) := by decide +kernel
theorem dX9_drawn_59 : decode cX9_drawn 59 = .ok (.goto 7, 3) := by decide +kernel
theorem dX9_drawn_62 : decode cX9_drawn 62 = .ok (.aload_n 0, 1) := by decide +kernel
theorem dX9_drawn_63 : decode cX9_drawn 63 = .ok (.getfield 206, 3) := by decide +kernel
theorem dX9_drawn_66 : decode cX9_drawn 66 = .ok (.ireturn, 1) := by decide +kernel
theorem dX9_lowest_0 : decode cX9_lowest 0 = .ok (.lload_n 0, 1) := by decide +kernel
theorem dX9_lowest_1 : decode cX9_lowest 1 = .ok (.lconst 0, 1) := by decide +kernel
theorem dX9_lowest_2 : decode cX9_lowest 2 = .ok (.lcmp, 1) := by decide +kernel
theorem dX9_lowest_3 : decode cX9_lowest 3 = .ok (.ifCond .ne 7, 3) := by decide +kernel
theorem dX9_lowest_6 : decode cX9_lowest 6 = .ok (.iload 4, 2) := by decide +kernel
theorem dX9_lowest_8 : decode cX9_lowest 8 = .ok (.i2l, 1) := by decide +kernel
theorem dX9_lowest_9 : decode cX9_lowest 9 = .ok (.lreturn, 1) := by decide +kernel
theorem dX9_lowest_10 : decode cX9_lowest 10 = .ok (.lload_n 0, 1) := by decide +kernel
theorem dX9_lowest_11 : decode cX9_lowest 11 = .ok (.lstore 5, 2) := by decide +kernel
theorem dX9_lowest_13 : decode cX9_lowest 13 = .ok (.lload_n 2, 1) := by decide +kernel
theorem dX9_lowest_14 : decode cX9_lowest 14 = .ok (.lstore 7, 2) := by decide +kernel
theorem dX9_lowest_16 : decode cX9_lowest 16 = .ok (.lload 7, 2) := by decide +kernel
theorem dX9_lowest_18 : decode cX9_lowest 18 = .ok (.lconst 0, 1) := by decide +kernel
theorem dX9_lowest_19 : decode cX9_lowest 19 = .ok (.lcmp, 1) := by decide +kernel
theorem dX9_lowest_20 : decode cX9_lowest 20 = .ok (.ifCond .eq 21, 3) := by decide +kernel
theorem dX9_lowest_23 : decode cX9_lowest 23 = .ok (.lload 5, 2) := by decide +kernel
theorem dX9_lowest_25 : decode cX9_lowest 25 = .ok (.lload 7, 2) := by decide +kernel
theorem dX9_lowest_27 : decode cX9_lowest 27 = .ok (.lrem, 1) := by decide +kernel
theorem dX9_lowest_28 : decode cX9_lowest 28 = .ok (.lstore 9, 2) := by decide +kernel
theorem dX9_lowest_30 : decode cX9_lowest 30 = .ok (.lload 7, 2) := by decide +kernel
theorem dX9_lowest_32 : decode cX9_lowest 32 = .ok (.lstore 5, 2) := by decide +kernel
theorem dX9_lowest_34 : decode cX9_lowest 34 = .ok (.lload 9, 2) := by decide +kernel
theorem dX9_lowest_36 : decode cX9_lowest 36 = .ok (.lstore 7, 2) := by decide +kernel
theorem dX9_lowest_38 : decode cX9_lowest 38 = .ok (.goto (-22), 3) := by decide +kernel
theorem dX9_lowest_41 : decode cX9_lowest 41 = .ok (.iload 4, 2) := by decide +kernel
theorem dX9_lowest_43 : decode cX9_lowest 43 = .ok (.ifCond .ne 7, 3) := by decide +kernel
theorem dX9_lowest_46 : decode cX9_lowest 46 = .ok (.lload_n 0, 1) := by decide +kernel
theorem dX9_lowest_47 : decode cX9_lowest 47 = .ok (.goto 4, 3) := by decide +kernel
theorem dX9_lowest_50 : decode cX9_lowest 50 = .ok (.lload_n 2, 1) := by decide +kernel
theorem dX9_lowest_51 : decode cX9_lowest 51 = .ok (.lload 5, 2) := by decide +kernel
theorem dX9_lowest_53 : decode cX9_lowest 53 = .ok (.ldiv, 1) := by decide +kernel
theorem dX9_lowest_54 : decode cX9_lowest 54 = .ok (.lreturn, 1) := by decide +kernel
theorem dX9_odds_0 : decode cX9_odds 0 = .ok (.iload_n 1, 1) := by decide +kernel
theorem dX9_odds_1 : decode cX9_odds 1 = .ok (.iconst 0, 1) := by decide +kernel
theorem dX9_odds_2 : decode cX9_odds 2 = .ok (.ldc_w 307, 3) := by decide +kernel
theorem dX9_odds_5 : decode cX9_odds 5 = .ok (.invokestatic 84, 3) := by decide +kernel
theorem dX9_odds_8 : decode cX9_odds 8 = .ok (.ifCond .eq 33, 3) := by decide +kernel
theorem dX9_odds_11 : decode cX9_odds 11 = .ok (.iload_n 2, 1) := by decide +kernel
theorem dX9_odds_12 : decode cX9_odds 12 = .ok (.iconst 1, 1) := by decide +kernel
theorem dX9_odds_13 : decode cX9_odds 13 = .ok (.bipush 20, 2) := by decide +kernel
theorem dX9_odds_15 : decode cX9_odds 15 = .ok (.invokestatic 84, 3) := by decide +kernel
theorem dX9_odds_18 : decode cX9_odds 18 = .ok (.ifCond .eq 23, 3) := by decide +kernel
theorem dX9_odds_21 : decode cX9_odds 21 = .ok (.iload_n 3, 1) := by decide +kernel
theorem dX9_odds_22 : decode cX9_odds 22 = .ok (.iconst 0, 1) := by decide +kernel
theorem dX9_odds_23 : decode cX9_odds 23 = .ok (.bipush 60, 2) := by decide +kernel
theorem dX9_odds_25 : decode cX9_odds 25 = .ok (.invokestatic 84, 3) := by decide +kernel
theorem dX9_odds_28 : decode cX9_odds 28 = .ok (.ifCond .eq 13, 3) := by decide +kernel
theorem dX9_odds_31 : decode cX9_odds 31 = .ok (.iload 4, 2) := by decide +kernel
theorem dX9_odds_33 : decode cX9_odds 33 = .ok (.iconst 0, 1) := by decide +kernel
theorem dX9_odds_34 : decode cX9_odds 34 = .ok (.iconst 1, 1) := by decide +kernel
theorem dX9_odds_35 : decode cX9_odds 35 = .ok (.invokestatic 84, 3) := by decide +kernel
theorem dX9_odds_38 : decode cX9_odds 38 = .ok (.ifCond .ne 7, 3) := by decide +kernel
theorem dX9_odds_41 : decode cX9_odds 41 = .ok (.ldc2_w 299, 3) := by decide +kernel
theorem dX9_odds_44 : decode cX9_odds 44 = .ok (.lreturn, 1) := by decide +kernel
theorem dX9_odds_45 : decode cX9_odds 45 = .ok (.lconst 0, 1) := by decide +kernel
theorem dX9_odds_46 : decode cX9_odds 46 = .ok (.lstore 5, 2) := by decide +kernel
theorem dX9_odds_48 : decode cX9_odds 48 = .ok (.iconst 0, 1) := by decide +kernel
theorem dX9_odds_49 : decode cX9_odds 49 = .ok (.istore 7, 2) := by decide +kernel
theorem dX9_odds_51 : decode cX9_odds 51 = .ok (.iload 7, 2) := by decide +kernel
theorem dX9_odds_53 : decode cX9_odds 53 = .ok (.iload_n 2, 1) := by decide +kernel
theorem dX9_odds_54 : decode cX9_odds 54 = .ok (.if_icmp .ge 35, 3) := by decide +kernel
theorem dX9_odds_57 : decode cX9_odds 57 = .ok (.aload_n 0, 1) := by decide +kernel
theorem dX9_odds_58 : decode cX9_odds 58 = .ok (.iload_n 1, 1) := by decide +kernel
theorem dX9_odds_59 : decode cX9_odds 59 = .ok (.iload 7, 2) := by decide +kernel
theorem dX9_odds_61 : decode cX9_odds 61 = .ok (.iadd, 1) := by decide +kernel
theorem dX9_odds_62 : decode cX9_odds 62 = .ok (.iload_n 3, 1) := by decide +kernel
theorem dX9_odds_63 : decode cX9_odds 63 = .ok (.invokevirtual 308, 3) := by decide +kernel
theorem dX9_odds_66 : decode cX9_odds 66 = .ok (.lload 5, 2) := by decide +kernel
theorem dX9_odds_68 : decode cX9_odds 68 = .ok (.aload_n 0, 1) := by decide +kernel
theorem dX9_odds_69 : decode cX9_odds 69 = .ok (.getfield 194, 3) := by decide +kernel
theorem dX9_odds_72 : decode cX9_odds 72 = .ok (.ifCond .ne 7, 3) := by decide +kernel
theorem dX9_odds_75 : decode cX9_odds 75 = .ok (.lconst 1, 1) := by decide +kernel
theorem dX9_odds_76 : decode cX9_odds 76 = .ok (.goto 4, 3) := by decide +kernel
theorem dX9_odds_79 : decode cX9_odds 79 = .ok (.lconst 0, 1) := by decide +kernel
theorem dX9_odds_80 : decode cX9_odds 80 = .ok (.ladd, 1) := by decide +kernel
theorem dX9_odds_81 : decode cX9_odds 81 = .ok (.lstore 5, 2) := by decide +kernel
theorem dX9_odds_83 : decode cX9_odds 83 = .ok (.iinc 7 1, 3) := by decide +kernel
theorem dX9_odds_86 : decode cX9_odds 86 = .ok (.goto (-35), 3) := by decide +kernel
theorem dX9_odds_89 : decode cX9_odds 89 = .ok (.lload 5, 2) := by decide +kernel
theorem dX9_odds_91 : decode cX9_odds 91 = .ok (.iload_n 2, 1) := by decide +kernel
theorem dX9_odds_92 : decode cX9_odds 92 = .ok (.i2l, 1) := by decide +kernel
theorem dX9_odds_93 : decode cX9_odds 93 = .ok (.iload 4, 2) := by decide +kernel
theorem dX9_odds_95 : decode cX9_odds 95 = .ok (.invokestatic 311, 3) := by decide +kernel
theorem dX9_odds_98 : decode cX9_odds 98 = .ok (.lreturn, 1) := by decide +kernel
theorem dX9_image_0 : decode cX9_image 0 = .ok (.aload_n 0, 1) := by decide +kernel
theorem dX9_image_1 : decode cX9_image 1 = .ok (.iconst 1, 1) := by decide +kernel
theorem dX9_image_2 : decode cX9_image 2 = .ok (.putfield 315, 3) := by decide +kernel
theorem dX9_image_5 : decode cX9_image 5 = .ok (.aload_n 0, 1) := by decide +kernel
theorem dX9_image_6 : decode cX9_image 6 = .ok (.aload_n 0, 1) := by decide +kernel
theorem dX9_image_7 : decode cX9_image 7 = .ok (.getfield 81, 3) := by decide +kernel
theorem dX9_image_10 : decode cX9_image 10 = .ok (.putfield 319, 3) := by decide +kernel
theorem dX9_image_13 : decode cX9_image 13 = .ok (.aload_n 0, 1) := by decide +kernel
theorem dX9_image_14 : decode cX9_image 14 = .ok (.aload_n 0, 1) := by decide +kernel
theorem dX9_image_15 : decode cX9_image 15 = .ok (.getfield 88, 3) := by decide +kernel
theorem dX9_image_18 : decode cX9_image 18 = .ok (.putfield 322, 3) := by decide +kernel
theorem dX9_image_21 : decode cX9_image 21 = .ok (.aload_n 0, 1) := by decide +kernel
theorem dX9_image_22 : decode cX9_image 22 = .ok (.aload_n 0, 1) := by decide +kernel
theorem dX9_image_23 : decode cX9_image 23 = .ok (.getfield 91, 3) := by decide +kernel
theorem dX9_image_26 : decode cX9_image 26 = .ok (.putfield 325, 3) := by decide +kernel
theorem dX9_image_29 : decode cX9_image 29 = .ok (.aload_n 0, 1) := by decide +kernel
theorem dX9_image_30 : decode cX9_image 30 = .ok (.aload_n 0, 1) := by decide +kernel
theorem dX9_image_31 : decode cX9_image 31 = .ok (.getfield 97, 3) := by decide +kernel
theorem dX9_image_34 : decode cX9_image 34 = .ok (.putfield 328, 3) := by decide +kernel
theorem dX9_image_37 : decode cX9_image 37 = .ok (.iconst 0, 1) := by decide +kernel
theorem dX9_image_38 : decode cX9_image 38 = .ok (.istore_n 1, 1) := by decide +kernel
theorem dX9_image_39 : decode cX9_image 39 = .ok (.iload_n 1, 1) := by decide +kernel
theorem dX9_image_40 : decode cX9_image 40 = .ok (.bipush 24, 2) := by decide +kernel
theorem dX9_image_42 : decode cX9_image 42 = .ok (.if_icmp .ge 21, 3) := by decide +kernel
theorem dX9_image_45 : decode cX9_image 45 = .ok (.aload_n 0, 1) := by decide +kernel
theorem dX9_image_46 : decode cX9_image 46 = .ok (.getfield 31, 3) := by decide +kernel
theorem dX9_image_49 : decode cX9_image 49 = .ok (.iload_n 1, 1) := by decide +kernel
theorem dX9_image_50 : decode cX9_image 50 = .ok (.aload_n 0, 1) := by decide +kernel
theorem dX9_image_51 : decode cX9_image 51 = .ok (.getfield 16, 3) := by decide +kernel
theorem dX9_image_54 : decode cX9_image 54 = .ok (.iload_n 1, 1) := by decide +kernel
theorem dX9_image_55 : decode cX9_image 55 = .ok (.iaload, 1) := by decide +kernel
theorem dX9_image_56 : decode cX9_image 56 = .ok (.iastore, 1) := by decide +kernel
theorem dX9_image_57 : decode cX9_image 57 = .ok (.iinc 1 1, 3) := by decide +kernel
theorem dX9_image_60 : decode cX9_image 60 = .ok (.goto (-21), 3) := by decide +kernel
theorem dX9_image_63 : decode cX9_image 63 = .ok (.iconst 0, 1) := by decide +kernel
theorem dX9_image_64 : decode cX9_image 64 = .ok (.istore_n 1, 1) := by decide +kernel
theorem dX9_image_65 : decode cX9_image 65 = .ok (.iload_n 1, 1) := by decide +kernel
theorem dX9_image_66 : decode cX9_image 66 = .ok (.bipush 48, 2) := by decide +kernel
theorem dX9_image_68 : decode cX9_image 68 = .ok (.if_icmp .ge 24, 3) := by decide +kernel
theorem dX9_image_71 : decode cX9_image 71 = .ok (.aload_n 0, 1) := by decide +kernel
theorem dX9_image_72 : decode cX9_image 72 = .ok (.getfield 31, 3) := by decide +kernel
theorem dX9_image_75 : decode cX9_image 75 = .ok (.bipush 24, 2) := by decide +kernel
theorem dX9_image_77 : decode cX9_image 77 = .ok (.iload_n 1, 1) := by decide +kernel
theorem dX9_image_78 : decode cX9_image 78 = .ok (.iadd, 1) := by decide +kernel
theorem dX9_image_79 : decode cX9_image 79 = .ok (.aload_n 0, 1) := by decide +kernel
theorem dX9_image_80 : decode cX9_image 80 = .ok (.getfield 19, 3) := by decide +kernel
theorem dX9_image_83 : decode cX9_image 83 = .ok (.iload_n 1, 1) := by decide +kernel
theorem dX9_image_84 : decode cX9_image 84 = .ok (.iaload, 1) := by decide +kernel
theorem dX9_image_85 : decode cX9_image 85 = .ok (.iastore, 1) := by decide +kernel
theorem dX9_image_86 : decode cX9_image 86 = .ok (.iinc 1 1, 3) := by decide +kernel
theorem dX9_image_89 : decode cX9_image 89 = .ok (.goto (-24), 3) := by decide +kernel
theorem dX9_image_92 : decode cX9_image 92 = .ok (.aload_n 0, 1) := by decide +kernel
theorem dX9_image_93 : decode cX9_image 93 = .ok (.getfield 81, 3) := by decide +kernel
theorem dX9_image_96 : decode cX9_image 96 = .ok (.ireturn, 1) := by decide +kernel
theorem dX9_back_0 : decode cX9_back 0 = .ok (.aload_n 0, 1) := by decide +kernel
theorem dX9_back_1 : decode cX9_back 1 = .ok (.getfield 315, 3) := by decide +kernel
theorem dX9_back_4 : decode cX9_back 4 = .ok (.ifCond .ne 6, 3) := by decide +kernel
theorem dX9_back_7 : decode cX9_back 7 = .ok (.bipush (-3), 2) := by decide +kernel
theorem dX9_back_9 : decode cX9_back 9 = .ok (.ireturn, 1) := by decide +kernel
theorem dX9_back_10 : decode cX9_back 10 = .ok (.aload_n 0, 1) := by decide +kernel
theorem dX9_back_11 : decode cX9_back 11 = .ok (.aload_n 0, 1) := by decide +kernel
theorem dX9_back_12 : decode cX9_back 12 = .ok (.getfield 319, 3) := by decide +kernel
theorem dX9_back_15 : decode cX9_back 15 = .ok (.putfield 81, 3) := by decide +kernel
theorem dX9_back_18 : decode cX9_back 18 = .ok (.aload_n 0, 1) := by decide +kernel
theorem dX9_back_19 : decode cX9_back 19 = .ok (.aload_n 0, 1) := by decide +kernel
theorem dX9_back_20 : decode cX9_back 20 = .ok (.getfield 322, 3) := by decide +kernel
theorem dX9_back_23 : decode cX9_back 23 = .ok (.putfield 88, 3) := by decide +kernel
theorem dX9_back_26 : decode cX9_back 26 = .ok (.aload_n 0, 1) := by decide +kernel
theorem dX9_back_27 : decode cX9_back 27 = .ok (.aload_n 0, 1) := by decide +kernel
theorem dX9_back_28 : decode cX9_back 28 = .ok (.getfield 325, 3) := by decide +kernel
theorem dX9_back_31 : decode cX9_back 31 = .ok (.putfield 91, 3) := by decide +kernel
theorem dX9_back_34 : decode cX9_back 34 = .ok (.aload_n 0, 1) := by decide +kernel
theorem dX9_back_35 : decode cX9_back 35 = .ok (.aload_n 0, 1) := by decide +kernel
theorem dX9_back_36 : decode cX9_back 36 = .ok (.getfield 328, 3) := by decide +kernel
theorem dX9_back_39 : decode cX9_back 39 = .ok (.putfield 97, 3) := by decide +kernel
theorem dX9_back_42 : decode cX9_back 42 = .ok (.iconst 0, 1) := by decide +kernel
theorem dX9_back_43 : decode cX9_back 43 = .ok (.istore_n 1, 1) := by decide +kernel
theorem dX9_back_44 : decode cX9_back 44 = .ok (.iload_n 1, 1) := by decide +kernel
theorem dX9_back_45 : decode cX9_back 45 = .ok (.bipush 24, 2) := by decide +kernel
theorem dX9_back_47 : decode cX9_back 47 = .ok (.if_icmp .ge 21, 3) := by decide +kernel
theorem dX9_back_50 : decode cX9_back 50 = .ok (.aload_n 0, 1) := by decide +kernel
theorem dX9_back_51 : decode cX9_back 51 = .ok (.getfield 16, 3) := by decide +kernel
theorem dX9_back_54 : decode cX9_back 54 = .ok (.iload_n 1, 1) := by decide +kernel
theorem dX9_back_55 : decode cX9_back 55 = .ok (.aload_n 0, 1) := by decide +kernel
theorem dX9_back_56 : decode cX9_back 56 = .ok (.getfield 31, 3) := by decide +kernel
theorem dX9_back_59 : decode cX9_back 59 = .ok (.iload_n 1, 1) := by decide +kernel
theorem dX9_back_60 : decode cX9_back 60 = .ok (.iaload, 1) := by decide +kernel
theorem dX9_back_61 : decode cX9_back 61 = .ok (.iastore, 1) := by decide +kernel
theorem dX9_back_62 : decode cX9_back 62 = .ok (.iinc 1 1, 3) := by decide +kernel
theorem dX9_back_65 : decode cX9_back 65 = .ok (.goto (-21), 3) := by decide +kernel
theorem dX9_back_68 : decode cX9_back 68 = .ok (.iconst 0, 1) := by decide +kernel
theorem dX9_back_69 : decode cX9_back 69 = .ok (.istore_n 1, 1) := by decide +kernel
theorem dX9_back_70 : decode cX9_back 70 = .ok (.iload_n 1, 1) := by decide +kernel
theorem dX9_back_71 : decode cX9_back 71 = .ok (.bipush 48, 2) := by decide +kernel
theorem dX9_back_73 : decode cX9_back 73 = .ok (.if_icmp .ge 24, 3) := by decide +kernel
theorem dX9_back_76 : decode cX9_back 76 = .ok (.aload_n 0, 1) := by decide +kernel
theorem dX9_back_77 : decode cX9_back 77 = .ok (.getfield 19, 3) := by decide +kernel
theorem dX9_back_80 : decode cX9_back 80 = .ok (.iload_n 1, 1) := by decide +kernel
theorem dX9_back_81 : decode cX9_back 81 = .ok (.aload_n 0, 1) := by decide +kernel
theorem dX9_back_82 : decode cX9_back 82 = .ok (.getfield 31, 3) := by decide +kernel
theorem dX9_back_85 : decode cX9_back 85 = .ok (.bipush 24, 2) := by decide +kernel
theorem dX9_back_87 : decode cX9_back 87 = .ok (.iload_n 1, 1) := by decide +kernel
theorem dX9_back_88 : decode cX9_back 88 = .ok (.iadd, 1) := by decide +kernel
theorem dX9_back_89 : decode cX9_back 89 = .ok (.iaload, 1) := by decide +kernel
theorem dX9_back_90 : decode cX9_back 90 = .ok (.iastore, 1) := by decide +kernel
theorem dX9_back_91 : decode cX9_back 91 = .ok (.iinc 1 1, 3) := by decide +kernel
theorem dX9_back_94 : decode cX9_back 94 = .ok (.goto (-24), 3) := by decide +kernel
theorem dX9_back_97 : decode cX9_back 97 = .ok (.aload_n 0, 1) := by decide +kernel
theorem dX9_back_98 : decode cX9_back 98 = .ok (.getfield 81, 3) := by decide +kernel
theorem dX9_back_101 : decode cX9_back 101 = .ok (.ireturn, 1) := by decide +kernel
theorem dX9_sheet_0 : decode cX9_sheet 0 = .ok (.iload_n 1, 1) := by decide +kernel
theorem dX9_sheet_1 : decode cX9_sheet 1 = .ok (.iconst 0, 1) := by decide +kernel
theorem dX9_sheet_2 : decode cX9_sheet 2 = .ok (.iconst 3, 1) := by decide +kernel
theorem dX9_sheet_3 : decode cX9_sheet 3 = .ok (.invokestatic 84, 3) := by decide +kernel
theorem dX9_sheet_6 : decode cX9_sheet 6 = .ok (.ifCond .eq 23, 3) := by decide +kernel
theorem dX9_sheet_9 : decode cX9_sheet 9 = .ok (.iload_n 2, 1) := by decide +kernel
theorem dX9_sheet_10 : decode cX9_sheet 10 = .ok (.iconst (-1), 1) := by decide +kernel
theorem dX9_sheet_11 : decode cX9_sheet 11 = .ok (.iconst 2, 1) := by decide +kernel
theorem dX9_sheet_12 : decode cX9_sheet 12 = .ok (.invokestatic 84, 3) := by decide +kernel
theorem dX9_sheet_15 : decode cX9_sheet 15 = .ok (.ifCond .eq 14, 3) := by decide +kernel
theorem dX9_sheet_18 : decode cX9_sheet 18 = .ok (.iload_n 2, 1) := by decide +kernel
theorem dX9_sheet_19 : decode cX9_sheet 19 = .ok (.iconst (-1), 1) := by decide +kernel
theorem dX9_sheet_20 : decode cX9_sheet 20 = .ok (.if_icmp .eq 12, 3) := by decide +kernel
theorem dX9_sheet_23 : decode cX9_sheet 23 = .ok (.iload_n 3, 1) := by decide +kernel
theorem dX9_sheet_24 : decode cX9_sheet 24 = .ok (.bipush 40, 2) := by decide +kernel
theorem dX9_sheet_26 : decode cX9_sheet 26 = .ok (.if_icmp .le 6, 3) := by decide +kernel
theorem dX9_sheet_29 : decode cX9_sheet 29 = .ok (.bipush (-2), 2) := by decide +kernel
theorem dX9_sheet_31 : decode cX9_sheet 31 = .ok (.ireturn, 1) := by decide +kernel
theorem dX9_sheet_32 : decode cX9_sheet 32 = .ok (.iload_n 2, 1) := by decide +kernel
theorem dX9_sheet_33 : decode cX9_sheet 33 = .ok (.iconst (-1), 1) := by decide +kernel
theorem dX9_sheet_34 : decode cX9_sheet 34 = .ok (.if_icmp .eq 10, 3) := by decide +kernel
theorem dX9_sheet_37 : decode cX9_sheet 37 = .ok (.iload_n 3, 1) := by decide +kernel
theorem dX9_sheet_38 : decode cX9_sheet 38 = .ok (.ifCond .ge 6, 3) := by decide +kernel
theorem dX9_sheet_41 : decode cX9_sheet 41 = .ok (.bipush (-14), 2) := by decide +kernel
theorem dX9_sheet_43 : decode cX9_sheet 43 = .ok (.ireturn, 1) := by decide +kernel
theorem dX9_sheet_44 : decode cX9_sheet 44 = .ok (.aload_n 0, 1) := by decide +kernel
theorem dX9_sheet_45 : decode cX9_sheet 45 = .ok (.getfield 34, 3) := by decide +kernel
theorem dX9_sheet_48 : decode cX9_sheet 48 = .ok (.iload_n 1, 1) := by decide +kernel
theorem dX9_sheet_49 : decode cX9_sheet 49 = .ok (.iload_n 2, 1) := by decide +kernel
theorem dX9_sheet_50 : decode cX9_sheet 50 = .ok (.iastore, 1) := by decide +kernel
theorem dX9_sheet_51 : decode cX9_sheet 51 = .ok (.aload_n 0, 1) := by decide +kernel
theorem dX9_sheet_52 : decode cX9_sheet 52 = .ok (.getfield 37, 3) := by decide +kernel
theorem dX9_sheet_55 : decode cX9_sheet 55 = .ok (.iload_n 1, 1) := by decide +kernel
theorem dX9_sheet_56 : decode cX9_sheet 56 = .ok (.iload_n 2, 1) := by decide +kernel
theorem dX9_sheet_57 : decode cX9_sheet 57 = .ok (.iconst (-1), 1) := by decide +kernel
theorem dX9_sheet_58 : decode cX9_sheet 58 = .ok (.if_icmp .ne 7, 3) := by decide +kernel
theorem dX9_sheet_61 : decode cX9_sheet 61 = .ok (.iconst 0, 1) := by decide +kernel
theorem dX9_sheet_62 : decode cX9_sheet 62 = .ok (.goto 4, 3) := by decide +kernel
theorem dX9_sheet_65 : decode cX9_sheet 65 = .ok (.iload_n 3, 1) := by decide +kernel
theorem dX9_sheet_66 : decode cX9_sheet 66 = .ok (.iastore, 1) := by decide +kernel
theorem dX9_sheet_67 : decode cX9_sheet 67 = .ok (.iconst 0, 1) := by decide +kernel
theorem dX9_sheet_68 : decode cX9_sheet 68 = .ok (.istore 4, 2) := by decide +kernel
theorem dX9_sheet_70 : decode cX9_sheet 70 = .ok (.iload 4, 2) := by decide +kernel
theorem dX9_sheet_72 : decode cX9_sheet 72 = .ok (.bipush 40, 2) := by decide +kernel
theorem dX9_sheet_74 : decode cX9_sheet 74 = .ok (.if_icmp .ge 22, 3) := by decide +kernel
theorem dX9_sheet_77 : decode cX9_sheet 77 = .ok (.aload_n 0, 1) := by decide +kernel
theorem dX9_sheet_78 : decode cX9_sheet 78 = .ok (.getfield 40, 3) := by decide +kernel
theorem dX9_sheet_81 : decode cX9_sheet 81 = .ok (.bipush 40, 2) := by decide +kernel
theorem dX9_sheet_83 : decode cX9_sheet 83 = .ok (.iload_n 1, 1) := by decide +kernel
theorem dX9_sheet_84 : decode cX9_sheet 84 = .ok (.imul, 1) := by decide +kernel
theorem dX9_sheet_85 : decode cX9_sheet 85 = .ok (.iload 4, 2) := by decide +kernel
theorem dX9_sheet_87 : decode cX9_sheet 87 = .ok (.iadd, 1) := by decide +kernel
theorem dX9_sheet_88 : decode cX9_sheet 88 = .ok (.iconst 0, 1) := by decide +kernel
theorem dX9_sheet_89 : decode cX9_sheet 89 = .ok (.iastore, 1) := by decide +kernel
theorem dX9_sheet_90 : decode cX9_sheet 90 = .ok (.iinc 4 1, 3) := by decide +kernel
theorem dX9_sheet_93 : decode cX9_sheet 93 = .ok (.goto (-23), 3) := by decide +kernel
theorem dX9_sheet_96 : decode cX9_sheet 96 = .ok (.iconst 1, 1) := by decide +kernel
theorem dX9_sheet_97 : decode cX9_sheet 97 = .ok (.ireturn, 1) := by decide +kernel
theorem dX9_cell_0 : decode cX9_cell 0 = .ok (.iload_n 1, 1) := by decide +kernel
theorem dX9_cell_1 : decode cX9_cell 1 = .ok (.iconst 0, 1) := by decide +kernel
theorem dX9_cell_2 : decode cX9_cell 2 = .ok (.iconst 3, 1) := by decide +kernel
theorem dX9_cell_3 : decode cX9_cell 3 = .ok (.invokestatic 84, 3) := by decide +kernel
theorem dX9_cell_6 : decode cX9_cell 6 = .ok (.ifCond .ne 6, 3) := by decide +kernel
theorem dX9_cell_9 : decode cX9_cell 9 = .ok (.bipush (-2), 2) := by decide +kernel
theorem dX9_cell_11 : decode cX9_cell 11 = .ok (.ireturn, 1) := by decide +kernel
theorem dX9_cell_12 : decode cX9_cell 12 = .ok (.aload_n 0, 1) := by decide +kernel
theorem dX9_cell_13 : decode cX9_cell 13 = .ok (.getfield 34, 3) := by decide +kernel
theorem dX9_cell_16 : decode cX9_cell 16 = .ok (.iload_n 1, 1) := by decide +kernel
theorem dX9_cell_17 : decode cX9_cell 17 = .ok (.iaload, 1) := by decide +kernel
theorem dX9_cell_18 : decode cX9_cell 18 = .ok (.iconst (-1), 1) := by decide +kernel
theorem dX9_cell_19 : decode cX9_cell 19 = .ok (.if_icmp .ne 6, 3) := by decide +kernel
theorem dX9_cell_22 : decode cX9_cell 22 = .ok (.bipush (-11), 2) := by decide +kernel
theorem dX9_cell_24 : decode cX9_cell 24 = .ok (.ireturn, 1) := by decide +kernel
theorem dX9_cell_25 : decode cX9_cell 25 = .ok (.iload_n 2, 1) := by decide +kernel
theorem dX9_cell_26 : decode cX9_cell 26 = .ok (.iconst 0, 1) := by decide +kernel
theorem dX9_cell_27 : decode cX9_cell 27 = .ok (.aload_n 0, 1) := by decide +kernel
theorem dX9_cell_28 : decode cX9_cell 28 = .ok (.getfield 37, 3) := by decide +kernel
theorem dX9_cell_31 : decode cX9_cell 31 = .ok (.iload_n 1, 1) := by decide +kernel
theorem dX9_cell_32 : decode cX9_cell 32 = .ok (.iaload, 1) := by decide +kernel
theorem dX9_cell_33 : decode cX9_cell 33 = .ok (.iconst 1, 1) := by decide +kernel
theorem dX9_cell_34 : decode cX9_cell 34 = .ok (.isub, 1) := by decide +kernel
theorem dX9_cell_35 : decode cX9_cell 35 = .ok (.invokestatic 84, 3) := by decide +kernel
theorem dX9_cell_38 : decode cX9_cell 38 = .ok (.ifCond .ne 6, 3) := by decide +kernel
theorem dX9_cell_41 : decode cX9_cell 41 = .ok (.bipush (-12), 2) := by decide +kernel
theorem dX9_cell_43 : decode cX9_cell 43 = .ok (.ireturn, 1) := by decide +kernel
theorem dX9_cell_44 : decode cX9_cell 44 = .ok (.aload_n 0, 1) := by decide +kernel
theorem dX9_cell_45 : decode cX9_cell 45 = .ok (.getfield 40, 3) := by decide +kernel
theorem dX9_cell_48 : decode cX9_cell 48 = .ok (.bipush 40, 2) := by decide +kernel
theorem dX9_cell_50 : decode cX9_cell 50 = .ok (.iload_n 1, 1) := by decide +kernel
theorem dX9_cell_51 : decode cX9_cell 51 = .ok (.imul, 1) := by decide +kernel
theorem dX9_cell_52 : decode cX9_cell 52 = .ok (.iload_n 2, 1) := by decide +kernel
theorem dX9_cell_53 : decode cX9_cell 53 = .ok (.iadd, 1) := by decide +kernel
theorem dX9_cell_54 : decode cX9_cell 54 = .ok (.aload_n 0, 1) := by decide +kernel
theorem dX9_cell_55 : decode cX9_cell 55 = .ok (.getfield 34, 3) := by decide +kernel
theorem dX9_cell_58 : decode cX9_cell 58 = .ok (.iload_n 1, 1) := by decide +kernel
theorem dX9_cell_59 : decode cX9_cell 59 = .ok (.iaload, 1) := by decide +kernel
theorem dX9_cell_60 : decode cX9_cell 60 = .ok (.ifCond .ne 8, 3) := by decide +kernel
theorem dX9_cell_63 : decode cX9_cell 63 = .ok (.iload_n 3, 1) := by decide +kernel
theorem dX9_cell_64 : decode cX9_cell 64 = .ok (.i2b, 1) := by decide +kernel
theorem dX9_cell_65 : decode cX9_cell 65 = .ok (.goto 19, 3) := by decide +kernel
theorem dX9_cell_68 : decode cX9_cell 68 = .ok (.aload_n 0, 1) := by decide +kernel
theorem dX9_cell_69 : decode cX9_cell 69 = .ok (.getfield 34, 3) := by decide +kernel
theorem dX9_cell_72 : decode cX9_cell 72 = .ok (.iload_n 1, 1) := by decide +kernel
theorem dX9_cell_73 : decode cX9_cell 73 = .ok (.iaload, 1) := by decide +kernel
theorem dX9_cell_74 : decode cX9_cell 74 = .ok (.iconst 1, 1) := by decide +kernel
theorem dX9_cell_75 : decode cX9_cell 75 = .ok (.if_icmp .ne 8, 3) := by decide +kernel
theorem dX9_cell_78 : decode cX9_cell 78 = .ok (.iload_n 3, 1) := by decide +kernel
theorem dX9_cell_79 : decode cX9_cell 79 = .ok (.i2s, 1) := by decide +kernel
theorem dX9_cell_80 : decode cX9_cell 80 = .ok (.goto 4, 3) := by decide +kernel
theorem dX9_cell_83 : decode cX9_cell 83 = .ok (.iload_n 3, 1) := by decide +kernel
theorem dX9_cell_84 : decode cX9_cell 84 = .ok (.iastore, 1) := by decide +kernel
theorem dX9_cell_85 : decode cX9_cell 85 = .ok (.iconst 1, 1) := by decide +kernel
theorem dX9_cell_86 : decode cX9_cell 86 = .ok (.ireturn, 1) := by decide +kernel
theorem dX9_copy_0 : decode cX9_copy 0 = .ok (.iload_n 1, 1) := by decide +kernel
theorem dX9_copy_1 : decode cX9_copy 1 = .ok (.iconst 0, 1) := by decide +kernel
theorem dX9_copy_2 : decode cX9_copy 2 = .ok (.iconst 3, 1) := by decide +kernel
theorem dX9_copy_3 : decode cX9_copy 3 = .ok (.invokestatic 84, 3) := by decide +kernel
theorem dX9_copy_6 : decode cX9_copy 6 = .ok (.ifCond .eq 12, 3) := by decide +kernel
theorem dX9_copy_9 : decode cX9_copy 9 = .ok (.iload_n 3, 1) := by decide +kernel
theorem dX9_copy_10 : decode cX9_copy 10 = .ok (.iconst 0, 1) := by decide +kernel
theorem dX9_copy_11 : decode cX9_copy 11 = .ok (.iconst 3, 1) := by decide +kernel
theorem dX9_copy_12 : decode cX9_copy 12 = .ok (.invokestatic 84, 3) := by decide +kernel
theorem dX9_copy_15 : decode cX9_copy 15 = .ok (.ifCond .ne 6, 3) := by decide +kernel
theorem dX9_copy_18 : decode cX9_copy 18 = .ok (.bipush (-2), 2) := by decide +kernel
theorem dX9_copy_20 : decode cX9_copy 20 = .ok (.ireturn, 1) := by decide +kernel
theorem dX9_copy_21 : decode cX9_copy 21 = .ok (.aload_n 0, 1) := by decide +kernel
theorem dX9_copy_22 : decode cX9_copy 22 = .ok (.getfield 34, 3) := by decide +kernel
theorem dX9_copy_25 : decode cX9_copy 25 = .ok (.iload_n 1, 1) := by decide +kernel
theorem dX9_copy_26 : decode cX9_copy 26 = .ok (.iaload, 1) := by decide +kernel
theorem dX9_copy_27 : decode cX9_copy 27 = .ok (.iconst (-1), 1) := by decide +kernel
theorem dX9_copy_28 : decode cX9_copy 28 = .ok (.if_icmp .eq 13, 3) := by decide +kernel
theorem dX9_copy_31 : decode cX9_copy 31 = .ok (.aload_n 0, 1) := by decide +kernel
theorem dX9_copy_32 : decode cX9_copy 32 = .ok (.getfield 34, 3) := by decide +kernel
theorem dX9_copy_35 : decode cX9_copy 35 = .ok (.iload_n 3, 1) := by decide +kernel
theorem dX9_copy_36 : decode cX9_copy 36 = .ok (.iaload, 1) := by decide +kernel
theorem dX9_copy_37 : decode cX9_copy 37 = .ok (.iconst (-1), 1) := by decide +kernel
theorem dX9_copy_38 : decode cX9_copy 38 = .ok (.if_icmp .ne 6, 3) := by decide +kernel
theorem dX9_copy_41 : decode cX9_copy 41 = .ok (.bipush (-11), 2) := by decide +kernel
theorem dX9_copy_43 : decode cX9_copy 43 = .ok (.ireturn, 1) := by decide +kernel
theorem dX9_copy_44 : decode cX9_copy 44 = .ok (.aload_n 0, 1) := by decide +kernel
theorem dX9_copy_45 : decode cX9_copy 45 = .ok (.getfield 34, 3) := by decide +kernel
theorem dX9_copy_48 : decode cX9_copy 48 = .ok (.iload_n 1, 1) := by decide +kernel
theorem dX9_copy_49 : decode cX9_copy 49 = .ok (.iaload, 1) := by decide +kernel
theorem dX9_copy_50 : decode cX9_copy 50 = .ok (.aload_n 0, 1) := by decide +kernel
theorem dX9_copy_51 : decode cX9_copy 51 = .ok (.getfield 34, 3) := by decide +kernel
theorem dX9_copy_54 : decode cX9_copy 54 = .ok (.iload_n 3, 1) := by decide +kernel
theorem dX9_copy_55 : decode cX9_copy 55 = .ok (.iaload, 1) := by decide +kernel
theorem dX9_copy_56 : decode cX9_copy 56 = .ok (.if_icmp .eq 6, 3) := by decide +kernel
theorem dX9_copy_59 : decode cX9_copy 59 = .ok (.bipush (-13), 2) := by decide +kernel
theorem dX9_copy_61 : decode cX9_copy 61 = .ok (.ireturn, 1) := by decide +kernel
theorem dX9_copy_62 : decode cX9_copy 62 = .ok (.iload 5, 2) := by decide +kernel
theorem dX9_copy_64 : decode cX9_copy 64 = .ok (.ifCond .lt 60, 3) := by decide +kernel
theorem dX9_copy_67 : decode cX9_copy 67 = .ok (.iload_n 2, 1) := by decide +kernel
theorem dX9_copy_68 : decode cX9_copy 68 = .ok (.ifCond .lt 56, 3) := by decide +kernel
theorem dX9_copy_71 : decode cX9_copy 71 = .ok (.iload 4, 2) := by decide +kernel
theorem dX9_copy_73 : decode cX9_copy 73 = .ok (.ifCond .lt 51, 3) := by decide +kernel
theorem dX9_copy_76 : decode cX9_copy 76 = .ok (.iload_n 2, 1) := by decide +kernel
theorem dX9_copy_77 : decode cX9_copy 77 = .ok (.aload_n 0, 1) := by decide +kernel
theorem dX9_copy_78 : decode cX9_copy 78 = .ok (.getfield 37, 3) := by decide +kernel
theorem dX9_copy_81 : decode cX9_copy 81 = .ok (.iload_n 1, 1) := by decide +kernel
theorem dX9_copy_82 : decode cX9_copy 82 = .ok (.iaload, 1) := by decide +kernel
theorem dX9_copy_83 : decode cX9_copy 83 = .ok (.if_icmp .gt 41, 3) := by decide +kernel
theorem dX9_copy_86 : decode cX9_copy 86 = .ok (.iload 4, 2) := by decide +kernel
theorem dX9_copy_88 : decode cX9_copy 88 = .ok (.aload_n 0, 1) := by decide +kernel
theorem dX9_copy_89 : decode cX9_copy 89 = .ok (.getfield 37, 3) := by decide +kernel
theorem dX9_copy_92 : decode cX9_copy 92 = .ok (.iload_n 3, 1) := by decide +kernel
theorem dX9_copy_93 : decode cX9_copy 93 = .ok (.iaload, 1) := by decide +kernel
theorem dX9_copy_94 : decode cX9_copy 94 = .ok (.if_icmp .gt 30, 3) := by decide +kernel
theorem dX9_copy_97 : decode cX9_copy 97 = .ok (.iload 5, 2) := by decide +kernel
theorem dX9_copy_99 : decode cX9_copy 99 = .ok (.aload_n 0, 1) := by decide +kernel
theorem dX9_copy_100 : decode cX9_copy 100 = .ok (.getfield 37, 3) := by decide +kernel
theorem dX9_copy_103 : decode cX9_copy 103 = .ok (.iload_n 1, 1) := by decide +kernel
theorem dX9_copy_104 : decode cX9_copy 104 = .ok (.iaload, 1) := by decide +kernel
theorem dX9_copy_105 : decode cX9_copy 105 = .ok (.iload_n 2, 1) := by decide +kernel
theorem dX9_copy_106 : decode cX9_copy 106 = .ok (.isub, 1) := by decide +kernel
theorem dX9_copy_107 : decode cX9_copy 107 = .ok (.if_icmp .gt 17, 3) := by decide +kernel
theorem dX9_copy_110 : decode cX9_copy 110 = .ok (.iload 5, 2) := by decide +kernel
theorem dX9_copy_112 : decode cX9_copy 112 = .ok (.aload_n 0, 1) := by decide +kernel
theorem dX9_copy_113 : decode cX9_copy 113 = .ok (.getfield 37, 3) := by decide +kernel
theorem dX9_copy_116 : decode cX9_copy 116 = .ok (.iload_n 3, 1) := by decide +kernel
theorem dX9_copy_117 : decode cX9_copy 117 = .ok (.iaload, 1) := by decide +kernel
theorem dX9_copy_118 : decode cX9_copy 118 = .ok (.iload 4, 2) := by decide +kernel
theorem dX9_copy_120 : decode cX9_copy 120 = .ok (.isub, 1) := by decide +kernel
theorem dX9_copy_121 : decode cX9_copy 121 = .ok (.if_icmp .le 6, 3) := by decide +kernel
theorem dX9_copy_124 : decode cX9_copy 124 = .ok (.bipush (-12), 2) := by decide +kernel
theorem dX9_copy_126 : decode cX9_copy 126 = .ok (.ireturn, 1) := by decide +kernel
theorem dX9_copy_127 : decode cX9_copy 127 = .ok (.bipush 40, 2) := by decide +kernel
theorem dX9_copy_129 : decode cX9_copy 129 = .ok (.iload_n 1, 1) := by decide +kernel
theorem dX9_copy_130 : decode cX9_copy 130 = .ok (.imul, 1) := by decide +kernel
theorem dX9_copy_131 : decode cX9_copy 131 = .ok (.iload_n 2, 1) := by decide +kernel
theorem dX9_copy_132 : decode cX9_copy 132 = .ok (.iadd, 1) := by decide +kernel
theorem dX9_copy_133 : decode cX9_copy 133 = .ok (.istore 6, 2) := by decide +kernel
theorem dX9_copy_135 : decode cX9_copy 135 = .ok (.bipush 40, 2) := by decide +kernel
theorem dX9_copy_137 : decode cX9_copy 137 = .ok (.iload_n 3, 1) := by decide +kernel
theorem dX9_copy_138 : decode cX9_copy 138 = .ok (.imul, 1) := by decide +kernel
theorem dX9_copy_139 : decode cX9_copy 139 = .ok (.iload 4, 2) := by decide +kernel
theorem dX9_copy_141 : decode cX9_copy 141 = .ok (.iadd, 1) := by decide +kernel
theorem dX9_copy_142 : decode cX9_copy 142 = .ok (.istore 7, 2) := by decide +kernel
theorem dX9_copy_144 : decode cX9_copy 144 = .ok (.iconst 0, 1) := by decide +kernel
theorem dX9_copy_145 : decode cX9_copy 145 = .ok (.istore 8, 2) := by decide +kernel
theorem dX9_copy_147 : decode cX9_copy 147 = .ok (.iload 8, 2) := by decide +kernel
theorem dX9_copy_149 : decode cX9_copy 149 = .ok (.iload 5, 2) := by decide +kernel
theorem dX9_copy_151 : decode cX9_copy 151 = .ok (.if_icmp .ge 50, 3) := by decide +kernel
theorem dX9_copy_154 : decode cX9_copy 154 = .ok (.iload 6, 2) := by decide +kernel
theorem dX9_copy_156 : decode cX9_copy 156 = .ok (.iload 7, 2) := by decide +kernel
theorem dX9_copy_158 : decode cX9_copy 158 = .ok (.if_icmp .ge 13, 3) := by decide +kernel
theorem dX9_copy_161 : decode cX9_copy 161 = .ok (.iload 5, 2) := by decide +kernel
theorem dX9_copy_163 : decode cX9_copy 163 = .ok (.iconst 1, 1) := by decide +kernel
theorem dX9_copy_164 : decode cX9_copy 164 = .ok (.isub, 1) := by decide +kernel
theorem dX9_copy_165 : decode cX9_copy 165 = .ok (.iload 8, 2) := by decide +kernel
theorem dX9_copy_167 : decode cX9_copy 167 = .ok (.isub, 1) := by decide +kernel
theorem dX9_copy_168 : decode cX9_copy 168 = .ok (.goto 5, 3) := by decide +kernel
theorem dX9_copy_171 : decode cX9_copy 171 = .ok (.iload 8, 2) := by decide +kernel
theorem dX9_copy_173 : decode cX9_copy 173 = .ok (.istore 9, 2) := by decide +kernel
theorem dX9_copy_175 : decode cX9_copy 175 = .ok (.aload_n 0, 1) := by decide +kernel
theorem dX9_copy_176 : decode cX9_copy 176 = .ok (.getfield 40, 3) := by decide +kernel
theorem dX9_copy_179 : decode cX9_copy 179 = .ok (.iload 7, 2) := by decide +kernel
theorem dX9_copy_181 : decode cX9_copy 181 = .ok (.iload 9, 2) := by decide +kernel
theorem dX9_copy_183 : decode cX9_copy 183 = .ok (.iadd, 1) := by decide +kernel
theorem dX9_copy_184 : decode cX9_copy 184 = .ok (.aload_n 0, 1) := by decide +kernel
theorem dX9_copy_185 : decode cX9_copy 185 = .ok (.getfield 40, 3) := by decide +kernel
theorem dX9_copy_188 : decode cX9_copy 188 = .ok (.iload 6, 2) := by decide +kernel
theorem dX9_copy_190 : decode cX9_copy 190 = .ok (.iload 9, 2) := by decide +kernel
theorem dX9_copy_192 : decode cX9_copy 192 = .ok (.iadd, 1) := by decide +kernel
theorem dX9_copy_193 : decode cX9_copy 193 = .ok (.iaload, 1) := by decide +kernel
theorem dX9_copy_194 : decode cX9_copy 194 = .ok (.iastore, 1) := by decide +kernel
theorem dX9_copy_195 : decode cX9_copy 195 = .ok (.iinc 8 1, 3) := by decide +kernel
theorem dX9_copy_198 : decode cX9_copy 198 = .ok (.goto (-51), 3) := by decide +kernel
theorem dX9_copy_201 : decode cX9_copy 201 = .ok (.iload 5, 2) := by decide +kernel
theorem dX9_copy_203 : decode cX9_copy 203 = .ok (.ireturn, 1) := by decide +kernel
theorem dX9_menBy_0 : decode cX9_menBy 0 = .ok (.iload_n 1, 1) := by decide +kernel
theorem dX9_menBy_1 : decode cX9_menBy 1 = .ok (.iconst 0, 1) := by decide +kernel
theorem dX9_menBy_2 : decode cX9_menBy 2 = .ok (.iconst 3, 1) := by decide +kernel
theorem dX9_menBy_3 : decode cX9_menBy 3 = .ok (.invokestatic 84, 3) := by decide +kernel
theorem dX9_menBy_6 : decode cX9_menBy 6 = .ok (.ifCond .eq 23, 3) := by decide +kernel
theorem dX9_menBy_9 : decode cX9_menBy 9 = .ok (.iload_n 2, 1) := by decide +kernel
theorem dX9_menBy_10 : decode cX9_menBy 10 = .ok (.iconst 0, 1) := by decide +kernel
theorem dX9_menBy_11 : decode cX9_menBy 11 = .ok (.iconst 2, 1) := by decide +kernel
theorem dX9_menBy_12 : decode cX9_menBy 12 = .ok (.invokestatic 84, 3) := by decide +kernel
theorem dX9_menBy_15 : decode cX9_menBy 15 = .ok (.ifCond .eq 14, 3) := by decide +kernel
theorem dX9_menBy_18 : decode cX9_menBy 18 = .ok (.iload 4, 2) := by decide +kernel
theorem dX9_menBy_20 : decode cX9_menBy 20 = .ok (.iconst 0, 1) := by decide +kernel
theorem dX9_menBy_21 : decode cX9_menBy 21 = .ok (.bipush 6, 2) := by decide +kernel
theorem dX9_menBy_23 : decode cX9_menBy 23 = .ok (.invokestatic 84, 3) := by decide +kernel
theorem dX9_menBy_26 : decode cX9_menBy 26 = .ok (.ifCond .ne 6, 3) := by decide +kernel
theorem dX9_menBy_29 : decode cX9_menBy 29 = .ok (.bipush (-2), 2) := by decide +kernel
theorem dX9_menBy_31 : decode cX9_menBy 31 = .ok (.ireturn, 1) := by decide +kernel
theorem dX9_menBy_32 : decode cX9_menBy 32 = .ok (.aload_n 0, 1) := by decide +kernel
theorem dX9_menBy_33 : decode cX9_menBy 33 = .ok (.getfield 34, 3) := by decide +kernel
theorem dX9_menBy_36 : decode cX9_menBy 36 = .ok (.iload_n 1, 1) := by decide +kernel
theorem dX9_menBy_37 : decode cX9_menBy 37 = .ok (.iaload, 1) := by decide +kernel
theorem dX9_menBy_38 : decode cX9_menBy 38 = .ok (.iconst (-1), 1) := by decide +kernel
theorem dX9_menBy_39 : decode cX9_menBy 39 = .ok (.if_icmp .ne 6, 3) := by decide +kernel
theorem dX9_menBy_42 : decode cX9_menBy 42 = .ok (.bipush (-11), 2) := by decide +kernel
theorem dX9_menBy_44 : decode cX9_menBy 44 = .ok (.ireturn, 1) := by decide +kernel
theorem dX9_menBy_45 : decode cX9_menBy 45 = .ok (.aload_n 0, 1) := by decide +kernel
theorem dX9_menBy_46 : decode cX9_menBy 46 = .ok (.getfield 34, 3) := by decide +kernel
theorem dX9_menBy_49 : decode cX9_menBy 49 = .ok (.iload_n 1, 1) := by decide +kernel
theorem dX9_menBy_50 : decode cX9_menBy 50 = .ok (.iaload, 1) := by decide +kernel
theorem dX9_menBy_51 : decode cX9_menBy 51 = .ok (.iload_n 2, 1) := by decide +kernel
theorem dX9_menBy_52 : decode cX9_menBy 52 = .ok (.if_icmp .eq 6, 3) := by decide +kernel
theorem dX9_menBy_55 : decode cX9_menBy 55 = .ok (.bipush (-13), 2) := by decide +kernel
theorem dX9_menBy_57 : decode cX9_menBy 57 = .ok (.ireturn, 1) := by decide +kernel
theorem dX9_menBy_58 : decode cX9_menBy 58 = .ok (.iconst 0, 1) := by decide +kernel
theorem dX9_menBy_59 : decode cX9_menBy 59 = .ok (.istore 5, 2) := by decide +kernel
theorem dX9_menBy_61 : decode cX9_menBy 61 = .ok (.iconst 0, 1) := by decide +kernel
theorem dX9_menBy_62 : decode cX9_menBy 62 = .ok (.istore 6, 2) := by decide +kernel
theorem dX9_menBy_64 : decode cX9_menBy 64 = .ok (.iload 6, 2) := by decide +kernel
theorem dX9_menBy_66 : decode cX9_menBy 66 = .ok (.iload 4, 2) := by decide +kernel
theorem dX9_menBy_68 : decode cX9_menBy 68 = .ok (.if_icmp .ge 94, 3) := by decide +kernel
theorem dX9_menBy_71 : decode cX9_menBy 71 = .ok (.iload_n 3, 1) := by decide +kernel
theorem dX9_menBy_72 : decode cX9_menBy 72 = .ok (.iconst 3, 1) := by decide +kernel
theorem dX9_menBy_73 : decode cX9_menBy 73 = .ok (.iload 6, 2) := by decide +kernel
theorem dX9_menBy_75 : decode cX9_menBy 75 = .ok (.imul, 1) := by decide +kernel
theorem dX9_menBy_76 : decode cX9_menBy 76 = .ok (.iadd, 1) := by decide +kernel
theorem dX9_menBy_77 : decode cX9_menBy 77 = .ok (.istore 7, 2) := by decide +kernel
theorem dX9_menBy_79 : decode cX9_menBy 79 = .ok (.iload_n 3, 1) := by decide +kernel
theorem dX9_menBy_80 : decode cX9_menBy 80 = .ok (.ifCond .lt 22, 3) := by decide +kernel
theorem dX9_menBy_83 : decode cX9_menBy 83 = .ok (.iload 7, 2) := by decide +kernel
theorem dX9_menBy_85 : decode cX9_menBy 85 = .ok (.iload_n 3, 1) := by decide +kernel
theorem dX9_menBy_86 : decode cX9_menBy 86 = .ok (.if_icmp .lt 16, 3) := by decide +kernel
theorem dX9_menBy_89 : decode cX9_menBy 89 = .ok (.iload 7, 2) := by decide +kernel
theorem dX9_menBy_91 : decode cX9_menBy 91 = .ok (.aload_n 0, 1) := by decide +kernel
theorem dX9_menBy_92 : decode cX9_menBy 92 = .ok (.getfield 37, 3) := by decide +kernel
theorem dX9_menBy_95 : decode cX9_menBy 95 = .ok (.iload_n 1, 1) := by decide +kernel
theorem dX9_menBy_96 : decode cX9_menBy 96 = .ok (.iaload, 1) := by decide +kernel
theorem dX9_menBy_97 : decode cX9_menBy 97 = .ok (.iconst 3, 1) := by decide +kernel
theorem dX9_menBy_98 : decode cX9_menBy 98 = .ok (.isub, 1) := by decide +kernel
theorem dX9_menBy_99 : decode cX9_menBy 99 = .ok (.if_icmp .le 6, 3) := by decide +kernel
theorem dX9_menBy_102 : decode cX9_menBy 102 = .ok (.bipush (-12), 2) := by decide +kernel
theorem dX9_menBy_104 : decode cX9_menBy 104 = .ok (.ireturn, 1) := by decide +kernel
theorem dX9_menBy_105 : decode cX9_menBy 105 = .ok (.bipush 40, 2) := by decide +kernel
theorem dX9_menBy_107 : decode cX9_menBy 107 = .ok (.iload_n 1, 1) := by decide +kernel
theorem dX9_menBy_108 : decode cX9_menBy 108 = .ok (.imul, 1) := by decide +kernel
theorem dX9_menBy_109 : decode cX9_menBy 109 = .ok (.iload 7, 2) := by decide +kernel
theorem dX9_menBy_111 : decode cX9_menBy 111 = .ok (.iadd, 1) := by decide +kernel
theorem dX9_menBy_112 : decode cX9_menBy 112 = .ok (.istore 8, 2) := by decide +kernel
theorem dX9_menBy_114 : decode cX9_menBy 114 = .ok (.iload 5, 2) := by decide +kernel
theorem dX9_menBy_116 : decode cX9_menBy 116 = .ok (.aload_n 0, 1) := by decide +kernel
theorem dX9_menBy_117 : decode cX9_menBy 117 = .ok (.aload_n 0, 1) := by decide +kernel
theorem dX9_menBy_118 : decode cX9_menBy 118 = .ok (.getfield 40, 3) := by decide +kernel
theorem dX9_menBy_121 : decode cX9_menBy 121 = .ok (.iload 8, 2) := by decide +kernel
theorem dX9_menBy_123 : decode cX9_menBy 123 = .ok (.iaload, 1) := by decide +kernel
theorem dX9_menBy_124 : decode cX9_menBy 124 = .ok (.aload_n 0, 1) := by decide +kernel
theorem dX9_menBy_125 : decode cX9_menBy 125 = .ok (.getfield 40, 3) := by decide +kernel
theorem dX9_menBy_128 : decode cX9_menBy 128 = .ok (.iload 8, 2) := by decide +kernel
theorem dX9_menBy_130 : decode cX9_menBy 130 = .ok (.iconst 1, 1) := by decide +kernel
theorem dX9_menBy_131 : decode cX9_menBy 131 = .ok (.iadd, 1) := by decide +kernel
theorem dX9_menBy_132 : decode cX9_menBy 132 = .ok (.iaload, 1) := by decide +kernel
theorem dX9_menBy_133 : decode cX9_menBy 133 = .ok (.aload_n 0, 1) := by decide +kernel
theorem dX9_menBy_134 : decode cX9_menBy 134 = .ok (.getfield 40, 3) := by decide +kernel
theorem dX9_menBy_137 : decode cX9_menBy 137 = .ok (.iload 8, 2) := by decide +kernel
theorem dX9_menBy_139 : decode cX9_menBy 139 = .ok (.iconst 2, 1) := by decide +kernel
theorem dX9_menBy_140 : decode cX9_menBy 140 = .ok (.iadd, 1) := by decide +kernel
theorem dX9_menBy_141 : decode cX9_menBy 141 = .ok (.iaload, 1) := by decide +kernel
theorem dX9_menBy_142 : decode cX9_menBy 142 = .ok (.invokevirtual 331, 3) := by decide +kernel
theorem dX9_menBy_145 : decode cX9_menBy 145 = .ok (.ifCond .lt 7, 3) := by decide +kernel
theorem dX9_menBy_148 : decode cX9_menBy 148 = .ok (.iconst 1, 1) := by decide +kernel
theorem dX9_menBy_149 : decode cX9_menBy 149 = .ok (.goto 4, 3) := by decide +kernel
theorem dX9_menBy_152 : decode cX9_menBy 152 = .ok (.iconst 0, 1) := by decide +kernel
theorem dX9_menBy_153 : decode cX9_menBy 153 = .ok (.iadd, 1) := by decide +kernel
theorem dX9_menBy_154 : decode cX9_menBy 154 = .ok (.istore 5, 2) := by decide +kernel
theorem dX9_menBy_156 : decode cX9_menBy 156 = .ok (.iinc 6 1, 3) := by decide +kernel
theorem dX9_menBy_159 : decode cX9_menBy 159 = .ok (.goto (-95), 3) := by decide +kernel
theorem dX9_menBy_162 : decode cX9_menBy 162 = .ok (.iload 5, 2) := by decide +kernel
theorem dX9_menBy_164 : decode cX9_menBy 164 = .ok (.ireturn, 1) := by decide +kernel
theorem dX9_isUnder_0 : decode cX9_isUnder 0 = .ok (.iload_n 1, 1) := by decide +kernel
theorem dX9_isUnder_1 : decode cX9_isUnder 1 = .ok (.ifCond .eq 28, 3) := by decide +kernel
theorem dX9_isUnder_4 : decode cX9_isUnder 4 = .ok (.iload_n 0, 1) := by decide +kernel
theorem dX9_isUnder_5 : decode cX9_isUnder 5 = .ok (.iload_n 1, 1) := by decide +kernel
theorem dX9_isUnder_6 : decode cX9_isUnder 6 = .ok (.if_icmp .eq 23, 3) := by decide +kernel
theorem dX9_isUnder_9 : decode cX9_isUnder 9 = .ok (.iload_n 1, 1) := by decide +kernel
theorem dX9_isUnder_10 : decode cX9_isUnder 10 = .ok (.iconst 1, 1) := by decide +kernel
theorem dX9_isUnder_11 : decode cX9_isUnder 11 = .ok (.if_icmp .ne 8, 3) := by decide +kernel
theorem dX9_isUnder_14 : decode cX9_isUnder 14 = .ok (.iload_n 0, 1) := by decide +kernel
theorem dX9_isUnder_15 : decode cX9_isUnder 15 = .ok (.iconst 3, 1) := by decide +kernel
theorem dX9_isUnder_16 : decode cX9_isUnder 16 = .ok (.if_icmp .eq 13, 3) := by decide +kernel
theorem dX9_isUnder_19 : decode cX9_isUnder 19 = .ok (.iload_n 1, 1) := by decide +kernel
theorem dX9_isUnder_20 : decode cX9_isUnder 20 = .ok (.iconst 2, 1) := by decide +kernel
theorem dX9_isUnder_21 : decode cX9_isUnder 21 = .ok (.if_icmp .ne 12, 3) := by decide +kernel
theorem dX9_isUnder_24 : decode cX9_isUnder 24 = .ok (.iload_n 0, 1) := by decide +kernel
theorem dX9_isUnder_25 : decode cX9_isUnder 25 = .ok (.iconst 4, 1) := by decide +kernel
theorem dX9_isUnder_26 : decode cX9_isUnder 26 = .ok (.if_icmp .ne 7, 3) := by decide +kernel
theorem dX9_isUnder_29 : decode cX9_isUnder 29 = .ok (.iconst 1, 1) := by decide +kernel
theorem dX9_isUnder_30 : decode cX9_isUnder 30 = .ok (.goto 4, 3) := by decide +kernel
theorem dX9_isUnder_33 : decode cX9_isUnder 33 = .ok (.iconst 0, 1) := by decide +kernel
theorem dX9_isUnder_34 : decode cX9_isUnder 34 = .ok (.ireturn, 1) := by decide +kernel
theorem dX9_taken_0 : decode cX9_taken 0 = .ok (.iload_n 2, 1) := by decide +kernel
theorem dX9_taken_1 : decode cX9_taken 1 = .ok (.iconst 0, 1) := by decide +kernel
theorem dX9_taken_2 : decode cX9_taken 2 = .ok (.bipush 6, 2) := by decide +kernel
theorem dX9_taken_4 : decode cX9_taken 4 = .ok (.invokestatic 84, 3) := by decide +kernel
theorem dX9_taken_7 : decode cX9_taken 7 = .ok (.ifCond .ne 6, 3) := by decide +kernel
theorem dX9_taken_10 : decode cX9_taken 10 = .ok (.bipush (-2), 2) := by decide +kernel
theorem dX9_taken_12 : decode cX9_taken 12 = .ok (.ireturn, 1) := by decide +kernel
theorem dX9_taken_13 : decode cX9_taken 13 = .ok (.iload_n 1, 1) := by decide +kernel
theorem dX9_taken_14 : decode cX9_taken 14 = .ok (.iconst 0, 1) := by decide +kernel
theorem dX9_taken_15 : decode cX9_taken 15 = .ok (.bipush 13, 2) := by decide +kernel
theorem dX9_taken_17 : decode cX9_taken 17 = .ok (.invokestatic 84, 3) := by decide +kernel
theorem dX9_taken_20 : decode cX9_taken 20 = .ok (.ifCond .ne 6, 3) := by decide +kernel
theorem dX9_taken_23 : decode cX9_taken 23 = .ok (.bipush (-12), 2) := by decide +kernel
theorem dX9_taken_25 : decode cX9_taken 25 = .ok (.ireturn, 1) := by decide +kernel
theorem dX9_taken_26 : decode cX9_taken 26 = .ok (.iload_n 1, 1) := by decide +kernel
theorem dX9_taken_27 : decode cX9_taken 27 = .ok (.bipush 6, 2) := by decide +kernel
theorem dX9_taken_29 : decode cX9_taken 29 = .ok (.if_icmp .lt 45, 3) := by decide +kernel
theorem dX9_taken_32 : decode cX9_taken 32 = .ok (.iload_n 1, 1) := by decide +kernel
theorem dX9_taken_33 : decode cX9_taken 33 = .ok (.bipush 6, 2) := by decide +kernel
theorem dX9_taken_35 : decode cX9_taken 35 = .ok (.isub, 1) := by decide +kernel
theorem dX9_taken_36 : decode cX9_taken 36 = .ok (.aload_n 0, 1) := by decide +kernel
theorem dX9_taken_37 : decode cX9_taken 37 = .ok (.getfield 88, 3) := by decide +kernel
theorem dX9_taken_40 : decode cX9_taken 40 = .ok (.if_icmp .lt 8, 3) := by decide +kernel
theorem dX9_taken_43 : decode cX9_taken 43 = .ok (.bipush (-11), 2) := by decide +kernel
theorem dX9_taken_45 : decode cX9_taken 45 = .ok (.goto 28, 3) := by decide +kernel
theorem dX9_taken_48 : decode cX9_taken 48 = .ok (.iload_n 2, 1) := by decide +kernel
theorem dX9_taken_49 : decode cX9_taken 49 = .ok (.bipush 6, 2) := by decide +kernel
theorem dX9_taken_51 : decode cX9_taken 51 = .ok (.if_icmp .ne 20, 3) := by decide +kernel
theorem dX9_taken_54 : decode cX9_taken 54 = .ok (.aload_n 0, 1) := by decide +kernel
theorem dX9_taken_55 : decode cX9_taken 55 = .ok (.getfield 19, 3) := by decide +kernel
theorem dX9_taken_58 : decode cX9_taken 58 = .ok (.bipush 6, 2) := by decide +kernel
theorem dX9_taken_60 : decode cX9_taken 60 = .ok (.iload_n 1, 1) := by decide +kernel
theorem dX9_taken_61 : decode cX9_taken 61 = .ok (.bipush 6, 2) := by decide +kernel
theorem dX9_taken_63 : decode cX9_taken 63 = .ok (.isub, 1) := by decide +kernel
theorem dX9_taken_64 : decode cX9_taken 64 = .ok (.imul, 1) := by decide +kernel
theorem dX9_taken_65 : decode cX9_taken 65 = .ok (.iconst 2, 1) := by decide +kernel
theorem dX9_taken_66 : decode cX9_taken 66 = .ok (.iadd, 1) := by decide +kernel
theorem dX9_taken_67 : decode cX9_taken 67 = .ok (.iaload, 1) := by decide +kernel
theorem dX9_taken_68 : decode cX9_taken 68 = .ok (.goto 5, 3) := by decide +kernel
theorem dX9_taken_71 : decode cX9_taken 71 = .ok (.bipush (-13), 2) := by decide +kernel
theorem dX9_taken_73 : decode cX9_taken 73 = .ok (.ireturn, 1) := by decide +kernel
theorem dX9_taken_74 : decode cX9_taken 74 = .ok (.iload_n 1, 1) := by decide +kernel
theorem dX9_taken_75 : decode cX9_taken 75 = .ok (.aload_n 0, 1) := by decide +kernel
theorem dX9_taken_76 : decode cX9_taken 76 = .ok (.getfield 81, 3) := by decide +kernel
theorem dX9_taken_79 : decode cX9_taken 79 = .ok (.if_icmp .lt 8, 3) := by decide +kernel
theorem dX9_taken_82 : decode cX9_taken 82 = .ok (.bipush (-11), 2) := by decide +kernel
theorem dX9_taken_84 : decode cX9_taken 84 = .ok (.goto 28, 3) := by decide +kernel
theorem dX9_taken_87 : decode cX9_taken 87 = .ok (.iload_n 2, 1) := by decide +kernel
theorem dX9_taken_88 : decode cX9_taken 88 = .ok (.bipush 6, 2) := by decide +kernel
theorem dX9_taken_90 : decode cX9_taken 90 = .ok (.if_icmp .ge 20, 3) := by decide +kernel
theorem dX9_taken_93 : decode cX9_taken 93 = .ok (.aload_n 0, 1) := by decide +kernel
theorem dX9_taken_94 : decode cX9_taken 94 = .ok (.getfield 7, 3) := by decide +kernel
theorem dX9_taken_97 : decode cX9_taken 97 = .ok (.iload_n 1, 1) := by decide +kernel
theorem dX9_taken_98 : decode cX9_taken 98 = .ok (.iaload, 1) := by decide +kernel
theorem dX9_taken_99 : decode cX9_taken 99 = .ok (.iload_n 2, 1) := by decide +kernel
theorem dX9_taken_100 : decode cX9_taken 100 = .ok (.invokestatic 334, 3) := by decide +kernel
theorem dX9_taken_103 : decode cX9_taken 103 = .ok (.ifCond .eq 7, 3) := by decide +kernel
theorem dX9_taken_106 : decode cX9_taken 106 = .ok (.iload_n 1, 1) := by decide +kernel
theorem dX9_taken_107 : decode cX9_taken 107 = .ok (.goto 5, 3) := by decide +kernel
theorem dX9_taken_110 : decode cX9_taken 110 = .ok (.bipush (-13), 2) := by decide +kernel
theorem dX9_taken_112 : decode cX9_taken 112 = .ok (.ireturn, 1) := by decide +kernel
