theorem dX8_count_0 : decode cX8_count 0 = .ok (.iload_n 1, 1) := by decide +kernel
theorem dX8_count_1 : decode cX8_count 1 = .ok (.tableswitch 87 0 5 #[39, 47, 55, 63, 71, 79], 39) := by decide +kernel
theorem dX8_count_40 : decode cX8_count 40 = .ok (.aload_n 0, 1) := by decide +kernel
theorem dX8_count_41 : decode cX8_count 41 = .ok (.getfield 28, 3) := by decide +kernel
theorem dX8_count_44 : decode cX8_count 44 = .ok (.getfield 66, 3) := by decide +kernel
theorem dX8_count_47 : decode cX8_count 47 = .ok (.ireturn, 1) := by decide +kernel
theorem dX8_count_48 : decode cX8_count 48 = .ok (.aload_n 0, 1) := by decide +kernel
theorem dX8_count_49 : decode cX8_count 49 = .ok (.getfield 28, 3) := by decide +kernel
theorem dX8_count_52 : decode cX8_count 52 = .ok (.getfield 70, 3) := by decide +kernel
theorem dX8_count_55 : decode cX8_count 55 = .ok (.ireturn, 1) := by decide +kernel
theorem dX8_count_56 : decode cX8_count 56 = .ok (.aload_n 0, 1) := by decide +kernel
theorem dX8_count_57 : decode cX8_count 57 = .ok (.getfield 28, 3) := by decide +kernel
theorem dX8_count_60 : decode cX8_count 60 = .ok (.getfield 73, 3) := by decide +kernel
theorem dX8_count_63 : decode cX8_count 63 = .ok (.ireturn, 1) := by decide +kernel
theorem dX8_count_64 : decode cX8_count 64 = .ok (.aload_n 0, 1) := by decide +kernel
theorem dX8_count_65 : decode cX8_count 65 = .ok (.getfield 10, 3) := by decide +kernel
theorem dX8_count_68 : decode cX8_count 68 = .ok (.getfield 76, 3) := by decide +kernel
theorem dX8_count_71 : decode cX8_count 71 = .ok (.ireturn, 1) := by decide +kernel
theorem dX8_count_72 : decode cX8_count 72 = .ok (.aload_n 0, 1) := by decide +kernel
theorem dX8_count_73 : decode cX8_count 73 = .ok (.getfield 28, 3) := by decide +kernel
theorem dX8_count_76 : decode cX8_count 76 = .ok (.getfield 79, 3) := by decide +kernel
theorem dX8_count_79 : decode cX8_count 79 = .ok (.ireturn, 1) := by decide +kernel
theorem dX8_count_80 : decode cX8_count 80 = .ok (.aload_n 0, 1) := by decide +kernel
theorem dX8_count_81 : decode cX8_count 81 = .ok (.getfield 19, 3) := by decide +kernel
theorem dX8_count_84 : decode cX8_count 84 = .ok (.getfield 82, 3) := by decide +kernel
theorem dX8_count_87 : decode cX8_count 87 = .ok (.ireturn, 1) := by decide +kernel
theorem dX8_count_88 : decode cX8_count 88 = .ok (.bipush (-2), 2) := by decide +kernel
theorem dX8_count_90 : decode cX8_count 90 = .ok (.ireturn, 1) := by decide +kernel
theorem dX8_feed_0 : decode cX8_feed 0 = .ok (.iload_n 1, 1) := by decide +kernel
theorem dX8_feed_1 : decode cX8_feed 1 = .ok (.iconst 1, 1) := by decide +kernel
theorem dX8_feed_2 : decode cX8_feed 2 = .ok (.if_icmp .lt 46, 3) := by decide +kernel
theorem dX8_feed_5 : decode cX8_feed 5 = .ok (.iload_n 1, 1) := by decide +kernel
theorem dX8_feed_6 : decode cX8_feed 6 = .ok (.iconst 5, 1) := by decide +kernel
theorem dX8_feed_7 : decode cX8_feed 7 = .ok (.if_icmp .gt 41, 3) := by decide +kernel
theorem dX8_feed_10 : decode cX8_feed 10 = .ok (.iload_n 2, 1) := by decide +kernel
theorem dX8_feed_11 : decode cX8_feed 11 = .ok (.invokestatic 85, 3) := by decide +kernel
theorem dX8_feed_14 : decode cX8_feed 14 = .ok (.ifCond .eq 34, 3) := by decide +kernel
theorem dX8_feed_17 : decode cX8_feed 17 = .ok (.iload_n 3, 1) := by decide +kernel
theorem dX8_feed_18 : decode cX8_feed 18 = .ok (.invokestatic 85, 3) := by decide +kernel
theorem dX8_feed_21 : decode cX8_feed 21 = .ok (.ifCond .eq 27, 3) := by decide +kernel
theorem dX8_feed_24 : decode cX8_feed 24 = .ok (.iload 4, 2) := by decide +kernel
theorem dX8_feed_26 : decode cX8_feed 26 = .ok (.invokestatic 85, 3) := by decide +kernel
theorem dX8_feed_29 : decode cX8_feed 29 = .ok (.ifCond .eq 19, 3) := by decide +kernel
theorem dX8_feed_32 : decode cX8_feed 32 = .ok (.iload 5, 2) := by decide +kernel
theorem dX8_feed_34 : decode cX8_feed 34 = .ok (.invokestatic 85, 3) := by decide +kernel
theorem dX8_feed_37 : decode cX8_feed 37 = .ok (.ifCond .eq 11, 3) := by decide +kernel
theorem dX8_feed_40 : decode cX8_feed 40 = .ok (.iload 6, 2) := by decide +kernel
theorem dX8_feed_42 : decode cX8_feed 42 = .ok (.invokestatic 85, 3) := by decide +kernel
theorem dX8_feed_45 : decode cX8_feed 45 = .ok (.ifCond .ne 6, 3) := by decide +kernel
theorem dX8_feed_48 : decode cX8_feed 48 = .ok (.bipush (-2), 2) := by decide +kernel
theorem dX8_feed_50 : decode cX8_feed 50 = .ok (.ireturn, 1) := by decide +kernel
theorem dX8_feed_51 : decode cX8_feed 51 = .ok (.aload_n 0, 1) := by decide +kernel
theorem dX8_feed_52 : decode cX8_feed 52 = .ok (.getfield 19, 3) := by decide +kernel
theorem dX8_feed_55 : decode cX8_feed 55 = .ok (.getfield 82, 3) := by decide +kernel
theorem dX8_feed_58 : decode cX8_feed 58 = .ok (.iload_n 1, 1) := by decide +kernel
theorem dX8_feed_59 : decode cX8_feed 59 = .ok (.iadd, 1) := by decide +kernel
theorem dX8_feed_60 : decode cX8_feed 60 = .ok (.sipush 160, 3) := by decide +kernel
theorem dX8_feed_63 : decode cX8_feed 63 = .ok (.if_icmp .le 6, 3) := by decide +kernel
theorem dX8_feed_66 : decode cX8_feed 66 = .ok (.bipush (-4), 2) := by decide +kernel
theorem dX8_feed_68 : decode cX8_feed 68 = .ok (.ireturn, 1) := by decide +kernel
theorem dX8_feed_69 : decode cX8_feed 69 = .ok (.aload_n 0, 1) := by decide +kernel
theorem dX8_feed_70 : decode cX8_feed 70 = .ok (.getfield 19, 3) := by decide +kernel
theorem dX8_feed_73 : decode cX8_feed 73 = .ok (.iload_n 2, 1) := by decide +kernel
theorem dX8_feed_74 : decode cX8_feed 74 = .ok (.invokevirtual 89, 3) := by decide +kernel
theorem dX8_feed_77 : decode cX8_feed 77 = .ok (.iload_n 1, 1) := by decide +kernel
theorem dX8_feed_78 : decode cX8_feed 78 = .ok (.iconst 1, 1) := by decide +kernel
theorem dX8_feed_79 : decode cX8_feed 79 = .ok (.if_icmp .le 11, 3) := by decide +kernel
theorem dX8_feed_82 : decode cX8_feed 82 = .ok (.aload_n 0, 1) := by decide +kernel
theorem dX8_feed_83 : decode cX8_feed 83 = .ok (.getfield 19, 3) := by decide +kernel
theorem dX8_feed_86 : decode cX8_feed 86 = .ok (.iload_n 3, 1) := by decide +kernel
theorem dX8_feed_87 : decode cX8_feed 87 = .ok (.invokevirtual 89, 3) := by decide +kernel
theorem dX8_feed_90 : decode cX8_feed 90 = .ok (.iload_n 1, 1) := by decide +kernel
theorem dX8_feed_91 : decode cX8_feed 91 = .ok (.iconst 2, 1) := by decide +kernel
theorem dX8_feed_92 : decode cX8_feed 92 = .ok (.if_icmp .le 12, 3) := by decide +kernel
theorem dX8_feed_95 : decode cX8_feed 95 = .ok (.aload_n 0, 1) := by decide +kernel
theorem dX8_feed_96 : decode cX8_feed 96 = .ok (.getfield 19, 3) := by decide +kernel
theorem dX8_feed_99 : decode cX8_feed 99 = .ok (.iload 4, 2) := by decide +kernel
theorem dX8_feed_101 : decode cX8_feed 101 = .ok (.invokevirtual 89, 3) := by decide +kernel
theorem dX8_feed_104 : decode cX8_feed 104 = .ok (.iload_n 1, 1) := by decide +kernel
theorem dX8_feed_105 : decode cX8_feed 105 = .ok (.iconst 3, 1) := by decide +kernel
theorem dX8_feed_106 : decode cX8_feed 106 = .ok (.if_icmp .le 12, 3) := by decide +kernel
theorem dX8_feed_109 : decode cX8_feed 109 = .ok (.aload_n 0, 1) := by decide +kernel
theorem dX8_feed_110 : decode cX8_feed 110 = .ok (.getfield 19, 3) := by decide +kernel
theorem dX8_feed_113 : decode cX8_feed 113 = .ok (.iload 5, 2) := by decide +kernel
theorem dX8_feed_115 : decode cX8_feed 115 = .ok (.invokevirtual 89, 3) := by decide +kernel
theorem dX8_feed_118 : decode cX8_feed 118 = .ok (.iload_n 1, 1) := by decide +kernel
theorem dX8_feed_119 : decode cX8_feed 119 = .ok (.iconst 4, 1) := by decide +kernel
theorem dX8_feed_120 : decode cX8_feed 120 = .ok (.if_icmp .le 12, 3) := by decide +kernel
theorem dX8_feed_123 : decode cX8_feed 123 = .ok (.aload_n 0, 1) := by decide +kernel
theorem dX8_feed_124 : decode cX8_feed 124 = .ok (.getfield 19, 3) := by decide +kernel
theorem dX8_feed_127 : decode cX8_feed 127 = .ok (.iload 6, 2) := by decide +kernel
theorem dX8_feed_129 : decode cX8_feed 129 = .ok (.invokevirtual 89, 3) := by decide +kernel
theorem dX8_feed_132 : decode cX8_feed 132 = .ok (.aload_n 0, 1) := by decide +kernel
theorem dX8_feed_133 : decode cX8_feed 133 = .ok (.getfield 19, 3) := by decide +kernel
theorem dX8_feed_136 : decode cX8_feed 136 = .ok (.getfield 82, 3) := by decide +kernel
theorem dX8_feed_139 : decode cX8_feed 139 = .ok (.ireturn, 1) := by decide +kernel
theorem dX8_force_0 : decode cX8_force 0 = .ok (.iload_n 1, 1) := by decide +kernel
theorem dX8_force_1 : decode cX8_force 1 = .ok (.ifCond .lt 14, 3) := by decide +kernel
theorem dX8_force_4 : decode cX8_force 4 = .ok (.iload_n 1, 1) := by decide +kernel
theorem dX8_force_5 : decode cX8_force 5 = .ok (.aload_n 0, 1) := by decide +kernel
theorem dX8_force_6 : decode cX8_force 6 = .ok (.getfield 10, 3) := by decide +kernel
theorem dX8_force_9 : decode cX8_force 9 = .ok (.getfield 76, 3) := by decide +kernel
theorem dX8_force_12 : decode cX8_force 12 = .ok (.if_icmp .lt 6, 3) := by decide +kernel
theorem dX8_force_15 : decode cX8_force 15 = .ok (.bipush (-2), 2) := by decide +kernel
theorem dX8_force_17 : decode cX8_force 17 = .ok (.ireturn, 1) := by decide +kernel
theorem dX8_force_18 : decode cX8_force 18 = .ok (.aload_n 0, 1) := by decide +kernel
theorem dX8_force_19 : decode cX8_force 19 = .ok (.getfield 28, 3) := by decide +kernel
theorem dX8_force_22 : decode cX8_force 22 = .ok (.getfield 79, 3) := by decide +kernel
theorem dX8_force_25 : decode cX8_force 25 = .ok (.istore_n 2, 1) := by decide +kernel
theorem dX8_force_26 : decode cX8_force 26 = .ok (.aload_n 0, 1) := by decide +kernel
theorem dX8_force_27 : decode cX8_force 27 = .ok (.getfield 28, 3) := by decide +kernel
theorem dX8_force_30 : decode cX8_force 30 = .ok (.iload_n 1, 1) := by decide +kernel
theorem dX8_force_31 : decode cX8_force 31 = .ok (.putfield 79, 3) := by decide +kernel
theorem dX8_force_34 : decode cX8_force 34 = .ok (.iload_n 2, 1) := by decide +kernel
theorem dX8_force_35 : decode cX8_force 35 = .ok (.ireturn, 1) := by decide +kernel
theorem dX8_asks_0 : decode cX8_asks 0 = .ok (.aload_n 0, 1) := by decide +kernel
theorem dX8_asks_1 : decode cX8_asks 1 = .ok (.getfield 28, 3) := by decide +kernel
theorem dX8_asks_4 : decode cX8_asks 4 = .ok (.iload_n 2, 1) := by decide +kernel
theorem dX8_asks_5 : decode cX8_asks 5 = .ok (.invokevirtual 109, 3) := by decide +kernel
theorem dX8_asks_8 : decode cX8_asks 8 = .ok (.astore 4, 2) := by decide +kernel
theorem dX8_asks_10 : decode cX8_asks 10 = .ok (.iload_n 1, 1) := by decide +kernel
theorem dX8_asks_11 : decode cX8_asks 11 = .ok (.ifCond .lt 24, 3) := by decide +kernel
theorem dX8_asks_14 : decode cX8_asks 14 = .ok (.iload_n 1, 1) := by decide +kernel
theorem dX8_asks_15 : decode cX8_asks 15 = .ok (.iconst 3, 1) := by decide +kernel
theorem dX8_asks_16 : decode cX8_asks 16 = .ok (.if_icmp .ge 19, 3) := by decide +kernel
theorem dX8_asks_19 : decode cX8_asks 19 = .ok (.aload 4, 2) := by decide +kernel
theorem dX8_asks_21 : decode cX8_asks 21 = .ok (.ifnull 14, 3) := by decide +kernel
theorem dX8_asks_24 : decode cX8_asks 24 = .ok (.iload_n 3, 1) := by decide +kernel
theorem dX8_asks_25 : decode cX8_asks 25 = .ok (.ifCond .lt 10, 3) := by decide +kernel
theorem dX8_asks_28 : decode cX8_asks 28 = .ok (.iload_n 3, 1) := by decide +kernel
theorem dX8_asks_29 : decode cX8_asks 29 = .ok (.sipush 999, 3) := by decide +kernel
theorem dX8_asks_32 : decode cX8_asks 32 = .ok (.if_icmp .le 6, 3) := by decide +kernel
theorem dX8_asks_35 : decode cX8_asks 35 = .ok (.bipush (-2), 2) := by decide +kernel
theorem dX8_asks_37 : decode cX8_asks 37 = .ok (.ireturn, 1) := by decide +kernel
theorem dX8_asks_38 : decode cX8_asks 38 = .ok (.aload_n 0, 1) := by decide +kernel
theorem dX8_asks_39 : decode cX8_asks 39 = .ok (.getfield 10, 3) := by decide +kernel
theorem dX8_asks_42 : decode cX8_asks 42 = .ok (.aload_n 0, 1) := by decide +kernel
theorem dX8_asks_43 : decode cX8_asks 43 = .ok (.getfield 28, 3) := by decide +kernel
theorem dX8_asks_46 : decode cX8_asks 46 = .ok (.getfield 79, 3) := by decide +kernel
theorem dX8_asks_49 : decode cX8_asks 49 = .ok (.iload_n 1, 1) := by decide +kernel
theorem dX8_asks_50 : decode cX8_asks 50 = .ok (.aload 4, 2) := by decide +kernel
theorem dX8_asks_52 : decode cX8_asks 52 = .ok (.iload_n 3, 1) := by decide +kernel
theorem dX8_asks_53 : decode cX8_asks 53 = .ok (.aload_n 0, 1) := by decide +kernel
theorem dX8_asks_54 : decode cX8_asks 54 = .ok (.getfield 28, 3) := by decide +kernel
theorem dX8_asks_57 : decode cX8_asks 57 = .ok (.iload_n 2, 1) := by decide +kernel
theorem dX8_asks_58 : decode cX8_asks 58 = .ok (.invokevirtual 113, 3) := by decide +kernel
theorem dX8_asks_61 : decode cX8_asks 61 = .ok (.invokevirtual 117, 3) := by decide +kernel
theorem dX8_asks_64 : decode cX8_asks 64 = .ok (.ireturn, 1) := by decide +kernel
theorem dX8_man_0 : decode cX8_man 0 = .ok (.aload_n 0, 1) := by decide +kernel
theorem dX8_man_1 : decode cX8_man 1 = .ok (.getfield 28, 3) := by decide +kernel
theorem dX8_man_4 : decode cX8_man 4 = .ok (.iload_n 1, 1) := by decide +kernel
theorem dX8_man_5 : decode cX8_man 5 = .ok (.iload_n 2, 1) := by decide +kernel
theorem dX8_man_6 : decode cX8_man 6 = .ok (.iload_n 3, 1) := by decide +kernel
theorem dX8_man_7 : decode cX8_man 7 = .ok (.invokevirtual 121, 3) := by decide +kernel
theorem dX8_man_10 : decode cX8_man 10 = .ok (.ireturn, 1) := by decide +kernel
theorem dX8_set_0 : decode cX8_set 0 = .ok (.aload_n 0, 1) := by decide +kernel
theorem dX8_set_1 : decode cX8_set 1 = .ok (.getfield 28, 3) := by decide +kernel
theorem dX8_set_4 : decode cX8_set 4 = .ok (.iload_n 1, 1) := by decide +kernel
theorem dX8_set_5 : decode cX8_set 5 = .ok (.invokevirtual 109, 3) := by decide +kernel
theorem dX8_set_8 : decode cX8_set 8 = .ok (.astore 4, 2) := by decide +kernel
theorem dX8_set_10 : decode cX8_set 10 = .ok (.aload 4, 2) := by decide +kernel
theorem dX8_set_12 : decode cX8_set 12 = .ok (.ifnonnull 6, 3) := by decide +kernel
theorem dX8_set_15 : decode cX8_set 15 = .ok (.bipush (-5), 2) := by decide +kernel
theorem dX8_set_17 : decode cX8_set 17 = .ok (.ireturn, 1) := by decide +kernel
theorem dX8_set_18 : decode cX8_set 18 = .ok (.iload_n 2, 1) := by decide +kernel
theorem dX8_set_19 : decode cX8_set 19 = .ok (.ifCond .lt 28, 3) := by decide +kernel
theorem dX8_set_22 : decode cX8_set 22 = .ok (.iload_n 2, 1) := by decide +kernel
theorem dX8_set_23 : decode cX8_set 23 = .ok (.iconst 2, 1) := by decide +kernel
theorem dX8_set_24 : decode cX8_set 24 = .ok (.if_icmp .gt 23, 3) := by decide +kernel
theorem dX8_set_27 : decode cX8_set 27 = .ok (.iload_n 3, 1) := by decide +kernel
theorem dX8_set_28 : decode cX8_set 28 = .ok (.ifCond .lt 19, 3) := by decide +kernel
theorem dX8_set_31 : decode cX8_set 31 = .ok (.iload_n 3, 1) := by decide +kernel
theorem dX8_set_32 : decode cX8_set 32 = .ok (.iload_n 2, 1) := by decide +kernel
theorem dX8_set_33 : decode cX8_set 33 = .ok (.ifCond .ne 9, 3) := by decide +kernel
theorem dX8_set_36 : decode cX8_set 36 = .ok (.sipush 999, 3) := by decide +kernel
theorem dX8_set_39 : decode cX8_set 39 = .ok (.goto 5, 3) := by decide +kernel
theorem dX8_set_42 : decode cX8_set 42 = .ok (.bipush 9, 2) := by decide +kernel
theorem dX8_set_44 : decode cX8_set 44 = .ok (.if_icmp .le 6, 3) := by decide +kernel
theorem dX8_set_47 : decode cX8_set 47 = .ok (.bipush (-7), 2) := by decide +kernel
theorem dX8_set_49 : decode cX8_set 49 = .ok (.ireturn, 1) := by decide +kernel
theorem dX8_set_50 : decode cX8_set 50 = .ok (.iload_n 2, 1) := by decide +kernel
theorem dX8_set_51 : decode cX8_set 51 = .ok (.ifCond .ne 19, 3) := by decide +kernel
theorem dX8_set_54 : decode cX8_set 54 = .ok (.aload 4, 2) := by decide +kernel
theorem dX8_set_56 : decode cX8_set 56 = .ok (.getfield 125, 3) := by decide +kernel
theorem dX8_set_59 : decode cX8_set 59 = .ok (.istore 5, 2) := by decide +kernel
theorem dX8_set_61 : decode cX8_set 61 = .ok (.aload 4, 2) := by decide +kernel
theorem dX8_set_63 : decode cX8_set 63 = .ok (.iload_n 3, 1) := by decide +kernel
theorem dX8_set_64 : decode cX8_set 64 = .ok (.putfield 125, 3) := by decide +kernel
theorem dX8_set_67 : decode cX8_set 67 = .ok (.goto 37, 3) := by decide +kernel
theorem dX8_set_70 : decode cX8_set 70 = .ok (.iload_n 2, 1) := by decide +kernel
theorem dX8_set_71 : decode cX8_set 71 = .ok (.iconst 1, 1) := by decide +kernel
theorem dX8_set_72 : decode cX8_set 72 = .ok (.if_icmp .ne 19, 3) := by decide +kernel
theorem dX8_set_75 : decode cX8_set 75 = .ok (.aload 4, 2) := by decide +kernel
theorem dX8_set_77 : decode cX8_set 77 = .ok (.getfield 128, 3) := by decide +kernel
theorem dX8_set_80 : decode cX8_set 80 = .ok (.istore 5, 2) := by decide +kernel
theorem dX8_set_82 : decode cX8_set 82 = .ok (.aload 4, 2) := by decide +kernel
theorem dX8_set_84 : decode cX8_set 84 = .ok (.iload_n 3, 1) := by decide +kernel
theorem dX8_set_85 : decode cX8_set 85 = .ok (.putfield 128, 3) := by decide +kernel
theorem dX8_set_88 : decode cX8_set 88 = .ok (.goto 16, 3) := by decide +kernel
theorem dX8_set_91 : decode cX8_set 91 = .ok (.aload 4, 2) := by decide +kernel
theorem dX8_set_93 : decode cX8_set 93 = .ok (.getfield 131, 3) := by decide +kernel
theorem dX8_set_96 : decode cX8_set 96 = .ok (.istore 5, 2) := by decide +kernel
theorem dX8_set_98 : decode cX8_set 98 = .ok (.aload 4, 2) := by decide +kernel
theorem dX8_set_100 : decode cX8_set 100 = .ok (.iload_n 3, 1) := by decide +kernel
theorem dX8_set_101 : decode cX8_set 101 = .ok (.putfield 131, 3) := by decide +kernel
theorem dX8_set_104 : decode cX8_set 104 = .ok (.iload 5, 2) := by decide +kernel
theorem dX8_set_106 : decode cX8_set 106 = .ok (.ireturn, 1) := by decide +kernel
theorem dX8_told_0 : decode cX8_told 0 = .ok (.aload_n 0, 1) := by decide +kernel
theorem dX8_told_1 : decode cX8_told 1 = .ok (.getfield 28, 3) := by decide +kernel
theorem dX8_told_4 : decode cX8_told 4 = .ok (.iload_n 1, 1) := by decide +kernel
theorem dX8_told_5 : decode cX8_told 5 = .ok (.invokevirtual 109, 3) := by decide +kernel
theorem dX8_told_8 : decode cX8_told 8 = .ok (.astore_n 3, 1) := by decide +kernel
theorem dX8_told_9 : decode cX8_told 9 = .ok (.aload_n 3, 1) := by decide +kernel
theorem dX8_told_10 : decode cX8_told 10 = .ok (.ifnonnull 6, 3) := by decide +kernel
theorem dX8_told_13 : decode cX8_told 13 = .ok (.bipush (-5), 2) := by decide +kernel
theorem dX8_told_15 : decode cX8_told 15 = .ok (.ireturn, 1) := by decide +kernel
theorem dX8_told_16 : decode cX8_told 16 = .ok (.iload_n 2, 1) := by decide +kernel
theorem dX8_told_17 : decode cX8_told 17 = .ok (.tableswitch 108 0 8 #[51, 56, 61, 66, 71, 76, 89, 94, 99], 51) := by decide +kernel
theorem dX8_told_68 : decode cX8_told 68 = .ok (.aload_n 3, 1) := by decide +kernel
theorem dX8_told_69 : decode cX8_told 69 = .ok (.getfield 134, 3) := by decide +kernel
theorem dX8_told_72 : decode cX8_told 72 = .ok (.ireturn, 1) := by decide +kernel
theorem dX8_told_73 : decode cX8_told 73 = .ok (.aload_n 3, 1) := by decide +kernel
theorem dX8_told_74 : decode cX8_told 74 = .ok (.getfield 137, 3) := by decide +kernel
theorem dX8_told_77 : decode cX8_told 77 = .ok (.ireturn, 1) := by decide +kernel
theorem dX8_told_78 : decode cX8_told 78 = .ok (.aload_n 3, 1) := by decide +kernel
theorem dX8_told_79 : decode cX8_told 79 = .ok (.getfield 125, 3) := by decide +kernel
theorem dX8_told_82 : decode cX8_told 82 = .ok (.ireturn, 1) := by decide +kernel
theorem dX8_told_83 : decode cX8_told 83 = .ok (.aload_n 3, 1) := by decide +kernel
theorem dX8_told_84 : decode cX8_told 84 = .ok (.getfield 128, 3) := by decide +kernel
theorem dX8_told_87 : decode cX8_told 87 = .ok (.ireturn, 1) := by decide +kernel
theorem dX8_told_88 : decode cX8_told 88 = .ok (.aload_n 3, 1) := by decide +kernel
theorem dX8_told_89 : decode cX8_told 89 = .ok (.getfield 131, 3) := by decide +kernel
theorem dX8_told_92 : decode cX8_told 92 = .ok (.ireturn, 1) := by decide +kernel
theorem dX8_told_93 : decode cX8_told 93 = .ok (.aload_n 3, 1) := by decide +kernel
theorem dX8_told_94 : decode cX8_told 94 = .ok (.getfield 140, 3) := by decide +kernel
theorem dX8_told_97 : decode cX8_told 97 = .ok (.ifCond .eq 7, 3) := by decide +kernel
theorem dX8_told_100 : decode cX8_told 100 = .ok (.iconst 1, 1) := by decide +kernel
theorem dX8_told_101 : decode cX8_told 101 = .ok (.goto 4, 3) := by decide +kernel
theorem dX8_told_104 : decode cX8_told 104 = .ok (.iconst 0, 1) := by decide +kernel
theorem dX8_told_105 : decode cX8_told 105 = .ok (.ireturn, 1) := by decide +kernel
theorem dX8_told_106 : decode cX8_told 106 = .ok (.aload_n 3, 1) := by decide +kernel
theorem dX8_told_107 : decode cX8_told 107 = .ok (.invokevirtual 143, 3) := by decide +kernel
theorem dX8_told_110 : decode cX8_told 110 = .ok (.ireturn, 1) := by decide +kernel
theorem dX8_told_111 : decode cX8_told 111 = .ok (.aload_n 3, 1) := by decide +kernel
theorem dX8_told_112 : decode cX8_told 112 = .ok (.invokevirtual 146, 3) := by decide +kernel
theorem dX8_told_115 : decode cX8_told 115 = .ok (.ireturn, 1) := by decide +kernel
theorem dX8_told_116 : decode cX8_told 116 = .ok (.aload_n 0, 1) := by decide +kernel
theorem dX8_told_117 : decode cX8_told 117 = .ok (.getfield 28, 3) := by decide +kernel
theorem dX8_told_120 : decode cX8_told 120 = .ok (.iload_n 1, 1) := by decide +kernel
theorem dX8_told_121 : decode cX8_told 121 = .ok (.invokevirtual 113, 3) := by decide +kernel
theorem dX8_told_124 : decode cX8_told 124 = .ok (.ireturn, 1) := by decide +kernel
theorem dX8_told_125 : decode cX8_told 125 = .ok (.bipush (-7), 2) := by decide +kernel
theorem dX8_told_127 : decode cX8_told 127 = .ok (.ireturn, 1) := by decide +kernel
theorem dX8_vow_0 : decode cX8_vow 0 = .ok (.iload_n 1, 1) := by decide +kernel
theorem dX8_vow_1 : decode cX8_vow 1 = .ok (.bipush 10, 2) := by decide +kernel
theorem dX8_vow_3 : decode cX8_vow 3 = .ok (.idiv, 1) := by decide +kernel
theorem dX8_vow_4 : decode cX8_vow 4 = .ok (.istore 4, 2) := by decide +kernel
theorem dX8_vow_6 : decode cX8_vow 6 = .ok (.iload_n 1, 1) := by decide +kernel
theorem dX8_vow_7 : decode cX8_vow 7 = .ok (.bipush 10, 2) := by decide +kernel
theorem dX8_vow_9 : decode cX8_vow 9 = .ok (.irem, 1) := by decide +kernel
theorem dX8_vow_10 : decode cX8_vow 10 = .ok (.istore 5, 2) := by decide +kernel
theorem dX8_vow_12 : decode cX8_vow 12 = .ok (.aload_n 0, 1) := by decide +kernel
theorem dX8_vow_13 : decode cX8_vow 13 = .ok (.getfield 28, 3) := by decide +kernel
theorem dX8_vow_16 : decode cX8_vow 16 = .ok (.iload 4, 2) := by decide +kernel
theorem dX8_vow_18 : decode cX8_vow 18 = .ok (.invokevirtual 109, 3) := by decide +kernel
theorem dX8_vow_21 : decode cX8_vow 21 = .ok (.astore 6, 2) := by decide +kernel
theorem dX8_vow_23 : decode cX8_vow 23 = .ok (.aload 6, 2) := by decide +kernel
theorem dX8_vow_25 : decode cX8_vow 25 = .ok (.ifnull 22, 3) := by decide +kernel
theorem dX8_vow_28 : decode cX8_vow 28 = .ok (.aload_n 0, 1) := by decide +kernel
theorem dX8_vow_29 : decode cX8_vow 29 = .ok (.getfield 28, 3) := by decide +kernel
theorem dX8_vow_32 : decode cX8_vow 32 = .ok (.iload 5, 2) := by decide +kernel
theorem dX8_vow_34 : decode cX8_vow 34 = .ok (.invokevirtual 109, 3) := by decide +kernel
theorem dX8_vow_37 : decode cX8_vow 37 = .ok (.ifnull 10, 3) := by decide +kernel
theorem dX8_vow_40 : decode cX8_vow 40 = .ok (.iload 4, 2) := by decide +kernel
theorem dX8_vow_42 : decode cX8_vow 42 = .ok (.iload 5, 2) := by decide +kernel
theorem dX8_vow_44 : decode cX8_vow 44 = .ok (.if_icmp .ne 6, 3) := by decide +kernel
theorem dX8_vow_47 : decode cX8_vow 47 = .ok (.bipush (-2), 2) := by decide +kernel
theorem dX8_vow_49 : decode cX8_vow 49 = .ok (.ireturn, 1) := by decide +kernel
theorem dX8_vow_50 : decode cX8_vow 50 = .ok (.iload_n 2, 1) := by decide +kernel
theorem dX8_vow_51 : decode cX8_vow 51 = .ok (.iconst 1, 1) := by decide +kernel
theorem dX8_vow_52 : decode cX8_vow 52 = .ok (.if_icmp .lt 21, 3) := by decide +kernel
theorem dX8_vow_55 : decode cX8_vow 55 = .ok (.iload_n 2, 1) := by decide +kernel
theorem dX8_vow_56 : decode cX8_vow 56 = .ok (.sipush 200, 3) := by decide +kernel
theorem dX8_vow_59 : decode cX8_vow 59 = .ok (.if_icmp .gt 14, 3) := by decide +kernel
theorem dX8_vow_62 : decode cX8_vow 62 = .ok (.iload_n 3, 1) := by decide +kernel
theorem dX8_vow_63 : decode cX8_vow 63 = .ok (.ifCond .lt 10, 3) := by decide +kernel
theorem dX8_vow_66 : decode cX8_vow 66 = .ok (.iload_n 3, 1) := by decide +kernel
theorem dX8_vow_67 : decode cX8_vow 67 = .ok (.sipush 999, 3) := by decide +kernel
theorem dX8_vow_70 : decode cX8_vow 70 = .ok (.if_icmp .le 6, 3) := by decide +kernel
theorem dX8_vow_73 : decode cX8_vow 73 = .ok (.bipush (-2), 2) := by decide +kernel
theorem dX8_vow_75 : decode cX8_vow 75 = .ok (.ireturn, 1) := by decide +kernel
theorem dX8_vow_76 : decode cX8_vow 76 = .ok (.aload 6, 2) := by decide +kernel
theorem dX8_vow_78 : decode cX8_vow 78 = .ok (.getfield 140, 3) := by decide +kernel
theorem dX8_vow_81 : decode cX8_vow 81 = .ok (.ifCond .ne 14, 3) := by decide +kernel
theorem dX8_vow_84 : decode cX8_vow 84 = .ok (.iload_n 3, 1) := by decide +kernel
theorem dX8_vow_85 : decode cX8_vow 85 = .ok (.aload_n 0, 1) := by decide +kernel
theorem dX8_vow_86 : decode cX8_vow 86 = .ok (.getfield 28, 3) := by decide +kernel
theorem dX8_vow_89 : decode cX8_vow 89 = .ok (.getfield 73, 3) := by decide +kernel
theorem dX8_vow_92 : decode cX8_vow 92 = .ok (.if_icmp .ge 6, 3) := by decide +kernel
theorem dX8_vow_95 : decode cX8_vow 95 = .ok (.bipush (-3), 2) := by decide +kernel
theorem dX8_vow_97 : decode cX8_vow 97 = .ok (.ireturn, 1) := by decide +kernel
theorem dX8_vow_98 : decode cX8_vow 98 = .ok (.aload_n 0, 1) := by decide +kernel
theorem dX8_vow_99 : decode cX8_vow 99 = .ok (.getfield 28, 3) := by decide +kernel
theorem dX8_vow_102 : decode cX8_vow 102 = .ok (.iload 4, 2) := by decide +kernel
theorem dX8_vow_104 : decode cX8_vow 104 = .ok (.iload 5, 2) := by decide +kernel
theorem dX8_vow_106 : decode cX8_vow 106 = .ok (.iload_n 2, 1) := by decide +kernel
theorem dX8_vow_107 : decode cX8_vow 107 = .ok (.iload_n 3, 1) := by decide +kernel
theorem dX8_vow_108 : decode cX8_vow 108 = .ok (.invokevirtual 149, 3) := by decide +kernel
theorem dX8_vow_111 : decode cX8_vow 111 = .ok (.ireturn, 1) := by decide +kernel
theorem dX8_bond_0 : decode cX8_bond 0 = .ok (.aload_n 0, 1) := by decide +kernel
theorem dX8_bond_1 : decode cX8_bond 1 = .ok (.getfield 28, 3) := by decide +kernel
theorem dX8_bond_4 : decode cX8_bond 4 = .ok (.iload_n 1, 1) := by decide +kernel
theorem dX8_bond_5 : decode cX8_bond 5 = .ok (.invokevirtual 153, 3) := by decide +kernel
theorem dX8_bond_8 : decode cX8_bond 8 = .ok (.astore_n 3, 1) := by decide +kernel
theorem dX8_bond_9 : decode cX8_bond 9 = .ok (.aload_n 3, 1) := by decide +kernel
theorem dX8_bond_10 : decode cX8_bond 10 = .ok (.ifnonnull 6, 3) := by decide +kernel
theorem dX8_bond_13 : decode cX8_bond 13 = .ok (.bipush (-6), 2) := by decide +kernel
theorem dX8_bond_15 : decode cX8_bond 15 = .ok (.ireturn, 1) := by decide +kernel
theorem dX8_bond_16 : decode cX8_bond 16 = .ok (.iload_n 2, 1) := by decide +kernel
theorem dX8_bond_17 : decode cX8_bond 17 = .ok (.tableswitch 82 0 6 #[43, 48, 53, 58, 63, 68, 73], 43) := by decide +kernel
theorem dX8_bond_60 : decode cX8_bond 60 = .ok (.aload_n 3, 1) := by decide +kernel
theorem dX8_bond_61 : decode cX8_bond 61 = .ok (.getfield 157, 3) := by decide +kernel
theorem dX8_bond_64 : decode cX8_bond 64 = .ok (.ireturn, 1) := by decide +kernel
theorem dX8_bond_65 : decode cX8_bond 65 = .ok (.aload_n 3, 1) := by decide +kernel
theorem dX8_bond_66 : decode cX8_bond 66 = .ok (.getfield 162, 3) := by decide +kernel
theorem dX8_bond_69 : decode cX8_bond 69 = .ok (.ireturn, 1) := by decide +kernel
theorem dX8_bond_70 : decode cX8_bond 70 = .ok (.aload_n 3, 1) := by decide +kernel
theorem dX8_bond_71 : decode cX8_bond 71 = .ok (.getfield 165, 3) := by decide +kernel
theorem dX8_bond_74 : decode cX8_bond 74 = .ok (.ireturn, 1) := by decide +kernel
theorem dX8_bond_75 : decode cX8_bond 75 = .ok (.aload_n 3, 1) := by decide +kernel
theorem dX8_bond_76 : decode cX8_bond 76 = .ok (.getfield 168, 3) := by decide +kernel
theorem dX8_bond_79 : decode cX8_bond 79 = .ok (.ireturn, 1) := by decide +kernel
theorem dX8_bond_80 : decode cX8_bond 80 = .ok (.aload_n 3, 1) := by decide +kernel
theorem dX8_bond_81 : decode cX8_bond 81 = .ok (.getfield 171, 3) := by decide +kernel
theorem dX8_bond_84 : decode cX8_bond 84 = .ok (.ireturn, 1) := by decide +kernel
theorem dX8_bond_85 : decode cX8_bond 85 = .ok (.aload_n 3, 1) := by decide +kernel
theorem dX8_bond_86 : decode cX8_bond 86 = .ok (.getfield 174, 3) := by decide +kernel
theorem dX8_bond_89 : decode cX8_bond 89 = .ok (.ireturn, 1) := by decide +kernel
theorem dX8_bond_90 : decode cX8_bond 90 = .ok (.aload_n 0, 1) := by decide +kernel
theorem dX8_bond_91 : decode cX8_bond 91 = .ok (.getfield 28, 3) := by decide +kernel
theorem dX8_bond_94 : decode cX8_bond 94 = .ok (.aload_n 3, 1) := by decide +kernel
theorem dX8_bond_95 : decode cX8_bond 95 = .ok (.invokevirtual 177, 3) := by decide +kernel
theorem dX8_bond_98 : decode cX8_bond 98 = .ok (.ireturn, 1) := by decide +kernel
theorem dX8_bond_99 : decode cX8_bond 99 = .ok (.bipush (-7), 2) := by decide +kernel
theorem dX8_bond_101 : decode cX8_bond 101 = .ok (.ireturn, 1) := by decide +kernel
theorem dX8_plaits_0 : decode cX8_plaits 0 = .ok (.aload_n 0, 1) := by decide +kernel
theorem dX8_plaits_1 : decode cX8_plaits 1 = .ok (.getfield 28, 3) := by decide +kernel
theorem dX8_plaits_4 : decode cX8_plaits 4 = .ok (.iload_n 1, 1) := by decide +kernel
theorem dX8_plaits_5 : decode cX8_plaits 5 = .ok (.invokevirtual 153, 3) := by decide +kernel
theorem dX8_plaits_8 : decode cX8_plaits 8 = .ok (.astore_n 3, 1) := by decide +kernel
theorem dX8_plaits_9 : decode cX8_plaits 9 = .ok (.aload_n 0, 1) := by decide +kernel
theorem dX8_plaits_10 : decode cX8_plaits 10 = .ok (.getfield 28, 3) := by decide +kernel
theorem dX8_plaits_13 : decode cX8_plaits 13 = .ok (.iload_n 2, 1) := by decide +kernel
theorem dX8_plaits_14 : decode cX8_plaits 14 = .ok (.invokevirtual 153, 3) := by decide +kernel
theorem dX8_plaits_17 : decode cX8_plaits 17 = .ok (.astore 4, 2) := by decide +kernel
theorem dX8_plaits_19 : decode cX8_plaits 19 = .ok (.aload_n 3, 1) := by decide +kernel
theorem dX8_plaits_20 : decode cX8_plaits 20 = .ok (.ifnull 13, 3) := by decide +kernel
theorem dX8_plaits_23 : decode cX8_plaits 23 = .ok (.aload 4, 2) := by decide +kernel
theorem dX8_plaits_25 : decode cX8_plaits 25 = .ok (.ifnull 8, 3) := by decide +kernel
theorem dX8_plaits_28 : decode cX8_plaits 28 = .ok (.iload_n 1, 1) := by decide +kernel
theorem dX8_plaits_29 : decode cX8_plaits 29 = .ok (.iload_n 2, 1) := by decide +kernel
theorem dX8_plaits_30 : decode cX8_plaits 30 = .ok (.if_icmp .ne 6, 3) := by decide +kernel
theorem dX8_plaits_33 : decode cX8_plaits 33 = .ok (.bipush (-6), 2) := by decide +kernel
theorem dX8_plaits_35 : decode cX8_plaits 35 = .ok (.ireturn, 1) := by decide +kernel
theorem dX8_plaits_36 : decode cX8_plaits 36 = .ok (.aload_n 3, 1) := by decide +kernel
theorem dX8_plaits_37 : decode cX8_plaits 37 = .ok (.getfield 174, 3) := by decide +kernel
theorem dX8_plaits_40 : decode cX8_plaits 40 = .ok (.ifCond .ne 26, 3) := by decide +kernel
theorem dX8_plaits_43 : decode cX8_plaits 43 = .ok (.aload 4, 2) := by decide +kernel
theorem dX8_plaits_45 : decode cX8_plaits 45 = .ok (.getfield 174, 3) := by decide +kernel
theorem dX8_plaits_48 : decode cX8_plaits 48 = .ok (.ifCond .ne 18, 3) := by decide +kernel
theorem dX8_plaits_51 : decode cX8_plaits 51 = .ok (.aload_n 3, 1) := by decide +kernel
theorem dX8_plaits_52 : decode cX8_plaits 52 = .ok (.getfield 171, 3) := by decide +kernel
theorem dX8_plaits_55 : decode cX8_plaits 55 = .ok (.ifCond .ge 11, 3) := by decide +kernel
theorem dX8_plaits_58 : decode cX8_plaits 58 = .ok (.aload 4, 2) := by decide +kernel
theorem dX8_plaits_60 : decode cX8_plaits 60 = .ok (.getfield 171, 3) := by decide +kernel
theorem dX8_plaits_63 : decode cX8_plaits 63 = .ok (.ifCond .lt 6, 3) := by decide +kernel
theorem dX8_plaits_66 : decode cX8_plaits 66 = .ok (.bipush (-3), 2) := by decide +kernel
theorem dX8_plaits_68 : decode cX8_plaits 68 = .ok (.ireturn, 1) := by decide +kernel
theorem dX8_plaits_69 : decode cX8_plaits 69 = .ok (.aload_n 3, 1) := by decide +kernel
theorem dX8_plaits_70 : decode cX8_plaits 70 = .ok (.getfield 157, 3) := by decide +kernel
theorem dX8_plaits_73 : decode cX8_plaits 73 = .ok (.aload 4, 2) := by decide +kernel
theorem dX8_plaits_75 : decode cX8_plaits 75 = .ok (.getfield 157, 3) := by decide +kernel
theorem dX8_plaits_78 : decode cX8_plaits 78 = .ok (.if_icmp .eq 6, 3) := by decide +kernel
theorem dX8_plaits_81 : decode cX8_plaits 81 = .ok (.bipush (-3), 2) := by decide +kernel
theorem dX8_plaits_83 : decode cX8_plaits 83 = .ok (.ireturn, 1) := by decide +kernel
theorem dX8_plaits_84 : decode cX8_plaits 84 = .ok (.aload_n 3, 1) := by decide +kernel
theorem dX8_plaits_85 : decode cX8_plaits 85 = .ok (.iload_n 2, 1) := by decide +kernel
theorem dX8_plaits_86 : decode cX8_plaits 86 = .ok (.putfield 171, 3) := by decide +kernel
theorem dX8_plaits_89 : decode cX8_plaits 89 = .ok (.aload 4, 2) := by decide +kernel
theorem dX8_plaits_91 : decode cX8_plaits 91 = .ok (.iload_n 1, 1) := by decide +kernel
theorem dX8_plaits_92 : decode cX8_plaits 92 = .ok (.putfield 171, 3) := by decide +kernel
theorem dX8_plaits_95 : decode cX8_plaits 95 = .ok (.aload_n 0, 1) := by decide +kernel
theorem dX8_plaits_96 : decode cX8_plaits 96 = .ok (.getfield 28, 3) := by decide +kernel
theorem dX8_plaits_99 : decode cX8_plaits 99 = .ok (.aload_n 3, 1) := by decide +kernel
theorem dX8_plaits_100 : decode cX8_plaits 100 = .ok (.invokevirtual 177, 3) := by decide +kernel
theorem dX8_plaits_103 : decode cX8_plaits 103 = .ok (.ireturn, 1) := by decide +kernel
theorem dX8_pass_0 : decode cX8_pass 0 = .ok (.aload_n 0, 1) := by decide +kernel
theorem dX8_pass_1 : decode cX8_pass 1 = .ok (.getfield 28, 3) := by decide +kernel
theorem dX8_pass_4 : decode cX8_pass 4 = .ok (.iload_n 1, 1) := by decide +kernel
theorem dX8_pass_5 : decode cX8_pass 5 = .ok (.invokevirtual 153, 3) := by decide +kernel
theorem dX8_pass_8 : decode cX8_pass 8 = .ok (.astore_n 3, 1) := by decide +kernel
theorem dX8_pass_9 : decode cX8_pass 9 = .ok (.aload_n 3, 1) := by decide +kernel
theorem dX8_pass_10 : decode cX8_pass 10 = .ok (.ifnonnull 6, 3) := by decide +kernel
theorem dX8_pass_13 : decode cX8_pass 13 = .ok (.bipush (-6), 2) := by decide +kernel
theorem dX8_pass_15 : decode cX8_pass 15 = .ok (.ireturn, 1) := by decide +kernel
theorem dX8_pass_16 : decode cX8_pass 16 = .ok (.aload_n 0, 1) := by decide +kernel
theorem dX8_pass_17 : decode cX8_pass 17 = .ok (.getfield 28, 3) := by decide +kernel
theorem dX8_pass_20 : decode cX8_pass 20 = .ok (.iload_n 2, 1) := by decide +kernel
theorem dX8_pass_21 : decode cX8_pass 21 = .ok (.invokevirtual 109, 3) := by decide +kernel
theorem dX8_pass_24 : decode cX8_pass 24 = .ok (.ifnull 11, 3) := by decide +kernel
theorem dX8_pass_27 : decode cX8_pass 27 = .ok (.aload_n 3, 1) := by decide +kernel
theorem dX8_pass_28 : decode cX8_pass 28 = .ok (.getfield 157, 3) := by decide +kernel
theorem dX8_pass_31 : decode cX8_pass 31 = .ok (.iload_n 2, 1) := by decide +kernel
theorem dX8_pass_32 : decode cX8_pass 32 = .ok (.if_icmp .ne 6, 3) := by decide +kernel
theorem dX8_pass_35 : decode cX8_pass 35 = .ok (.bipush (-5), 2) := by decide +kernel
theorem dX8_pass_37 : decode cX8_pass 37 = .ok (.ireturn, 1) := by decide +kernel
theorem dX8_pass_38 : decode cX8_pass 38 = .ok (.aload_n 3, 1) := by decide +kernel
theorem dX8_pass_39 : decode cX8_pass 39 = .ok (.getfield 174, 3) := by decide +kernel
theorem dX8_pass_42 : decode cX8_pass 42 = .ok (.ifCond .eq 6, 3) := by decide +kernel
theorem dX8_pass_45 : decode cX8_pass 45 = .ok (.bipush (-3), 2) := by decide +kernel
theorem dX8_pass_47 : decode cX8_pass 47 = .ok (.ireturn, 1) := by decide +kernel
theorem dX8_pass_48 : decode cX8_pass 48 = .ok (.aload_n 3, 1) := by decide +kernel
theorem dX8_pass_49 : decode cX8_pass 49 = .ok (.getfield 162, 3) := by decide +kernel
theorem dX8_pass_52 : decode cX8_pass 52 = .ok (.istore 4, 2) := by decide +kernel
theorem dX8_pass_54 : decode cX8_pass 54 = .ok (.aload_n 3, 1) := by decide +kernel
theorem dX8_pass_55 : decode cX8_pass 55 = .ok (.iload_n 2, 1) := by decide +kernel
theorem dX8_pass_56 : decode cX8_pass 56 = .ok (.putfield 162, 3) := by decide +kernel
theorem dX8_pass_59 : decode cX8_pass 59 = .ok (.iload 4, 2) := by decide +kernel
theorem dX8_pass_61 : decode cX8_pass 61 = .ok (.ireturn, 1) := by decide +kernel
theorem dX8_live_0 : decode cX8_live 0 = .ok (.aload_n 0, 1) := by decide +kernel
theorem dX8_live_1 : decode cX8_live 1 = .ok (.getfield 28, 3) := by decide +kernel
theorem dX8_live_4 : decode cX8_live 4 = .ok (.getfield 73, 3) := by decide +kernel
theorem dX8_live_7 : decode cX8_live 7 = .ok (.sipush 999, 3) := by decide +kernel
theorem dX8_live_10 : decode cX8_live 10 = .ok (.if_icmp .lt 6, 3) := by decide +kernel
theorem dX8_live_13 : decode cX8_live 13 = .ok (.bipush (-4), 2) := by decide +kernel
theorem dX8_live_15 : decode cX8_live 15 = .ok (.ireturn, 1) := by decide +kernel
theorem dX8_live_16 : decode cX8_live 16 = .ok (.aload_n 0, 1) := by decide +kernel
theorem dX8_live_17 : decode cX8_live 17 = .ok (.getfield 28, 3) := by decide +kernel
theorem dX8_live_20 : decode cX8_live 20 = .ok (.invokevirtual 181, 3) := by decide +kernel
theorem dX8_live_23 : decode cX8_live 23 = .ok (.aload_n 0, 1) := by decide +kernel
theorem dX8_live_24 : decode cX8_live 24 = .ok (.getfield 28, 3) := by decide +kernel
theorem dX8_live_27 : decode cX8_live 27 = .ok (.iconst 0, 1) := by decide +kernel
theorem dX8_live_28 : decode cX8_live 28 = .ok (.invokevirtual 184, 3) := by decide +kernel
theorem dX8_live_31 : decode cX8_live 31 = .ok (.aload_n 0, 1) := by decide +kernel
theorem dX8_live_32 : decode cX8_live 32 = .ok (.getfield 28, 3) := by decide +kernel
theorem dX8_live_35 : decode cX8_live 35 = .ok (.getfield 187, 3) := by decide +kernel
theorem dX8_live_38 : decode cX8_live 38 = .ok (.ireturn, 1) := by decide +kernel
theorem dX8_run_0 : decode cX8_run 0 = .ok (.iload_n 1, 1) := by decide +kernel
theorem dX8_run_1 : decode cX8_run 1 = .ok (.ifCond .lt 9, 3) := by decide +kernel
theorem dX8_run_4 : decode cX8_run 4 = .ok (.iload_n 1, 1) := by decide +kernel
theorem dX8_run_5 : decode cX8_run 5 = .ok (.bipush 60, 2) := by decide +kernel
theorem dX8_run_7 : decode cX8_run 7 = .ok (.if_icmp .le 6, 3) := by decide +kernel
theorem dX8_run_10 : decode cX8_run 10 = .ok (.bipush (-2), 2) := by decide +kernel
theorem dX8_run_12 : decode cX8_run 12 = .ok (.ireturn, 1) := by decide +kernel
theorem dX8_run_13 : decode cX8_run 13 = .ok (.aload_n 0, 1) := by decide +kernel
theorem dX8_run_14 : decode cX8_run 14 = .ok (.getfield 32, 3) := by decide +kernel
theorem dX8_run_17 : decode cX8_run 17 = .ok (.aload_n 0, 1) := by decide +kernel
theorem dX8_run_18 : decode cX8_run 18 = .ok (.getfield 28, 3) := by decide +kernel
theorem dX8_run_21 : decode cX8_run 21 = .ok (.invokevirtual 190, 3) := by decide +kernel
theorem dX8_run_24 : decode cX8_run 24 = .ok (.aload_n 0, 1) := by decide +kernel
theorem dX8_run_25 : decode cX8_run 25 = .ok (.getfield 32, 3) := by decide +kernel
theorem dX8_run_28 : decode cX8_run 28 = .ok (.invokevirtual 181, 3) := by decide +kernel
theorem dX8_run_31 : decode cX8_run 31 = .ok (.iconst 0, 1) := by decide +kernel
theorem dX8_run_32 : decode cX8_run 32 = .ok (.istore_n 3, 1) := by decide +kernel
theorem dX8_run_33 : decode cX8_run 33 = .ok (.iload_n 3, 1) := by decide +kernel
theorem dX8_run_34 : decode cX8_run 34 = .ok (.iload_n 1, 1) := by decide +kernel
theorem dX8_run_35 : decode cX8_run 35 = .ok (.if_icmp .ge 17, 3) := by decide +kernel
theorem dX8_run_38 : decode cX8_run 38 = .ok (.aload_n 0, 1) := by decide +kernel
theorem dX8_run_39 : decode cX8_run 39 = .ok (.getfield 32, 3) := by decide +kernel
theorem dX8_run_42 : decode cX8_run 42 = .ok (.iload_n 3, 1) := by decide +kernel
theorem dX8_run_43 : decode cX8_run 43 = .ok (.invokevirtual 184, 3) := by decide +kernel
theorem dX8_run_46 : decode cX8_run 46 = .ok (.iinc 3 1, 3) := by decide +kernel
theorem dX8_run_49 : decode cX8_run 49 = .ok (.goto (-16), 3) := by decide +kernel
theorem dX8_run_52 : decode cX8_run 52 = .ok (.aload_n 0, 1) := by decide +kernel
theorem dX8_run_53 : decode cX8_run 53 = .ok (.iload_n 2, 1) := by decide +kernel
theorem dX8_run_54 : decode cX8_run 54 = .ok (.invokevirtual 194, 3) := by decide +kernel
theorem dX8_run_57 : decode cX8_run 57 = .ok (.ireturn, 1) := by decide +kernel
theorem dX8_ofSeason_0 : decode cX8_ofSeason 0 = .ok (.iload_n 1, 1) := by decide +kernel
theorem dX8_ofSeason_1 : decode cX8_ofSeason 1 = .ok (.tableswitch 75 0 4 #[35, 43, 51, 59, 67], 35) := by decide +kernel
theorem dX8_ofSeason_36 : decode cX8_ofSeason 36 = .ok (.aload_n 0, 1) := by decide +kernel
theorem dX8_ofSeason_37 : decode cX8_ofSeason 37 = .ok (.getfield 32, 3) := by decide +kernel
theorem dX8_ofSeason_40 : decode cX8_ofSeason 40 = .ok (.getfield 187, 3) := by decide +kernel
theorem dX8_ofSeason_43 : decode cX8_ofSeason 43 = .ok (.ireturn, 1) := by decide +kernel
theorem dX8_ofSeason_44 : decode cX8_ofSeason 44 = .ok (.aload_n 0, 1) := by decide +kernel
theorem dX8_ofSeason_45 : decode cX8_ofSeason 45 = .ok (.getfield 32, 3) := by decide +kernel
theorem dX8_ofSeason_48 : decode cX8_ofSeason 48 = .ok (.getfield 197, 3) := by decide +kernel
theorem dX8_ofSeason_51 : decode cX8_ofSeason 51 = .ok (.ireturn, 1) := by decide +kernel
theorem dX8_ofSeason_52 : decode cX8_ofSeason 52 = .ok (.aload_n 0, 1) := by decide +kernel
theorem dX8_ofSeason_53 : decode cX8_ofSeason 53 = .ok (.getfield 32, 3) := by decide +kernel
theorem dX8_ofSeason_56 : decode cX8_ofSeason 56 = .ok (.getfield 200, 3) := by decide +kernel
theorem dX8_ofSeason_59 : decode cX8_ofSeason 59 = .ok (.ireturn, 1) := by decide +kernel
theorem dX8_ofSeason_60 : decode cX8_ofSeason 60 = .ok (.aload_n 0, 1) := by decide +kernel
theorem dX8_ofSeason_61 : decode cX8_ofSeason 61 = .ok (.getfield 32, 3) := by decide +kernel
theorem dX8_ofSeason_64 : decode cX8_ofSeason 64 = .ok (.getfield 203, 3) := by decide +kernel
theorem dX8_ofSeason_67 : decode cX8_ofSeason 67 = .ok (.ireturn, 1) := by decide +kernel
theorem dX8_ofSeason_68 : decode cX8_ofSeason 68 = .ok (.aload_n 0, 1) := by decide +kernel
theorem dX8_ofSeason_69 : decode cX8_ofSeason 69 = .ok (.getfield 32, 3) := by decide +kernel
theorem dX8_ofSeason_72 : decode cX8_ofSeason 72 = .ok (.getfield 206, 3) := by decide +kernel
theorem dX8_ofSeason_75 : decode cX8_ofSeason 75 = .ok (.ireturn, 1) := by decide +kernel
theorem dX8_ofSeason_76 : decode cX8_ofSeason 76 = .ok (.aload_n 0, 1) := by decide +kernel
theorem dX8_ofSeason_77 : decode cX8_ofSeason 77 = .ok (.getfield 32, 3) := by decide +kernel
theorem dX8_ofSeason_80 : decode cX8_ofSeason 80 = .ok (.iload_n 1, 1) := by decide +kernel
theorem dX8_ofSeason_81 : decode cX8_ofSeason 81 = .ok (.bipush 10, 2) := by decide +kernel
theorem dX8_ofSeason_83 : decode cX8_ofSeason 83 = .ok (.isub, 1) := by decide +kernel
theorem dX8_ofSeason_84 : decode cX8_ofSeason 84 = .ok (.invokevirtual 109, 3) := by decide +kernel
theorem dX8_ofSeason_87 : decode cX8_ofSeason 87 = .ok (.astore_n 2, 1) := by decide +kernel
theorem dX8_ofSeason_88 : decode cX8_ofSeason 88 = .ok (.aload_n 2, 1) := by decide +kernel
theorem dX8_ofSeason_89 : decode cX8_ofSeason 89 = .ok (.ifnull 8, 3) := by decide +kernel
theorem dX8_ofSeason_92 : decode cX8_ofSeason 92 = .ok (.aload_n 2, 1) := by decide +kernel
theorem dX8_ofSeason_93 : decode cX8_ofSeason 93 = .ok (.getfield 125, 3) := by decide +kernel
theorem dX8_ofSeason_96 : decode cX8_ofSeason 96 = .ok (.ireturn, 1) := by decide +kernel
theorem dX8_ofSeason_97 : decode cX8_ofSeason 97 = .ok (.aload_n 0, 1) := by decide +kernel
theorem dX8_ofSeason_98 : decode cX8_ofSeason 98 = .ok (.getfield 32, 3) := by decide +kernel
theorem dX8_ofSeason_101 : decode cX8_ofSeason 101 = .ok (.iload_n 1, 1) := by decide +kernel
theorem dX8_ofSeason_102 : decode cX8_ofSeason 102 = .ok (.bipush 20, 2) := by decide +kernel
theorem dX8_ofSeason_104 : decode cX8_ofSeason 104 = .ok (.isub, 1) := by decide +kernel
theorem dX8_ofSeason_105 : decode cX8_ofSeason 105 = .ok (.invokevirtual 153, 3) := by decide +kernel
theorem dX8_ofSeason_108 : decode cX8_ofSeason 108 = .ok (.astore_n 3, 1) := by decide +kernel
theorem dX8_ofSeason_109 : decode cX8_ofSeason 109 = .ok (.aload_n 3, 1) := by decide +kernel
theorem dX8_ofSeason_110 : decode cX8_ofSeason 110 = .ok (.ifnonnull 8, 3) := by decide +kernel
theorem dX8_ofSeason_113 : decode cX8_ofSeason 113 = .ok (.bipush (-7), 2) := by decide +kernel
theorem dX8_ofSeason_115 : decode cX8_ofSeason 115 = .ok (.goto 7, 3) := by decide +kernel
theorem dX8_ofSeason_118 : decode cX8_ofSeason 118 = .ok (.aload_n 3, 1) := by decide +kernel
theorem dX8_ofSeason_119 : decode cX8_ofSeason 119 = .ok (.getfield 174, 3) := by decide +kernel
theorem dX8_ofSeason_122 : decode cX8_ofSeason 122 = .ok (.ireturn, 1) := by decide +kernel
theorem dX8_ripe_0 : decode cX8_ripe 0 = .ok (.aload_n 0, 1) := by decide +kernel
theorem dX8_ripe_1 : decode cX8_ripe 1 = .ok (.getfield 28, 3) := by decide +kernel
theorem dX8_ripe_4 : decode cX8_ripe 4 = .ok (.iload_n 1, 1) := by decide +kernel
theorem dX8_ripe_5 : decode cX8_ripe 5 = .ok (.invokevirtual 109, 3) := by decide +kernel
theorem dX8_ripe_8 : decode cX8_ripe 8 = .ok (.astore_n 3, 1) := by decide +kernel
theorem dX8_ripe_9 : decode cX8_ripe 9 = .ok (.aload_n 3, 1) := by decide +kernel
theorem dX8_ripe_10 : decode cX8_ripe 10 = .ok (.ifnonnull 6, 3) := by decide +kernel
theorem dX8_ripe_13 : decode cX8_ripe 13 = .ok (.bipush (-5), 2) := by decide +kernel
theorem dX8_ripe_15 : decode cX8_ripe 15 = .ok (.ireturn, 1) := by decide +kernel
theorem dX8_ripe_16 : decode cX8_ripe 16 = .ok (.iload_n 2, 1) := by decide +kernel
theorem dX8_ripe_17 : decode cX8_ripe 17 = .ok (.ifCond .lt 10, 3) := by decide +kernel
theorem dX8_ripe_20 : decode cX8_ripe 20 = .ok (.iload_n 2, 1) := by decide +kernel
theorem dX8_ripe_21 : decode cX8_ripe 21 = .ok (.sipush 1998, 3) := by decide +kernel
theorem dX8_ripe_24 : decode cX8_ripe 24 = .ok (.if_icmp .le 6, 3) := by decide +kernel
theorem dX8_ripe_27 : decode cX8_ripe 27 = .ok (.bipush (-7), 2) := by decide +kernel
theorem dX8_ripe_29 : decode cX8_ripe 29 = .ok (.ireturn, 1) := by decide +kernel
theorem dX8_ripe_30 : decode cX8_ripe 30 = .ok (.aload_n 0, 1) := by decide +kernel
theorem dX8_ripe_31 : decode cX8_ripe 31 = .ok (.aload_n 3, 1) := by decide +kernel
theorem dX8_ripe_32 : decode cX8_ripe 32 = .ok (.iload_n 2, 1) := by decide +kernel
theorem dX8_ripe_33 : decode cX8_ripe 33 = .ok (.aload_n 0, 1) := by decide +kernel
theorem dX8_ripe_34 : decode cX8_ripe 34 = .ok (.getfield 28, 3) := by decide +kernel
theorem dX8_ripe_37 : decode cX8_ripe 37 = .ok (.iload_n 1, 1) := by decide +kernel
theorem dX8_ripe_38 : decode cX8_ripe 38 = .ok (.invokevirtual 113, 3) := by decide +kernel
theorem dX8_ripe_41 : decode cX8_ripe 41 = .ok (.invokevirtual 209, 3) := by decide +kernel
theorem dX8_ripe_44 : decode cX8_ripe 44 = .ok (.ireturn, 1) := by decide +kernel
theorem dX8_soonest_0 : decode cX8_soonest 0 = .ok (.aload_n 0, 1) := by decide +kernel
theorem dX8_soonest_1 : decode cX8_soonest 1 = .ok (.getfield 28, 3) := by decide +kernel
theorem dX8_soonest_4 : decode cX8_soonest 4 = .ok (.iload_n 1, 1) := by decide +kernel
theorem dX8_soonest_5 : decode cX8_soonest 5 = .ok (.invokevirtual 109, 3) := by decide +kernel
theorem dX8_soonest_8 : decode cX8_soonest 8 = .ok (.astore_n 3, 1) := by decide +kernel
theorem dX8_soonest_9 : decode cX8_soonest 9 = .ok (.aload_n 3, 1) := by decide +kernel
theorem dX8_soonest_10 : decode cX8_soonest 10 = .ok (.ifnonnull 6, 3) := by decide +kernel
theorem dX8_soonest_13 : decode cX8_soonest 13 = .ok (.bipush (-5), 2) := by decide +kernel
theorem dX8_soonest_15 : decode cX8_soonest 15 = .ok (.ireturn, 1) := by decide +kernel
theorem dX8_soonest_16 : decode cX8_soonest 16 = .ok (.iload_n 2, 1) := by decide +kernel
theorem dX8_soonest_17 : decode cX8_soonest 17 = .ok (.iconst 1, 1) := by decide +kernel
theorem dX8_soonest_18 : decode cX8_soonest 18 = .ok (.if_icmp .lt 10, 3) := by decide +kernel
theorem dX8_soonest_21 : decode cX8_soonest 21 = .ok (.iload_n 2, 1) := by decide +kernel
theorem dX8_soonest_22 : decode cX8_soonest 22 = .ok (.sipush 200, 3) := by decide +kernel
theorem dX8_soonest_25 : decode cX8_soonest 25 = .ok (.if_icmp .le 6, 3) := by decide +kernel
theorem dX8_soonest_28 : decode cX8_soonest 28 = .ok (.bipush (-7), 2) := by decide +kernel
theorem dX8_soonest_30 : decode cX8_soonest 30 = .ok (.ireturn, 1) := by decide +kernel
theorem dX8_soonest_31 : decode cX8_soonest 31 = .ok (.aload_n 3, 1) := by decide +kernel
theorem dX8_soonest_32 : decode cX8_soonest 32 = .ok (.getfield 140, 3) := by decide +kernel
theorem dX8_soonest_35 : decode cX8_soonest 35 = .ok (.ifCond .eq 7, 3) := by decide +kernel
theorem dX8_soonest_38 : decode cX8_soonest 38 = .ok (.iconst (-1), 1) := by decide +kernel
theorem dX8_soonest_39 : decode cX8_soonest 39 = .ok (.goto 17, 3) := by decide +kernel
theorem dX8_soonest_42 : decode cX8_soonest 42 = .ok (.aload_n 0, 1) := by decide +kernel
theorem dX8_soonest_43 : decode cX8_soonest 43 = .ok (.aload_n 3, 1) := by decide +kernel
theorem dX8_soonest_44 : decode cX8_soonest 44 = .ok (.iload_n 2, 1) := by decide +kernel
theorem dX8_soonest_45 : decode cX8_soonest 45 = .ok (.aload_n 0, 1) := by decide +kernel
theorem dX8_soonest_46 : decode cX8_soonest 46 = .ok (.getfield 28, 3) := by decide +kernel
theorem dX8_soonest_49 : decode cX8_soonest 49 = .ok (.iload_n 1, 1) := by decide +kernel
theorem dX8_soonest_50 : decode cX8_soonest 50 = .ok (.invokevirtual 113, 3) := by decide +kernel
theorem dX8_soonest_53 : decode cX8_soonest 53 = .ok (.invokevirtual 209, 3) := by decide +kernel
theorem dX8_soonest_56 : decode cX8_soonest 56 = .ok (.ireturn, 1) := by decide +kernel
theorem dX8_ripeWeek_0 : decode cX8_ripeWeek 0 = .ok (.aload_n 0, 1) := by decide +kernel
theorem dX8_ripeWeek_1 : decode cX8_ripeWeek 1 = .ok (.getfield 52, 3) := by decide +kernel
theorem dX8_ripeWeek_4 : decode cX8_ripeWeek 4 = .ok (.aload_n 1, 1) := by decide +kernel
theorem dX8_ripeWeek_5 : decode cX8_ripeWeek 5 = .ok (.invokevirtual 213, 3) := by decide +kernel
theorem dX8_ripeWeek_8 : decode cX8_ripeWeek 8 = .ok (.iconst 0, 1) := by decide +kernel
theorem dX8_ripeWeek_9 : decode cX8_ripeWeek 9 = .ok (.istore 4, 2) := by decide +kernel
theorem dX8_ripeWeek_11 : decode cX8_ripeWeek 11 = .ok (.iload 4, 2) := by decide +kernel
theorem dX8_ripeWeek_13 : decode cX8_ripeWeek 13 = .ok (.bipush 60, 2) := by decide +kernel
theorem dX8_ripeWeek_15 : decode cX8_ripeWeek 15 = .ok (.if_icmp .ge 59, 3) := by decide +kernel
theorem dX8_ripeWeek_18 : decode cX8_ripeWeek 18 = .ok (.aload_n 0, 1) := by decide +kernel
theorem dX8_ripeWeek_19 : decode cX8_ripeWeek 19 = .ok (.getfield 52, 3) := by decide +kernel
theorem dX8_ripeWeek_22 : decode cX8_ripeWeek 22 = .ok (.aload_n 0, 1) := by decide +kernel
theorem dX8_ripeWeek_23 : decode cX8_ripeWeek 23 = .ok (.getfield 10, 3) := by decide +kernel
theorem dX8_ripeWeek_26 : decode cX8_ripeWeek 26 = .ok (.aload_n 0, 1) := by decide +kernel
theorem dX8_ripeWeek_27 : decode cX8_ripeWeek 27 = .ok (.getfield 28, 3) := by decide +kernel
theorem dX8_ripeWeek_30 : decode cX8_ripeWeek 30 = .ok (.getfield 79, 3) := by decide +kernel
theorem dX8_ripeWeek_33 : decode cX8_ripeWeek 33 = .ok (.aload_n 0, 1) := by decide +kernel
theorem dX8_ripeWeek_34 : decode cX8_ripeWeek 34 = .ok (.getfield 52, 3) := by decide +kernel
theorem dX8_ripeWeek_37 : decode cX8_ripeWeek 37 = .ok (.aload_n 0, 1) := by decide +kernel
theorem dX8_ripeWeek_38 : decode cX8_ripeWeek 38 = .ok (.getfield 28, 3) := by decide +kernel
theorem dX8_ripeWeek_41 : decode cX8_ripeWeek 41 = .ok (.getfield 73, 3) := by decide +kernel
theorem dX8_ripeWeek_44 : decode cX8_ripeWeek 44 = .ok (.iload 4, 2) := by decide +kernel
theorem dX8_ripeWeek_46 : decode cX8_ripeWeek 46 = .ok (.iadd, 1) := by decide +kernel
theorem dX8_ripeWeek_47 : decode cX8_ripeWeek 47 = .ok (.iload_n 3, 1) := by decide +kernel
theorem dX8_ripeWeek_48 : decode cX8_ripeWeek 48 = .ok (.invokevirtual 216, 3) := by decide +kernel
theorem dX8_ripeWeek_51 : decode cX8_ripeWeek 51 = .ok (.putfield 125, 3) := by decide +kernel
theorem dX8_ripeWeek_54 : decode cX8_ripeWeek 54 = .ok (.aload_n 0, 1) := by decide +kernel
theorem dX8_ripeWeek_55 : decode cX8_ripeWeek 55 = .ok (.getfield 52, 3) := by decide +kernel
theorem dX8_ripeWeek_58 : decode cX8_ripeWeek 58 = .ok (.invokevirtual 143, 3) := by decide +kernel
theorem dX8_ripeWeek_61 : decode cX8_ripeWeek 61 = .ok (.iload_n 2, 1) := by decide +kernel
theorem dX8_ripeWeek_62 : decode cX8_ripeWeek 62 = .ok (.if_icmp .lt 6, 3) := by decide +kernel
theorem dX8_ripeWeek_65 : decode cX8_ripeWeek 65 = .ok (.iload 4, 2) := by decide +kernel
theorem dX8_ripeWeek_67 : decode cX8_ripeWeek 67 = .ok (.ireturn, 1) := by decide +kernel
theorem dX8_ripeWeek_68 : decode cX8_ripeWeek 68 = .ok (.iinc 4 1, 3) := by decide +kernel
theorem dX8_ripeWeek_71 : decode cX8_ripeWeek 71 = .ok (.goto (-60), 3) := by decide +kernel
theorem dX8_ripeWeek_74 : decode cX8_ripeWeek 74 = .ok (.iconst (-1), 1) := by decide +kernel
theorem dX8_ripeWeek_75 : decode cX8_ripeWeek 75 = .ok (.ireturn, 1) := by decide +kernel
theorem dX8_take_0 : decode cX8_take 0 = .ok (.aload_n 0, 1) := by decide +kernel
theorem dX8_take_1 : decode cX8_take 1 = .ok (.iload_n 1, 1) := by decide +kernel
theorem dX8_take_2 : decode cX8_take 2 = .ok (.invokevirtual 220, 3) := by decide +kernel
theorem dX8_take_5 : decode cX8_take 5 = .ok (.astore 4, 2) := by decide +kernel
theorem dX8_take_7 : decode cX8_take 7 = .ok (.aload 4, 2) := by decide +kernel
theorem dX8_take_9 : decode cX8_take 9 = .ok (.ifnonnull 6, 3) := by decide +kernel
theorem dX8_take_12 : decode cX8_take 12 = .ok (.bipush (-2), 2) := by decide +kernel
theorem dX8_take_14 : decode cX8_take 14 = .ok (.ireturn, 1) := by decide +kernel
theorem dX8_take_15 : decode cX8_take 15 = .ok (.aload 4, 2) := by decide +kernel
theorem dX8_take_17 : decode cX8_take 17 = .ok (.getfield 224, 3) := by decide +kernel
theorem dX8_take_20 : decode cX8_take 20 = .ok (.iconst (-1), 1) := by decide +kernel
theorem dX8_take_21 : decode cX8_take 21 = .ok (.if_icmp .ne 6, 3) := by decide +kernel
theorem dX8_take_24 : decode cX8_take 24 = .ok (.bipush (-11), 2) := by decide +kernel
theorem dX8_take_26 : decode cX8_take 26 = .ok (.ireturn, 1) := by decide +kernel
theorem dX8_take_27 : decode cX8_take 27 = .ok (.aload 4, 2) := by decide +kernel
theorem dX8_take_29 : decode cX8_take 29 = .ok (.invokevirtual 227, 3) := by decide +kernel
theorem dX8_take_32 : decode cX8_take 32 = .ok (.ifCond .ne 6, 3) := by decide +kernel
theorem dX8_take_35 : decode cX8_take 35 = .ok (.bipush (-2), 2) := by decide +kernel
theorem dX8_take_37 : decode cX8_take 37 = .ok (.ireturn, 1) := by decide +kernel
theorem dX8_take_38 : decode cX8_take 38 = .ok (.aload_n 0, 1) := by decide +kernel
theorem dX8_take_39 : decode cX8_take 39 = .ok (.getfield 28, 3) := by decide +kernel
theorem dX8_take_42 : decode cX8_take 42 = .ok (.iload_n 2, 1) := by decide +kernel
theorem dX8_take_43 : decode cX8_take 43 = .ok (.invokevirtual 109, 3) := by decide +kernel
theorem dX8_take_46 : decode cX8_take 46 = .ok (.astore 5, 2) := by decide +kernel
theorem dX8_take_48 : decode cX8_take 48 = .ok (.aload 5, 2) := by decide +kernel
theorem dX8_take_50 : decode cX8_take 50 = .ok (.ifnonnull 6, 3) := by decide +kernel
theorem dX8_take_53 : decode cX8_take 53 = .ok (.bipush (-5), 2) := by decide +kernel
theorem dX8_take_55 : decode cX8_take 55 = .ok (.ireturn, 1) := by decide +kernel
theorem dX8_take_56 : decode cX8_take 56 = .ok (.iload_n 3, 1) := by decide +kernel
theorem dX8_take_57 : decode cX8_take 57 = .ok (.ifCond .lt 8, 3) := by decide +kernel
theorem dX8_take_60 : decode cX8_take 60 = .ok (.iload_n 3, 1) := by decide +kernel
theorem dX8_take_61 : decode cX8_take 61 = .ok (.iconst 1, 1) := by decide +kernel
theorem dX8_take_62 : decode cX8_take 62 = .ok (.if_icmp .le 6, 3) := by decide +kernel
theorem dX8_take_65 : decode cX8_take 65 = .ok (.bipush (-7), 2) := by decide +kernel
theorem dX8_take_67 : decode cX8_take 67 = .ok (.ireturn, 1) := by decide +kernel
theorem dX8_take_68 : decode cX8_take 68 = .ok (.aload 5, 2) := by decide +kernel
theorem dX8_take_70 : decode cX8_take 70 = .ok (.getfield 140, 3) := by decide +kernel
theorem dX8_take_73 : decode cX8_take 73 = .ok (.ifCond .eq 5, 3) := by decide +kernel
theorem dX8_take_76 : decode cX8_take 76 = .ok (.iconst 0, 1) := by decide +kernel
theorem dX8_take_77 : decode cX8_take 77 = .ok (.ireturn, 1) := by decide +kernel
theorem dX8_take_78 : decode cX8_take 78 = .ok (.aload_n 0, 1) := by decide +kernel
theorem dX8_take_79 : decode cX8_take 79 = .ok (.aload 4, 2) := by decide +kernel
theorem dX8_take_81 : decode cX8_take 81 = .ok (.aload 5, 2) := by decide +kernel
theorem dX8_take_83 : decode cX8_take 83 = .ok (.aload_n 0, 1) := by decide +kernel
theorem dX8_take_84 : decode cX8_take 84 = .ok (.getfield 28, 3) := by decide +kernel
theorem dX8_take_87 : decode cX8_take 87 = .ok (.iload_n 2, 1) := by decide +kernel
theorem dX8_take_88 : decode cX8_take 88 = .ok (.invokevirtual 113, 3) := by decide +kernel
theorem dX8_take_91 : decode cX8_take 91 = .ok (.iload_n 3, 1) := by decide +kernel
theorem dX8_take_92 : decode cX8_take 92 = .ok (.invokevirtual 231, 3) := by decide +kernel
theorem dX8_take_95 : decode cX8_take 95 = .ok (.ireturn, 1) := by decide +kernel
theorem dX8_bestOffers_0 : decode cX8_bestOffers 0 = .ok (.iconst 0, 1) := by decide +kernel
theorem dX8_bestOffers_1 : decode cX8_bestOffers 1 = .ok (.istore 5, 2) := by decide +kernel
theorem dX8_bestOffers_3 : decode cX8_bestOffers 3 = .ok (.iconst 0, 1) := by decide +kernel
theorem dX8_bestOffers_4 : decode cX8_bestOffers 4 = .ok (.istore 6, 2) := by decide +kernel
theorem dX8_bestOffers_6 : decode cX8_bestOffers 6 = .ok (.iconst 1, 1) := by decide +kernel
theorem dX8_bestOffers_7 : decode cX8_bestOffers 7 = .ok (.bipush 6, 2) := by decide +kernel
theorem dX8_bestOffers_9 : decode cX8_bestOffers 9 = .ok (.aload_n 1, 1) := by decide +kernel
theorem dX8_bestOffers_10 : decode cX8_bestOffers 10 = .ok (.getfield 235, 3) := by decide +kernel
theorem dX8_bestOffers_13 : decode cX8_bestOffers 13 = .ok (.iconst 2, 1) := by decide +kernel
theorem dX8_bestOffers_14 : decode cX8_bestOffers 14 = .ok (.idiv, 1) := by decide +kernel
theorem dX8_bestOffers_15 : decode cX8_bestOffers 15 = .ok (.invokestatic 236, 3) := by decide +kernel
theorem dX8_bestOffers_18 : decode cX8_bestOffers 18 = .ok (.ishl, 1) := by decide +kernel
theorem dX8_bestOffers_19 : decode cX8_bestOffers 19 = .ok (.istore 7, 2) := by decide +kernel
theorem dX8_bestOffers_21 : decode cX8_bestOffers 21 = .ok (.iconst 1, 1) := by decide +kernel
theorem dX8_bestOffers_22 : decode cX8_bestOffers 22 = .ok (.istore 8, 2) := by decide +kernel
theorem dX8_bestOffers_24 : decode cX8_bestOffers 24 = .ok (.iload 8, 2) := by decide +kernel
theorem dX8_bestOffers_26 : decode cX8_bestOffers 26 = .ok (.iload 7, 2) := by decide +kernel
theorem dX8_bestOffers_28 : decode cX8_bestOffers 28 = .ok (.if_icmp .ge 44, 3) := by decide +kernel
theorem dX8_bestOffers_31 : decode cX8_bestOffers 31 = .ok (.aload_n 1, 1) := by decide +kernel
theorem dX8_bestOffers_32 : decode cX8_bestOffers 32 = .ok (.iload 8, 2) := by decide +kernel
theorem dX8_bestOffers_34 : decode cX8_bestOffers 34 = .ok (.invokevirtual 242, 3) := by decide +kernel
theorem dX8_bestOffers_37 : decode cX8_bestOffers 37 = .ok (.istore 9, 2) := by decide +kernel
theorem dX8_bestOffers_39 : decode cX8_bestOffers 39 = .ok (.iload 9, 2) := by decide +kernel
theorem dX8_bestOffers_41 : decode cX8_bestOffers 41 = .ok (.iload 6, 2) := by decide +kernel
theorem dX8_bestOffers_43 : decode cX8_bestOffers 43 = .ok (.if_icmp .le 23, 3) := by decide +kernel
theorem dX8_bestOffers_46 : decode cX8_bestOffers 46 = .ok (.aload_n 0, 1) := by decide +kernel
theorem dX8_bestOffers_47 : decode cX8_bestOffers 47 = .ok (.aload_n 1, 1) := by decide +kernel
theorem dX8_bestOffers_48 : decode cX8_bestOffers 48 = .ok (.iload 8, 2) := by decide +kernel
theorem dX8_bestOffers_50 : decode cX8_bestOffers 50 = .ok (.aload_n 2, 1) := by decide +kernel
theorem dX8_bestOffers_51 : decode cX8_bestOffers 51 = .ok (.iload_n 3, 1) := by decide +kernel
theorem dX8_bestOffers_52 : decode cX8_bestOffers 52 = .ok (.invokevirtual 245, 3) := by decide +kernel
theorem dX8_bestOffers_55 : decode cX8_bestOffers 55 = .ok (.ifCond .eq 11, 3) := by decide +kernel
theorem dX8_bestOffers_58 : decode cX8_bestOffers 58 = .ok (.iload 8, 2) := by decide +kernel
theorem dX8_bestOffers_60 : decode cX8_bestOffers 60 = .ok (.istore 5, 2) := by decide +kernel
theorem dX8_bestOffers_62 : decode cX8_bestOffers 62 = .ok (.iload 9, 2) := by decide +kernel
theorem dX8_bestOffers_64 : decode cX8_bestOffers 64 = .ok (.istore 6, 2) := by decide +kernel
theorem dX8_bestOffers_66 : decode cX8_bestOffers 66 = .ok (.iinc 8 1, 3) := by decide +kernel
theorem dX8_bestOffers_69 : decode cX8_bestOffers 69 = .ok (.goto (-45), 3) := by decide +kernel
theorem dX8_bestOffers_72 : decode cX8_bestOffers 72 = .ok (.iload 4, 2) := by decide +kernel
theorem dX8_bestOffers_74 : decode cX8_bestOffers 74 = .ok (.ifCond .ne 8, 3) := by decide +kernel
theorem dX8_bestOffers_77 : decode cX8_bestOffers 77 = .ok (.iload 5, 2) := by decide +kernel
theorem dX8_bestOffers_79 : decode cX8_bestOffers 79 = .ok (.goto 5, 3) := by decide +kernel
theorem dX8_bestOffers_82 : decode cX8_bestOffers 82 = .ok (.iload 6, 2) := by decide +kernel
theorem dX8_bestOffers_84 : decode cX8_bestOffers 84 = .ok (.ireturn, 1) := by decide +kernel
theorem dX8_canTake_0 : decode cX8_canTake 0 = .ok (.aload_n 0, 1) := by decide +kernel
theorem dX8_canTake_1 : decode cX8_canTake 1 = .ok (.getfield 52, 3) := by decide +kernel
theorem dX8_canTake_4 : decode cX8_canTake 4 = .ok (.aload_n 3, 1) := by decide +kernel
theorem dX8_canTake_5 : decode cX8_canTake 5 = .ok (.invokevirtual 213, 3) := by decide +kernel
theorem dX8_canTake_8 : decode cX8_canTake 8 = .ok (.aload_n 1, 1) := by decide +kernel
theorem dX8_canTake_9 : decode cX8_canTake 9 = .ok (.iload_n 2, 1) := by decide +kernel
theorem dX8_canTake_10 : decode cX8_canTake 10 = .ok (.invokevirtual 249, 3) := by decide +kernel
theorem dX8_canTake_13 : decode cX8_canTake 13 = .ok (.istore 5, 2) := by decide +kernel
theorem dX8_canTake_15 : decode cX8_canTake 15 = .ok (.iconst 0, 1) := by decide +kernel
theorem dX8_canTake_16 : decode cX8_canTake 16 = .ok (.istore 6, 2) := by decide +kernel
theorem dX8_canTake_18 : decode cX8_canTake 18 = .ok (.iload 6, 2) := by decide +kernel
theorem dX8_canTake_20 : decode cX8_canTake 20 = .ok (.iload 5, 2) := by decide +kernel
theorem dX8_canTake_22 : decode cX8_canTake 22 = .ok (.if_icmp .gt 157, 3) := by decide +kernel
theorem dX8_canTake_25 : decode cX8_canTake 25 = .ok (.iload 6, 2) := by decide +kernel
theorem dX8_canTake_27 : decode cX8_canTake 27 = .ok (.bipush 60, 2) := by decide +kernel
theorem dX8_canTake_29 : decode cX8_canTake 29 = .ok (.if_icmp .ge 150, 3) := by decide +kernel
theorem dX8_canTake_32 : decode cX8_canTake 32 = .ok (.aload_n 0, 1) := by decide +kernel
theorem dX8_canTake_33 : decode cX8_canTake 33 = .ok (.getfield 28, 3) := by decide +kernel
theorem dX8_canTake_36 : decode cX8_canTake 36 = .ok (.getfield 73, 3) := by decide +kernel
theorem dX8_canTake_39 : decode cX8_canTake 39 = .ok (.iload 6, 2) := by decide +kernel
theorem dX8_canTake_41 : decode cX8_canTake 41 = .ok (.iadd, 1) := by decide +kernel
theorem dX8_canTake_42 : decode cX8_canTake 42 = .ok (.istore 7, 2) := by decide +kernel
theorem dX8_canTake_44 : decode cX8_canTake 44 = .ok (.aload_n 0, 1) := by decide +kernel
theorem dX8_canTake_45 : decode cX8_canTake 45 = .ok (.getfield 52, 3) := by decide +kernel
theorem dX8_canTake_48 : decode cX8_canTake 48 = .ok (.aload_n 0, 1) := by decide +kernel
theorem dX8_canTake_49 : decode cX8_canTake 49 = .ok (.getfield 10, 3) := by decide +kernel
theorem dX8_canTake_52 : decode cX8_canTake 52 = .ok (.aload_n 0, 1) := by decide +kernel
theorem dX8_canTake_53 : decode cX8_canTake 53 = .ok (.getfield 28, 3) := by decide +kernel
theorem dX8_canTake_56 : decode cX8_canTake 56 = .ok (.getfield 79, 3) := by decide +kernel
theorem dX8_canTake_59 : decode cX8_canTake 59 = .ok (.aload_n 0, 1) := by decide +kernel
theorem dX8_canTake_60 : decode cX8_canTake 60 = .ok (.getfield 52, 3) := by decide +kernel
theorem dX8_canTake_63 : decode cX8_canTake 63 = .ok (.iload 7, 2) := by decide +kernel
theorem dX8_canTake_65 : decode cX8_canTake 65 = .ok (.iload 4, 2) := by decide +kernel
theorem dX8_canTake_67 : decode cX8_canTake 67 = .ok (.invokevirtual 216, 3) := by decide +kernel
theorem dX8_canTake_70 : decode cX8_canTake 70 = .ok (.putfield 125, 3) := by decide +kernel
theorem dX8_canTake_73 : decode cX8_canTake 73 = .ok (.iconst 0, 1) := by decide +kernel
theorem dX8_canTake_74 : decode cX8_canTake 74 = .ok (.istore 8, 2) := by decide +kernel
theorem dX8_canTake_76 : decode cX8_canTake 76 = .ok (.iload 8, 2) := by decide +kernel
theorem dX8_canTake_78 : decode cX8_canTake 78 = .ok (.bipush 6, 2) := by decide +kernel
theorem dX8_canTake_80 : decode cX8_canTake 80 = .ok (.if_icmp .ge 93, 3) := by decide +kernel
theorem dX8_canTake_83 : decode cX8_canTake 83 = .ok (.iload_n 2, 1) := by decide +kernel
theorem dX8_canTake_84 : decode cX8_canTake 84 = .ok (.iload 8, 2) := by decide +kernel
theorem dX8_canTake_86 : decode cX8_canTake 86 = .ok (.ishr, 1) := by decide +kernel
theorem dX8_canTake_87 : decode cX8_canTake 87 = .ok (.iconst 1, 1) := by decide +kernel
theorem dX8_canTake_88 : decode cX8_canTake 88 = .ok (.iand, 1) := by decide +kernel
theorem dX8_canTake_89 : decode cX8_canTake 89 = .ok (.ifCond .eq 78, 3) := by decide +kernel
theorem dX8_canTake_92 : decode cX8_canTake 92 = .ok (.aload_n 1, 1) := by decide +kernel
theorem dX8_canTake_93 : decode cX8_canTake 93 = .ok (.iconst 2, 1) := by decide +kernel
theorem dX8_canTake_94 : decode cX8_canTake 94 = .ok (.iload 8, 2) := by decide +kernel
theorem dX8_canTake_96 : decode cX8_canTake 96 = .ok (.imul, 1) := by decide +kernel
theorem dX8_canTake_97 : decode cX8_canTake 97 = .ok (.iconst 1, 1) := by decide +kernel
theorem dX8_canTake_98 : decode cX8_canTake 98 = .ok (.iadd, 1) := by decide +kernel
theorem dX8_canTake_99 : decode cX8_canTake 99 = .ok (.invokevirtual 252, 3) := by decide +kernel
theorem dX8_canTake_102 : decode cX8_canTake 102 = .ok (.iload 6, 2) := by decide +kernel
theorem dX8_canTake_104 : decode cX8_canTake 104 = .ok (.if_icmp .eq 6, 3) := by decide +kernel
theorem dX8_canTake_107 : decode cX8_canTake 107 = .ok (.goto 60, 3) := by decide +kernel
theorem dX8_canTake_110 : decode cX8_canTake 110 = .ok (.aload_n 1, 1) := by decide +kernel
theorem dX8_canTake_111 : decode cX8_canTake 111 = .ok (.iconst 2, 1) := by decide +kernel
theorem dX8_canTake_112 : decode cX8_canTake 112 = .ok (.iload 8, 2) := by decide +kernel
theorem dX8_canTake_114 : decode cX8_canTake 114 = .ok (.imul, 1) := by decide +kernel
theorem dX8_canTake_115 : decode cX8_canTake 115 = .ok (.invokevirtual 252, 3) := by decide +kernel
theorem dX8_canTake_118 : decode cX8_canTake 118 = .ok (.istore 9, 2) := by decide +kernel
theorem dX8_canTake_120 : decode cX8_canTake 120 = .ok (.aload_n 0, 1) := by decide +kernel
theorem dX8_canTake_121 : decode cX8_canTake 121 = .ok (.getfield 52, 3) := by decide +kernel
theorem dX8_canTake_124 : decode cX8_canTake 124 = .ok (.invokevirtual 143, 3) := by decide +kernel
theorem dX8_canTake_127 : decode cX8_canTake 127 = .ok (.iload 9, 2) := by decide +kernel
theorem dX8_canTake_129 : decode cX8_canTake 129 = .ok (.if_icmp .ge 5, 3) := by decide +kernel
theorem dX8_canTake_132 : decode cX8_canTake 132 = .ok (.iconst 0, 1) := by decide +kernel
theorem dX8_canTake_133 : decode cX8_canTake 133 = .ok (.ireturn, 1) := by decide +kernel
theorem dX8_canTake_134 : decode cX8_canTake 134 = .ok (.aload_n 0, 1) := by decide +kernel
theorem dX8_canTake_135 : decode cX8_canTake 135 = .ok (.getfield 52, 3) := by decide +kernel
theorem dX8_canTake_138 : decode cX8_canTake 138 = .ok (.iload 9, 2) := by decide +kernel
theorem dX8_canTake_140 : decode cX8_canTake 140 = .ok (.aload_n 0, 1) := by decide +kernel
theorem dX8_canTake_141 : decode cX8_canTake 141 = .ok (.getfield 10, 3) := by decide +kernel
theorem dX8_canTake_144 : decode cX8_canTake 144 = .ok (.aload_n 0, 1) := by decide +kernel
theorem dX8_canTake_145 : decode cX8_canTake 145 = .ok (.getfield 28, 3) := by decide +kernel
theorem dX8_canTake_148 : decode cX8_canTake 148 = .ok (.getfield 79, 3) := by decide +kernel
theorem dX8_canTake_151 : decode cX8_canTake 151 = .ok (.iconst 1, 1) := by decide +kernel
theorem dX8_canTake_152 : decode cX8_canTake 152 = .ok (.aload_n 0, 1) := by decide +kernel
theorem dX8_canTake_153 : decode cX8_canTake 153 = .ok (.getfield 52, 3) := by decide +kernel
theorem dX8_canTake_156 : decode cX8_canTake 156 = .ok (.iload 7, 2) := by decide +kernel
theorem dX8_canTake_158 : decode cX8_canTake 158 = .ok (.iload 4, 2) := by decide +kernel
theorem dX8_canTake_160 : decode cX8_canTake 160 = .ok (.invokevirtual 117, 3) := by decide +kernel
theorem dX8_canTake_163 : decode cX8_canTake 163 = .ok (.iadd, 1) := by decide +kernel
theorem dX8_canTake_164 : decode cX8_canTake 164 = .ok (.invokevirtual 255, 3) := by decide +kernel
theorem dX8_canTake_167 : decode cX8_canTake 167 = .ok (.iinc 8 1, 3) := by decide +kernel
theorem dX8_canTake_170 : decode cX8_canTake 170 = .ok (.goto (-94), 3) := by decide +kernel
theorem dX8_canTake_173 : decode cX8_canTake 173 = .ok (.iinc 6 1, 3) := by decide +kernel
theorem dX8_canTake_176 : decode cX8_canTake 176 = .ok (.goto (-158), 3) := by decide +kernel
theorem dX8_canTake_179 : decode cX8_canTake 179 = .ok (.iconst 1, 1) := by decide +kernel
theorem dX8_canTake_180 : decode cX8_canTake 180 = .ok (.ireturn, 1) := by decide +kernel
theorem dX8_ring_0 : decode cX8_ring 0 = .ok (.iload_n 1, 1) := by decide +kernel
theorem dX8_ring_1 : decode cX8_ring 1 = .ok (.ifCond .lt 8, 3) := by decide +kernel
theorem dX8_ring_4 : decode cX8_ring 4 = .ok (.iload_n 1, 1) := by decide +kernel
theorem dX8_ring_5 : decode cX8_ring 5 = .ok (.iconst 1, 1) := by decide +kernel
theorem dX8_ring_6 : decode cX8_ring 6 = .ok (.if_icmp .le 6, 3) := by decide +kernel
theorem dX8_ring_9 : decode cX8_ring 9 = .ok (.bipush (-2), 2) := by decide +kernel
theorem dX8_ring_11 : decode cX8_ring 11 = .ok (.ireturn, 1) := by decide +kernel
theorem dX8_ring_12 : decode cX8_ring 12 = .ok (.aload_n 0, 1) := by decide +kernel
theorem dX8_ring_13 : decode cX8_ring 13 = .ok (.getfield 28, 3) := by decide +kernel
theorem dX8_ring_16 : decode cX8_ring 16 = .ok (.invokevirtual 258, 3) := by decide +kernel
theorem dX8_ring_19 : decode cX8_ring 19 = .ok (.istore_n 2, 1) := by decide +kernel
theorem dX8_ring_20 : decode cX8_ring 20 = .ok (.iload_n 1, 1) := by decide +kernel
theorem dX8_ring_21 : decode cX8_ring 21 = .ok (.ifCond .ne 7, 3) := by decide +kernel
theorem dX8_ring_24 : decode cX8_ring 24 = .ok (.iload_n 2, 1) := by decide +kernel
theorem dX8_ring_25 : decode cX8_ring 25 = .ok (.goto 11, 3) := by decide +kernel
theorem dX8_ring_28 : decode cX8_ring 28 = .ok (.aload_n 0, 1) := by decide +kernel
theorem dX8_ring_29 : decode cX8_ring 29 = .ok (.getfield 28, 3) := by decide +kernel
theorem dX8_ring_32 : decode cX8_ring 32 = .ok (.iload_n 2, 1) := by decide +kernel
theorem dX8_ring_33 : decode cX8_ring 33 = .ok (.invokevirtual 261, 3) := by decide +kernel
theorem dX8_ring_36 : decode cX8_ring 36 = .ok (.ireturn, 1) := by decide +kernel
theorem dX8_clear_0 : decode cX8_clear 0 = .ok (.iconst 0, 1) := by decide +kernel
theorem dX8_clear_1 : decode cX8_clear 1 = .ok (.istore_n 1, 1) := by decide +kernel
theorem dX8_clear_2 : decode cX8_clear 2 = .ok (.iconst 0, 1) := by decide +kernel
theorem dX8_clear_3 : decode cX8_clear 3 = .ok (.istore_n 2, 1) := by decide +kernel
theorem dX8_clear_4 : decode cX8_clear 4 = .ok (.iload_n 2, 1) := by decide +kernel
theorem dX8_clear_5 : decode cX8_clear 5 = .ok (.bipush 8, 2) := by decide +kernel
theorem dX8_clear_7 : decode cX8_clear 7 = .ok (.if_icmp .ge 35, 3) := by decide +kernel
theorem dX8_clear_10 : decode cX8_clear 10 = .ok (.aload_n 0, 1) := by decide +kernel
theorem dX8_clear_11 : decode cX8_clear 11 = .ok (.getfield 28, 3) := by decide +kernel
theorem dX8_clear_14 : decode cX8_clear 14 = .ok (.invokevirtual 258, 3) := by decide +kernel
theorem dX8_clear_17 : decode cX8_clear 17 = .ok (.istore_n 3, 1) := by decide +kernel
theorem dX8_clear_18 : decode cX8_clear 18 = .ok (.iload_n 3, 1) := by decide +kernel
theorem dX8_clear_19 : decode cX8_clear 19 = .ok (.ifCond .ne 6, 3) := by decide +kernel
theorem dX8_clear_22 : decode cX8_clear 22 = .ok (.goto 20, 3) := by decide +kernel
theorem dX8_clear_25 : decode cX8_clear 25 = .ok (.iload_n 1, 1) := by decide +kernel
theorem dX8_clear_26 : decode cX8_clear 26 = .ok (.aload_n 0, 1) := by decide +kernel
theorem dX8_clear_27 : decode cX8_clear 27 = .ok (.getfield 28, 3) := by decide +kernel
theorem dX8_clear_30 : decode cX8_clear 30 = .ok (.iload_n 3, 1) := by decide +kernel
theorem dX8_clear_31 : decode cX8_clear 31 = .ok (.invokevirtual 264, 3) := by decide +kernel
theorem dX8_clear_34 : decode cX8_clear 34 = .ok (.iadd, 1) := by decide +kernel
theorem dX8_clear_35 : decode cX8_clear 35 = .ok (.istore_n 1, 1) := by decide +kernel
theorem dX8_clear_36 : decode cX8_clear 36 = .ok (.iinc 2 1, 3) := by decide +kernel
theorem dX8_clear_39 : decode cX8_clear 39 = .ok (.goto (-35), 3) := by decide +kernel
theorem dX8_clear_42 : decode cX8_clear 42 = .ok (.iload_n 1, 1) := by decide +kernel
theorem dX8_clear_43 : decode cX8_clear 43 = .ok (.ireturn, 1) := by decide +kernel
theorem dX8_net_0 : decode cX8_net 0 = .ok (.aload_n 0, 1) := by decide +kernel
theorem dX8_net_1 : decode cX8_net 1 = .ok (.getfield 28, 3) := by decide +kernel
theorem dX8_net_4 : decode cX8_net 4 = .ok (.iload_n 1, 1) := by decide +kernel
theorem dX8_net_5 : decode cX8_net 5 = .ok (.invokevirtual 109, 3) := by decide +kernel
theorem dX8_net_8 : decode cX8_net 8 = .ok (.ifnonnull 7, 3) := by decide +kernel
theorem dX8_net_11 : decode cX8_net 11 = .ok (.ldc_w 267, 3) := by decide +kernel
theorem dX8_net_14 : decode cX8_net 14 = .ok (.ireturn, 1) := by decide +kernel
theorem dX8_net_15 : decode cX8_net 15 = .ok (.aload_n 0, 1) := by decide +kernel
theorem dX8_net_16 : decode cX8_net 16 = .ok (.getfield 28, 3) := by decide +kernel
theorem dX8_net_19 : decode cX8_net 19 = .ok (.iload_n 1, 1) := by decide +kernel
theorem dX8_net_20 : decode cX8_net 20 = .ok (.iconst 0, 1) := by decide +kernel
theorem dX8_net_21 : decode cX8_net 21 = .ok (.invokevirtual 268, 3) := by decide +kernel
theorem dX8_net_24 : decode cX8_net 24 = .ok (.aload_n 0, 1) := by decide +kernel
theorem dX8_net_25 : decode cX8_net 25 = .ok (.getfield 28, 3) := by decide +kernel
theorem dX8_net_28 : decode cX8_net 28 = .ok (.iload_n 1, 1) := by decide +kernel
theorem dX8_net_29 : decode cX8_net 29 = .ok (.invokevirtual 113, 3) := by decide +kernel
theorem dX8_net_32 : decode cX8_net 32 = .ok (.isub, 1) := by decide +kernel
theorem dX8_net_33 : decode cX8_net 33 = .ok (.ireturn, 1) := by decide +kernel
theorem dX8_falls_0 : decode cX8_falls 0 = .ok (.iload_n 1, 1) := by decide +kernel
theorem dX8_falls_1 : decode cX8_falls 1 = .ok (.ifCond .lt 25, 3) := by decide +kernel
theorem dX8_falls_4 : decode cX8_falls 4 = .ok (.iload_n 1, 1) := by decide +kernel
theorem dX8_falls_5 : decode cX8_falls 5 = .ok (.iconst 1, 1) := by decide +kernel
theorem dX8_falls_6 : decode cX8_falls 6 = .ok (.aload_n 0, 1) := by decide +kernel
theorem dX8_falls_7 : decode cX8_falls 7 = .ok (.getfield 28, 3) := by decide +kernel
theorem dX8_falls_10 : decode cX8_falls 10 = .ok (.getfield 66, 3) := by decide +kernel
theorem dX8_falls_13 : decode cX8_falls 13 = .ok (.ishl, 1) := by decide +kernel
theorem dX8_falls_14 : decode cX8_falls 14 = .ok (.if_icmp .ge 12, 3) := by decide +kernel
theorem dX8_falls_17 : decode cX8_falls 17 = .ok (.iload_n 2, 1) := by decide +kernel
theorem dX8_falls_18 : decode cX8_falls 18 = .ok (.ifCond .lt 8, 3) := by decide +kernel
theorem dX8_falls_21 : decode cX8_falls 21 = .ok (.iload_n 2, 1) := by decide +kernel
theorem dX8_falls_22 : decode cX8_falls 22 = .ok (.iconst 1, 1) := by decide +kernel
theorem dX8_falls_23 : decode cX8_falls 23 = .ok (.if_icmp .le 6, 3) := by decide +kernel
theorem dX8_falls_26 : decode cX8_falls 26 = .ok (.bipush (-2), 2) := by decide +kernel
theorem dX8_falls_28 : decode cX8_falls 28 = .ok (.ireturn, 1) := by decide +kernel
theorem dX8_falls_29 : decode cX8_falls 29 = .ok (.aload_n 0, 1) := by decide +kernel
theorem dX8_falls_30 : decode cX8_falls 30 = .ok (.iload_n 1, 1) := by decide +kernel
theorem dX8_falls_31 : decode cX8_falls 31 = .ok (.iload_n 2, 1) := by decide +kernel
theorem dX8_falls_32 : decode cX8_falls 32 = .ok (.invokevirtual 271, 3) := by decide +kernel
theorem dX8_falls_35 : decode cX8_falls 35 = .ok (.ireturn, 1) := by decide +kernel
theorem dX8_pillar_0 : decode cX8_pillar 0 = .ok (.iload_n 1, 1) := by decide +kernel
theorem dX8_pillar_1 : decode cX8_pillar 1 = .ok (.ifCond .lt 8, 3) := by decide +kernel
theorem dX8_pillar_4 : decode cX8_pillar 4 = .ok (.iload_n 1, 1) := by decide +kernel
theorem dX8_pillar_5 : decode cX8_pillar 5 = .ok (.iconst 1, 1) := by decide +kernel
theorem dX8_pillar_6 : decode cX8_pillar 6 = .ok (.if_icmp .le 6, 3) := by decide +kernel
theorem dX8_pillar_9 : decode cX8_pillar 9 = .ok (.bipush (-2), 2) := by decide +kernel
theorem dX8_pillar_11 : decode cX8_pillar 11 = .ok (.ireturn, 1) := by decide +kernel
theorem dX8_pillar_12 : decode cX8_pillar 12 = .ok (.iconst (-1), 1) := by decide +kernel
theorem dX8_pillar_13 : decode cX8_pillar 13 = .ok (.istore_n 2, 1) := by decide +kernel
theorem dX8_pillar_14 : decode cX8_pillar 14 = .ok (.iconst (-1), 1) := by decide +kernel
theorem dX8_pillar_15 : decode cX8_pillar 15 = .ok (.istore_n 3, 1) := by decide +kernel
theorem dX8_pillar_16 : decode cX8_pillar 16 = .ok (.iconst 0, 1) := by decide +kernel
theorem dX8_pillar_17 : decode cX8_pillar 17 = .ok (.istore 4, 2) := by decide +kernel
theorem dX8_pillar_19 : decode cX8_pillar 19 = .ok (.iload 4, 2) := by decide +kernel
theorem dX8_pillar_21 : decode cX8_pillar 21 = .ok (.aload_n 0, 1) := by decide +kernel
theorem dX8_pillar_22 : decode cX8_pillar 22 = .ok (.getfield 28, 3) := by decide +kernel
theorem dX8_pillar_25 : decode cX8_pillar 25 = .ok (.getfield 66, 3) := by decide +kernel
theorem dX8_pillar_28 : decode cX8_pillar 28 = .ok (.if_icmp .ge 35, 3) := by decide +kernel
theorem dX8_pillar_31 : decode cX8_pillar 31 = .ok (.aload_n 0, 1) := by decide +kernel
theorem dX8_pillar_32 : decode cX8_pillar 32 = .ok (.iconst 1, 1) := by decide +kernel
theorem dX8_pillar_33 : decode cX8_pillar 33 = .ok (.iload 4, 2) := by decide +kernel
theorem dX8_pillar_35 : decode cX8_pillar 35 = .ok (.ishl, 1) := by decide +kernel
theorem dX8_pillar_36 : decode cX8_pillar 36 = .ok (.iconst 0, 1) := by decide +kernel
theorem dX8_pillar_37 : decode cX8_pillar 37 = .ok (.invokevirtual 271, 3) := by decide +kernel
theorem dX8_pillar_40 : decode cX8_pillar 40 = .ok (.invokestatic 274, 3) := by decide +kernel
theorem dX8_pillar_43 : decode cX8_pillar 43 = .ok (.istore 5, 2) := by decide +kernel
theorem dX8_pillar_45 : decode cX8_pillar 45 = .ok (.iload 5, 2) := by decide +kernel
theorem dX8_pillar_47 : decode cX8_pillar 47 = .ok (.iload_n 3, 1) := by decide +kernel
theorem dX8_pillar_48 : decode cX8_pillar 48 = .ok (.if_icmp .le 9, 3) := by decide +kernel
theorem dX8_pillar_51 : decode cX8_pillar 51 = .ok (.iload 4, 2) := by decide +kernel
theorem dX8_pillar_53 : decode cX8_pillar 53 = .ok (.istore_n 2, 1) := by decide +kernel
theorem dX8_pillar_54 : decode cX8_pillar 54 = .ok (.iload 5, 2) := by decide +kernel
theorem dX8_pillar_56 : decode cX8_pillar 56 = .ok (.istore_n 3, 1) := by decide +kernel
theorem dX8_pillar_57 : decode cX8_pillar 57 = .ok (.iinc 4 1, 3) := by decide +kernel
theorem dX8_pillar_60 : decode cX8_pillar 60 = .ok (.goto (-41), 3) := by decide +kernel
theorem dX8_pillar_63 : decode cX8_pillar 63 = .ok (.iload_n 1, 1) := by decide +kernel
theorem dX8_pillar_64 : decode cX8_pillar 64 = .ok (.ifCond .ne 7, 3) := by decide +kernel
theorem dX8_pillar_67 : decode cX8_pillar 67 = .ok (.iload_n 2, 1) := by decide +kernel
theorem dX8_pillar_68 : decode cX8_pillar 68 = .ok (.goto 4, 3) := by decide +kernel
theorem dX8_pillar_71 : decode cX8_pillar 71 = .ok (.iload_n 3, 1) := by decide +kernel
theorem dX8_pillar_72 : decode cX8_pillar 72 = .ok (.ireturn, 1) := by decide +kernel
theorem dX8_falling_0 : decode cX8_falling 0 = .ok (.iload_n 1, 1) := by decide +kernel
theorem dX8_falling_1 : decode cX8_falling 1 = .ok (.istore_n 3, 1) := by decide +kernel
theorem dX8_falling_2 : decode cX8_falling 2 = .ok (.iconst 0, 1) := by decide +kernel
theorem dX8_falling_3 : decode cX8_falling 3 = .ok (.istore 4, 2) := by decide +kernel
theorem dX8_falling_5 : decode cX8_falling 5 = .ok (.iconst 0, 1) := by decide +kernel
theorem dX8_falling_6 : decode cX8_falling 6 = .ok (.istore 5, 2) := by decide +kernel
theorem dX8_falling_8 : decode cX8_falling 8 = .ok (.iload 5, 2) := by decide +kernel
theorem dX8_falling_10 : decode cX8_falling 10 = .ok (.bipush 6, 2) := by decide +kernel
theorem dX8_falling_12 : decode cX8_falling 12 = .ok (.if_icmp .ge 34, 3) := by decide +kernel
theorem dX8_falling_15 : decode cX8_falling 15 = .ok (.aload_n 0, 1) := by decide +kernel
theorem dX8_falling_16 : decode cX8_falling 16 = .ok (.getfield 28, 3) := by decide +kernel
theorem dX8_falling_19 : decode cX8_falling 19 = .ok (.iload_n 3, 1) := by decide +kernel
theorem dX8_falling_20 : decode cX8_falling 20 = .ok (.invokevirtual 279, 3) := by decide +kernel
theorem dX8_falling_23 : decode cX8_falling 23 = .ok (.istore 6, 2) := by decide +kernel
theorem dX8_falling_25 : decode cX8_falling 25 = .ok (.iload 6, 2) := by decide +kernel
theorem dX8_falling_27 : decode cX8_falling 27 = .ok (.iload_n 3, 1) := by decide +kernel
theorem dX8_falling_28 : decode cX8_falling 28 = .ok (.if_icmp .ne 6, 3) := by decide +kernel
theorem dX8_falling_31 : decode cX8_falling 31 = .ok (.goto 15, 3) := by decide +kernel
theorem dX8_falling_34 : decode cX8_falling 34 = .ok (.iload 6, 2) := by decide +kernel
theorem dX8_falling_36 : decode cX8_falling 36 = .ok (.istore_n 3, 1) := by decide +kernel
theorem dX8_falling_37 : decode cX8_falling 37 = .ok (.iinc 4 1, 3) := by decide +kernel
theorem dX8_falling_40 : decode cX8_falling 40 = .ok (.iinc 5 1, 3) := by decide +kernel
theorem dX8_falling_43 : decode cX8_falling 43 = .ok (.goto (-35), 3) := by decide +kernel
theorem dX8_falling_46 : decode cX8_falling 46 = .ok (.iload_n 2, 1) := by decide +kernel
theorem dX8_falling_47 : decode cX8_falling 47 = .ok (.ifCond .ne 7, 3) := by decide +kernel
theorem dX8_falling_50 : decode cX8_falling 50 = .ok (.iload_n 3, 1) := by decide +kernel
theorem dX8_falling_51 : decode cX8_falling 51 = .ok (.goto 5, 3) := by decide +kernel
theorem dX8_falling_54 : decode cX8_falling 54 = .ok (.iload 4, 2) := by decide +kernel
theorem dX8_falling_56 : decode cX8_falling 56 = .ok (.ireturn, 1) := by decide +kernel
theorem dX8_day_0 : decode cX8_day 0 = .ok (.iload_n 1, 1) := by decide +kernel
theorem dX8_day_1 : decode cX8_day 1 = .ok (.ifCond .lt 17, 3) := by decide +kernel
theorem dX8_day_4 : decode cX8_day 4 = .ok (.iload_n 1, 1) := by decide +kernel
theorem dX8_day_5 : decode cX8_day 5 = .ok (.iconst 1, 1) := by decide +kernel
theorem dX8_day_6 : decode cX8_day 6 = .ok (.if_icmp .gt 12, 3) := by decide +kernel
theorem dX8_day_9 : decode cX8_day 9 = .ok (.iload_n 2, 1) := by decide +kernel
theorem dX8_day_10 : decode cX8_day 10 = .ok (.ifCond .lt 8, 3) := by decide +kernel
theorem dX8_day_13 : decode cX8_day 13 = .ok (.iload_n 2, 1) := by decide +kernel
theorem dX8_day_14 : decode cX8_day 14 = .ok (.iconst 1, 1) := by decide +kernel
theorem dX8_day_15 : decode cX8_day 15 = .ok (.if_icmp .le 6, 3) := by decide +kernel
theorem dX8_day_18 : decode cX8_day 18 = .ok (.bipush (-2), 2) := by decide +kernel
theorem dX8_day_20 : decode cX8_day 20 = .ok (.ireturn, 1) := by decide +kernel
theorem dX8_day_21 : decode cX8_day 21 = .ok (.aload_n 0, 1) := by decide +kernel
theorem dX8_day_22 : decode cX8_day 22 = .ok (.getfield 62, 3) := by decide +kernel
theorem dX8_day_25 : decode cX8_day 25 = .ok (.iconst 0, 1) := by decide +kernel
theorem dX8_day_26 : decode cX8_day 26 = .ok (.putfield 282, 3) := by decide +kernel
theorem dX8_day_29 : decode cX8_day 29 = .ok (.iconst 0, 1) := by decide +kernel
theorem dX8_day_30 : decode cX8_day 30 = .ok (.istore_n 3, 1) := by decide +kernel
theorem dX8_day_31 : decode cX8_day 31 = .ok (.iload_n 3, 1) := by decide +kernel
theorem dX8_day_32 : decode cX8_day 32 = .ok (.aload_n 0, 1) := by decide +kernel
theorem dX8_day_33 : decode cX8_day 33 = .ok (.getfield 28, 3) := by decide +kernel
theorem dX8_day_36 : decode cX8_day 36 = .ok (.getfield 66, 3) := by decide +kernel
theorem dX8_day_39 : decode cX8_day 39 = .ok (.if_icmp .ge 91, 3) := by decide +kernel
theorem dX8_day_42 : decode cX8_day 42 = .ok (.aload_n 0, 1) := by decide +kernel
theorem dX8_day_43 : decode cX8_day 43 = .ok (.getfield 28, 3) := by decide +kernel
theorem dX8_day_46 : decode cX8_day 46 = .ok (.iload_n 3, 1) := by decide +kernel
theorem dX8_day_47 : decode cX8_day 47 = .ok (.invokevirtual 109, 3) := by decide +kernel
theorem dX8_day_50 : decode cX8_day 50 = .ok (.astore 4, 2) := by decide +kernel
theorem dX8_day_52 : decode cX8_day 52 = .ok (.aload 4, 2) := by decide +kernel
theorem dX8_day_54 : decode cX8_day 54 = .ok (.ifnull 70, 3) := by decide +kernel
theorem dX8_day_57 : decode cX8_day 57 = .ok (.aload 4, 2) := by decide +kernel
theorem dX8_day_59 : decode cX8_day 59 = .ok (.getfield 140, 3) := by decide +kernel
theorem dX8_day_62 : decode cX8_day 62 = .ok (.ifCond .ne 62, 3) := by decide +kernel
theorem dX8_day_65 : decode cX8_day 65 = .ok (.aload_n 0, 1) := by decide +kernel
theorem dX8_day_66 : decode cX8_day 66 = .ok (.getfield 10, 3) := by decide +kernel
theorem dX8_day_69 : decode cX8_day 69 = .ok (.aload_n 0, 1) := by decide +kernel
theorem dX8_day_70 : decode cX8_day 70 = .ok (.getfield 28, 3) := by decide +kernel
theorem dX8_day_73 : decode cX8_day 73 = .ok (.getfield 79, 3) := by decide +kernel
theorem dX8_day_76 : decode cX8_day 76 = .ok (.iconst 1, 1) := by decide +kernel
theorem dX8_day_77 : decode cX8_day 77 = .ok (.aload 4, 2) := by decide +kernel
theorem dX8_day_79 : decode cX8_day 79 = .ok (.aload_n 0, 1) := by decide +kernel
theorem dX8_day_80 : decode cX8_day 80 = .ok (.getfield 28, 3) := by decide +kernel
theorem dX8_day_83 : decode cX8_day 83 = .ok (.getfield 73, 3) := by decide +kernel
theorem dX8_day_86 : decode cX8_day 86 = .ok (.aload_n 0, 1) := by decide +kernel
theorem dX8_day_87 : decode cX8_day 87 = .ok (.getfield 28, 3) := by decide +kernel
theorem dX8_day_90 : decode cX8_day 90 = .ok (.iload_n 3, 1) := by decide +kernel
theorem dX8_day_91 : decode cX8_day 91 = .ok (.invokevirtual 113, 3) := by decide +kernel
theorem dX8_day_94 : decode cX8_day 94 = .ok (.invokevirtual 117, 3) := by decide +kernel
theorem dX8_day_97 : decode cX8_day 97 = .ok (.iconst 1, 1) := by decide +kernel
theorem dX8_day_98 : decode cX8_day 98 = .ok (.iadd, 1) := by decide +kernel
theorem dX8_day_99 : decode cX8_day 99 = .ok (.istore 5, 2) := by decide +kernel
theorem dX8_day_101 : decode cX8_day 101 = .ok (.aload_n 0, 1) := by decide +kernel
theorem dX8_day_102 : decode cX8_day 102 = .ok (.getfield 62, 3) := by decide +kernel
theorem dX8_day_105 : decode cX8_day 105 = .ok (.iload_n 3, 1) := by decide +kernel
theorem dX8_day_106 : decode cX8_day 106 = .ok (.iload 5, 2) := by decide +kernel
theorem dX8_day_108 : decode cX8_day 108 = .ok (.iload_n 1, 1) := by decide +kernel
theorem dX8_day_109 : decode cX8_day 109 = .ok (.ifCond .ne 7, 3) := by decide +kernel
theorem dX8_day_112 : decode cX8_day 112 = .ok (.iconst 1, 1) := by decide +kernel
theorem dX8_day_113 : decode cX8_day 113 = .ok (.goto 8, 3) := by decide +kernel
theorem dX8_day_116 : decode cX8_day 116 = .ok (.aload 4, 2) := by decide +kernel
theorem dX8_day_118 : decode cX8_day 118 = .ok (.getfield 131, 3) := by decide +kernel
theorem dX8_day_121 : decode cX8_day 121 = .ok (.invokevirtual 285, 3) := by decide +kernel
theorem dX8_day_124 : decode cX8_day 124 = .ok (.iinc 3 1, 3) := by decide +kernel
theorem dX8_day_127 : decode cX8_day 127 = .ok (.goto (-96), 3) := by decide +kernel
theorem dX8_day_130 : decode cX8_day 130 = .ok (.aload_n 0, 1) := by decide +kernel
theorem dX8_day_131 : decode cX8_day 131 = .ok (.getfield 62, 3) := by decide +kernel
theorem dX8_day_134 : decode cX8_day 134 = .ok (.invokevirtual 289, 3) := by decide +kernel
theorem dX8_day_137 : decode cX8_day 137 = .ok (.iload_n 2, 1) := by decide +kernel
theorem dX8_day_138 : decode cX8_day 138 = .ok (.ifCond .ne 13, 3) := by decide +kernel
theorem dX8_day_141 : decode cX8_day 141 = .ok (.aload_n 0, 1) := by decide +kernel
theorem dX8_day_142 : decode cX8_day 142 = .ok (.getfield 62, 3) := by decide +kernel
theorem dX8_day_145 : decode cX8_day 145 = .ok (.getfield 292, 3) := by decide +kernel
theorem dX8_day_148 : decode cX8_day 148 = .ok (.goto 10, 3) := by decide +kernel
theorem dX8_day_151 : decode cX8_day 151 = .ok (.aload_n 0, 1) := by decide +kernel
theorem dX8_day_152 : decode cX8_day 152 = .ok (.getfield 62, 3) := by decide +kernel
theorem dX8_day_155 : decode cX8_day 155 = .ok (.getfield 295, 3) := by decide +kernel
theorem dX8_day_158 : decode cX8_day 158 = .ok (.ireturn, 1) := by decide +kernel
theorem dX8_judge_0 : decode cX8_judge 0 = .ok (.aload_n 0, 1) := by decide +kernel
theorem dX8_judge_1 : decode cX8_judge 1 = .ok (.iload_n 1, 1) := by decide +kernel
theorem dX8_judge_2 : decode cX8_judge 2 = .ok (.iload_n 2, 1) := by decide +kernel
theorem dX8_judge_3 : decode cX8_judge 3 = .ok (.invokevirtual 298, 3) := by decide +kernel
theorem dX8_judge_6 : decode cX8_judge 6 = .ok (.istore_n 3, 1) := by decide +kernel
theorem dX8_judge_7 : decode cX8_judge 7 = .ok (.iload_n 3, 1) := by decide +kernel
theorem dX8_judge_8 : decode cX8_judge 8 = .ok (.ifCond .eq 7, 3) := by decide +kernel
theorem dX8_judge_11 : decode cX8_judge 11 = .ok (.iload_n 3, 1) := by decide +kernel
theorem dX8_judge_12 : decode cX8_judge 12 = .ok (.goto 35, 3) := by decide +kernel
theorem dX8_judge_15 : decode cX8_judge 15 = .ok (.aload_n 0, 1) := by decide +kernel
theorem dX8_judge_16 : decode cX8_judge 16 = .ok (.aload_n 0, 1) := by decide +kernel
theorem dX8_judge_17 : decode cX8_judge 17 = .ok (.iload_n 1, 1) := by decide +kernel
theorem dX8_judge_18 : decode cX8_judge 18 = .ok (.invokevirtual 220, 3) := by decide +kernel
theorem dX8_judge_21 : decode cX8_judge 21 = .ok (.iload_n 2, 1) := by decide +kernel
theorem dX8_judge_22 : decode cX8_judge 22 = .ok (.aload_n 0, 1) := by decide +kernel
theorem dX8_judge_23 : decode cX8_judge 23 = .ok (.getfield 28, 3) := by decide +kernel
theorem dX8_judge_26 : decode cX8_judge 26 = .ok (.iload_n 2, 1) := by decide +kernel
theorem dX8_judge_27 : decode cX8_judge 27 = .ok (.invokevirtual 109, 3) := by decide +kernel
theorem dX8_judge_30 : decode cX8_judge 30 = .ok (.aload_n 0, 1) := by decide +kernel
theorem dX8_judge_31 : decode cX8_judge 31 = .ok (.getfield 28, 3) := by decide +kernel
theorem dX8_judge_34 : decode cX8_judge 34 = .ok (.getfield 73, 3) := by decide +kernel
theorem dX8_judge_37 : decode cX8_judge 37 = .ok (.aload_n 0, 1) := by decide +kernel
theorem dX8_judge_38 : decode cX8_judge 38 = .ok (.getfield 28, 3) := by decide +kernel
theorem dX8_judge_41 : decode cX8_judge 41 = .ok (.getfield 79, 3) := by decide +kernel
theorem dX8_judge_44 : decode cX8_judge 44 = .ok (.invokevirtual 301, 3) := by decide +kernel
theorem dX8_judge_47 : decode cX8_judge 47 = .ok (.ireturn, 1) := by decide +kernel
theorem dX8_kinds_0 : decode cX8_kinds 0 = .ok (.aload_n 0, 1) := by decide +kernel
theorem dX8_kinds_1 : decode cX8_kinds 1 = .ok (.iload_n 1, 1) := by decide +kernel
theorem dX8_kinds_2 : decode cX8_kinds 2 = .ok (.iload_n 2, 1) := by decide +kernel
theorem dX8_kinds_3 : decode cX8_kinds 3 = .ok (.invokevirtual 298, 3) := by decide +kernel
theorem dX8_kinds_6 : decode cX8_kinds 6 = .ok (.istore 4, 2) := by decide +kernel
theorem dX8_kinds_8 : decode cX8_kinds 8 = .ok (.iload 4, 2) := by decide +kernel
theorem dX8_kinds_10 : decode cX8_kinds 10 = .ok (.ifCond .eq 6, 3) := by decide +kernel
theorem dX8_kinds_13 : decode cX8_kinds 13 = .ok (.iload 4, 2) := by decide +kernel
theorem dX8_kinds_15 : decode cX8_kinds 15 = .ok (.ireturn, 1) := by decide +kernel
theorem dX8_kinds_16 : decode cX8_kinds 16 = .ok (.iload_n 3, 1) := by decide +kernel
theorem dX8_kinds_17 : decode cX8_kinds 17 = .ok (.ifCond .lt 8, 3) := by decide +kernel
theorem dX8_kinds_20 : decode cX8_kinds 20 = .ok (.iload_n 3, 1) := by decide +kernel
theorem dX8_kinds_21 : decode cX8_kinds 21 = .ok (.iconst 2, 1) := by decide +kernel
theorem dX8_kinds_22 : decode cX8_kinds 22 = .ok (.if_icmp .le 6, 3) := by decide +kernel
theorem dX8_kinds_25 : decode cX8_kinds 25 = .ok (.bipush (-7), 2) := by decide +kernel
theorem dX8_kinds_27 : decode cX8_kinds 27 = .ok (.ireturn, 1) := by decide +kernel
theorem dX8_kinds_28 : decode cX8_kinds 28 = .ok (.iconst 0, 1) := by decide +kernel
theorem dX8_kinds_29 : decode cX8_kinds 29 = .ok (.istore 5, 2) := by decide +kernel
theorem dX8_kinds_31 : decode cX8_kinds 31 = .ok (.iload_n 3, 1) := by decide +kernel
theorem dX8_kinds_32 : decode cX8_kinds 32 = .ok (.ifCond .ne 7, 3) := by decide +kernel
theorem dX8_kinds_35 : decode cX8_kinds 35 = .ok (.iconst 5, 1) := by decide +kernel
theorem dX8_kinds_36 : decode cX8_kinds 36 = .ok (.goto 5, 3) := by decide +kernel
theorem dX8_kinds_39 : decode cX8_kinds 39 = .ok (.bipush 9, 2) := by decide +kernel
theorem dX8_kinds_41 : decode cX8_kinds 41 = .ok (.istore 6, 2) := by decide +kernel
theorem dX8_kinds_43 : decode cX8_kinds 43 = .ok (.iconst 0, 1) := by decide +kernel
theorem dX8_kinds_44 : decode cX8_kinds 44 = .ok (.istore 7, 2) := by decide +kernel
theorem dX8_kinds_46 : decode cX8_kinds 46 = .ok (.iload 7, 2) := by decide +kernel
theorem dX8_kinds_48 : decode cX8_kinds 48 = .ok (.iload 6, 2) := by decide +kernel
theorem dX8_kinds_50 : decode cX8_kinds 50 = .ok (.if_icmp .gt 107, 3) := by decide +kernel
theorem dX8_kinds_53 : decode cX8_kinds 53 = .ok (.aload_n 0, 1) := by decide +kernel
theorem dX8_kinds_54 : decode cX8_kinds 54 = .ok (.getfield 56, 3) := by decide +kernel
theorem dX8_kinds_57 : decode cX8_kinds 57 = .ok (.aload_n 0, 1) := by decide +kernel
theorem dX8_kinds_58 : decode cX8_kinds 58 = .ok (.getfield 28, 3) := by decide +kernel
theorem dX8_kinds_61 : decode cX8_kinds 61 = .ok (.iload_n 2, 1) := by decide +kernel
theorem dX8_kinds_62 : decode cX8_kinds 62 = .ok (.invokevirtual 109, 3) := by decide +kernel
theorem dX8_kinds_65 : decode cX8_kinds 65 = .ok (.invokevirtual 213, 3) := by decide +kernel
theorem dX8_kinds_68 : decode cX8_kinds 68 = .ok (.iload_n 3, 1) := by decide +kernel
theorem dX8_kinds_69 : decode cX8_kinds 69 = .ok (.ifCond .ne 15, 3) := by decide +kernel
theorem dX8_kinds_72 : decode cX8_kinds 72 = .ok (.aload_n 0, 1) := by decide +kernel
theorem dX8_kinds_73 : decode cX8_kinds 73 = .ok (.getfield 56, 3) := by decide +kernel
theorem dX8_kinds_76 : decode cX8_kinds 76 = .ok (.iload 7, 2) := by decide +kernel
theorem dX8_kinds_78 : decode cX8_kinds 78 = .ok (.putfield 134, 3) := by decide +kernel
theorem dX8_kinds_81 : decode cX8_kinds 81 = .ok (.goto 29, 3) := by decide +kernel
theorem dX8_kinds_84 : decode cX8_kinds 84 = .ok (.iload_n 3, 1) := by decide +kernel
theorem dX8_kinds_85 : decode cX8_kinds 85 = .ok (.iconst 1, 1) := by decide +kernel
theorem dX8_kinds_86 : decode cX8_kinds 86 = .ok (.if_icmp .ne 15, 3) := by decide +kernel
theorem dX8_kinds_89 : decode cX8_kinds 89 = .ok (.aload_n 0, 1) := by decide +kernel
theorem dX8_kinds_90 : decode cX8_kinds 90 = .ok (.getfield 56, 3) := by decide +kernel
theorem dX8_kinds_93 : decode cX8_kinds 93 = .ok (.iload 7, 2) := by decide +kernel
theorem dX8_kinds_95 : decode cX8_kinds 95 = .ok (.putfield 137, 3) := by decide +kernel
theorem dX8_kinds_98 : decode cX8_kinds 98 = .ok (.goto 12, 3) := by decide +kernel
theorem dX8_kinds_101 : decode cX8_kinds 101 = .ok (.aload_n 0, 1) := by decide +kernel
theorem dX8_kinds_102 : decode cX8_kinds 102 = .ok (.getfield 56, 3) := by decide +kernel
theorem dX8_kinds_105 : decode cX8_kinds 105 = .ok (.iload 7, 2) := by decide +kernel
theorem dX8_kinds_107 : decode cX8_kinds 107 = .ok (.putfield 128, 3) := by decide +kernel
theorem dX8_kinds_110 : decode cX8_kinds 110 = .ok (.aload_n 0, 1) := by decide +kernel
theorem dX8_kinds_111 : decode cX8_kinds 111 = .ok (.aload_n 0, 1) := by decide +kernel
theorem dX8_kinds_112 : decode cX8_kinds 112 = .ok (.iload_n 1, 1) := by decide +kernel
theorem dX8_kinds_113 : decode cX8_kinds 113 = .ok (.invokevirtual 220, 3) := by decide +kernel
theorem dX8_kinds_116 : decode cX8_kinds 116 = .ok (.iload_n 2, 1) := by decide +kernel
theorem dX8_kinds_117 : decode cX8_kinds 117 = .ok (.aload_n 0, 1) := by decide +kernel
theorem dX8_kinds_118 : decode cX8_kinds 118 = .ok (.getfield 56, 3) := by decide +kernel
theorem dX8_kinds_121 : decode cX8_kinds 121 = .ok (.aload_n 0, 1) := by decide +kernel
theorem dX8_kinds_122 : decode cX8_kinds 122 = .ok (.getfield 28, 3) := by decide +kernel
theorem dX8_kinds_125 : decode cX8_kinds 125 = .ok (.getfield 73, 3) := by decide +kernel
theorem dX8_kinds_128 : decode cX8_kinds 128 = .ok (.aload_n 0, 1) := by decide +kernel
theorem dX8_kinds_129 : decode cX8_kinds 129 = .ok (.getfield 28, 3) := by decide +kernel
theorem dX8_kinds_132 : decode cX8_kinds 132 = .ok (.getfield 79, 3) := by decide +kernel
theorem dX8_kinds_135 : decode cX8_kinds 135 = .ok (.invokevirtual 301, 3) := by decide +kernel
theorem dX8_kinds_138 : decode cX8_kinds 138 = .ok (.iconst (-1), 1) := by decide +kernel
theorem dX8_kinds_139 : decode cX8_kinds 139 = .ok (.if_icmp .ne 12, 3) := by decide +kernel
theorem dX8_kinds_142 : decode cX8_kinds 142 = .ok (.iload 5, 2) := by decide +kernel
theorem dX8_kinds_144 : decode cX8_kinds 144 = .ok (.iconst 1, 1) := by decide +kernel
theorem dX8_kinds_145 : decode cX8_kinds 145 = .ok (.iload 7, 2) := by decide +kernel
theorem dX8_kinds_147 : decode cX8_kinds 147 = .ok (.ishl, 1) := by decide +kernel
theorem dX8_kinds_148 : decode cX8_kinds 148 = .ok (.ior, 1) := by decide +kernel
theorem dX8_kinds_149 : decode cX8_kinds 149 = .ok (.istore 5, 2) := by decide +kernel
theorem dX8_kinds_151 : decode cX8_kinds 151 = .ok (.iinc 7 1, 3) := by decide +kernel
theorem dX8_kinds_154 : decode cX8_kinds 154 = .ok (.goto (-108), 3) := by decide +kernel
theorem dX8_kinds_157 : decode cX8_kinds 157 = .ok (.iload 5, 2) := by decide +kernel
theorem dX8_kinds_159 : decode cX8_kinds 159 = .ok (.ireturn, 1) := by decide +kernel
theorem dX8_since_0 : decode cX8_since 0 = .ok (.aload_n 0, 1) := by decide +kernel
theorem dX8_since_1 : decode cX8_since 1 = .ok (.iload_n 1, 1) := by decide +kernel
theorem dX8_since_2 : decode cX8_since 2 = .ok (.iload_n 2, 1) := by decide +kernel
theorem dX8_since_3 : decode cX8_since 3 = .ok (.invokevirtual 298, 3) := by decide +kernel
theorem dX8_since_6 : decode cX8_since 6 = .ok (.ifCond .eq 7, 3) := by decide +kernel
theorem dX8_since_9 : decode cX8_since 9 = .ok (.ldc2_w 305, 3) := by decide +kernel
theorem dX8_since_12 : decode cX8_since 12 = .ok (.lreturn, 1) := by decide +kernel
theorem dX8_since_13 : decode cX8_since 13 = .ok (.lconst 0, 1) := by decide +kernel
theorem dX8_since_14 : decode cX8_since 14 = .ok (.lstore_n 3, 1) := by decide +kernel
theorem dX8_since_15 : decode cX8_since 15 = .ok (.iconst 0, 1) := by decide +kernel
theorem dX8_since_16 : decode cX8_since 16 = .ok (.istore 5, 2) := by decide +kernel
theorem dX8_since_18 : decode cX8_since 18 = .ok (.iload 5, 2) := by decide +kernel
theorem dX8_since_20 : decode cX8_since 20 = .ok (.bipush 52, 2) := by decide +kernel
theorem dX8_since_22 : decode cX8_since 22 = .ok (.if_icmp .ge 47, 3) := by decide +kernel
theorem dX8_since_25 : decode cX8_since 25 = .ok (.aload_n 0, 1) := by decide +kernel
theorem dX8_since_26 : decode cX8_since 26 = .ok (.aload_n 0, 1) := by decide +kernel
theorem dX8_since_27 : decode cX8_since 27 = .ok (.iload_n 1, 1) := by decide +kernel
theorem dX8_since_28 : decode cX8_since 28 = .ok (.invokevirtual 220, 3) := by decide +kernel
theorem dX8_since_31 : decode cX8_since 31 = .ok (.iload_n 2, 1) := by decide +kernel
theorem dX8_since_32 : decode cX8_since 32 = .ok (.aload_n 0, 1) := by decide +kernel
theorem dX8_since_33 : decode cX8_since 33 = .ok (.getfield 28, 3) := by decide +kernel
theorem dX8_since_36 : decode cX8_since 36 = .ok (.iload_n 2, 1) := by decide +kernel
theorem dX8_since_37 : decode cX8_since 37 = .ok (.invokevirtual 109, 3) := by decide +kernel
theorem dX8_since_40 : decode cX8_since 40 = .ok (.iload 5, 2) := by decide +kernel
theorem dX8_since_42 : decode cX8_since 42 = .ok (.aload_n 0, 1) := by decide +kernel
theorem dX8_since_43 : decode cX8_since 43 = .ok (.getfield 28, 3) := by decide +kernel
theorem dX8_since_46 : decode cX8_since 46 = .ok (.getfield 79, 3) := by decide +kernel
theorem dX8_since_49 : decode cX8_since 49 = .ok (.invokevirtual 301, 3) := by decide +kernel
theorem dX8_since_52 : decode cX8_since 52 = .ok (.iconst (-1), 1) := by decide +kernel
theorem dX8_since_53 : decode cX8_since 53 = .ok (.if_icmp .ne 10, 3) := by decide +kernel
theorem dX8_since_56 : decode cX8_since 56 = .ok (.lload_n 3, 1) := by decide +kernel
theorem dX8_since_57 : decode cX8_since 57 = .ok (.lconst 1, 1) := by decide +kernel
theorem dX8_since_58 : decode cX8_since 58 = .ok (.iload 5, 2) := by decide +kernel
theorem dX8_since_60 : decode cX8_since 60 = .ok (.lshl, 1) := by decide +kernel
theorem dX8_since_61 : decode cX8_since 61 = .ok (.lor, 1) := by decide +kernel
theorem dX8_since_62 : decode cX8_since 62 = .ok (.lstore_n 3, 1) := by decide +kernel
theorem dX8_since_63 : decode cX8_since 63 = .ok (.iinc 5 1, 3) := by decide +kernel
theorem dX8_since_66 : decode cX8_since 66 = .ok (.goto (-48), 3) := by decide +kernel
theorem dX8_since_69 : decode cX8_since 69 = .ok (.lload_n 3, 1) := by decide +kernel
theorem dX8_since_70 : decode cX8_since 70 = .ok (.lreturn, 1) := by decide +kernel
theorem dX8_laws_0 : decode cX8_laws 0 = .ok (.aload_n 0, 1) := by decide +kernel
theorem dX8_laws_1 : decode cX8_laws 1 = .ok (.iload_n 1, 1) := by decide +kernel
theorem dX8_laws_2 : decode cX8_laws 2 = .ok (.iload_n 2, 1) := by decide +kernel
theorem dX8_laws_3 : decode cX8_laws 3 = .ok (.invokevirtual 298, 3) := by decide +kernel
theorem dX8_laws_6 : decode cX8_laws 6 = .ok (.istore_n 3, 1) := by decide +kernel
theorem dX8_laws_7 : decode cX8_laws 7 = .ok (.iload_n 3, 1) := by decide +kernel
theorem dX8_laws_8 : decode cX8_laws 8 = .ok (.ifCond .eq 5, 3) := by decide +kernel
theorem dX8_laws_11 : decode cX8_laws 11 = .ok (.iload_n 3, 1) := by decide +kernel
theorem dX8_laws_12 : decode cX8_laws 12 = .ok (.ireturn, 1) := by decide +kernel
theorem dX8_laws_13 : decode cX8_laws 13 = .ok (.iconst 0, 1) := by decide +kernel
theorem dX8_laws_14 : decode cX8_laws 14 = .ok (.istore 4, 2) := by decide +kernel
theorem dX8_laws_16 : decode cX8_laws 16 = .ok (.iconst 0, 1) := by decide +kernel
theorem dX8_laws_17 : decode cX8_laws 17 = .ok (.istore 5, 2) := by decide +kernel
theorem dX8_laws_19 : decode cX8_laws 19 = .ok (.iload 5, 2) := by decide +kernel
theorem dX8_laws_21 : decode cX8_laws 21 = .ok (.aload_n 0, 1) := by decide +kernel
theorem dX8_laws_22 : decode cX8_laws 22 = .ok (.getfield 10, 3) := by decide +kernel
theorem dX8_laws_25 : decode cX8_laws 25 = .ok (.getfield 76, 3) := by decide +kernel
theorem dX8_laws_28 : decode cX8_laws 28 = .ok (.if_icmp .ge 49, 3) := by decide +kernel
theorem dX8_laws_31 : decode cX8_laws 31 = .ok (.aload_n 0, 1) := by decide +kernel
theorem dX8_laws_32 : decode cX8_laws 32 = .ok (.aload_n 0, 1) := by decide +kernel
theorem dX8_laws_33 : decode cX8_laws 33 = .ok (.iload_n 1, 1) := by decide +kernel
theorem dX8_laws_34 : decode cX8_laws 34 = .ok (.invokevirtual 220, 3) := by decide +kernel
theorem dX8_laws_37 : decode cX8_laws 37 = .ok (.iload_n 2, 1) := by decide +kernel
theorem dX8_laws_38 : decode cX8_laws 38 = .ok (.aload_n 0, 1) := by decide +kernel
theorem dX8_laws_39 : decode cX8_laws 39 = .ok (.getfield 28, 3) := by decide +kernel
theorem dX8_laws_42 : decode cX8_laws 42 = .ok (.iload_n 2, 1) := by decide +kernel
theorem dX8_laws_43 : decode cX8_laws 43 = .ok (.invokevirtual 109, 3) := by decide +kernel
theorem dX8_laws_46 : decode cX8_laws 46 = .ok (.aload_n 0, 1) := by decide +kernel
theorem dX8_laws_47 : decode cX8_laws 47 = .ok (.getfield 28, 3) := by decide +kernel
theorem dX8_laws_50 : decode cX8_laws 50 = .ok (.getfield 73, 3) := by decide +kernel
theorem dX8_laws_53 : decode cX8_laws 53 = .ok (.iload 5, 2) := by decide +kernel
theorem dX8_laws_55 : decode cX8_laws 55 = .ok (.invokevirtual 301, 3) := by decide +kernel
theorem dX8_laws_58 : decode cX8_laws 58 = .ok (.iconst (-1), 1) := by decide +kernel
theorem dX8_laws_59 : decode cX8_laws 59 = .ok (.if_icmp .ne 12, 3) := by decide +kernel
theorem dX8_laws_62 : decode cX8_laws 62 = .ok (.iload 4, 2) := by decide +kernel
theorem dX8_laws_64 : decode cX8_laws 64 = .ok (.iconst 1, 1) := by decide +kernel
theorem dX8_laws_65 : decode cX8_laws 65 = .ok (.iload 5, 2) := by decide +kernel
theorem dX8_laws_67 : decode cX8_laws 67 = .ok (.ishl, 1) := by decide +kernel
theorem dX8_laws_68 : decode cX8_laws 68 = .ok (.ior, 1) := by decide +kernel
theorem dX8_laws_69 : decode cX8_laws 69 = .ok (.istore 4, 2) := by decide +kernel
theorem dX8_laws_71 : decode cX8_laws 71 = .ok (.iinc 5 1, 3) := by decide +kernel
theorem dX8_laws_74 : decode cX8_laws 74 = .ok (.goto (-55), 3) := by decide +kernel
theorem dX8_laws_77 : decode cX8_laws 77 = .ok (.iload 4, 2) := by decide +kernel
theorem dX8_laws_79 : decode cX8_laws 79 = .ok (.ireturn, 1) := by decide +kernel
theorem dX8_whose_0 : decode cX8_whose 0 = .ok (.aload_n 0, 1) := by decide +kernel
theorem dX8_whose_1 : decode cX8_whose 1 = .ok (.iload_n 1, 1) := by decide +kernel
theorem dX8_whose_2 : decode cX8_whose 2 = .ok (.invokevirtual 307, 3) := by decide +kernel
theorem dX8_whose_5 : decode cX8_whose 5 = .ok (.istore_n 2, 1) := by decide +kernel
theorem dX8_whose_6 : decode cX8_whose 6 = .ok (.iload_n 2, 1) := by decide +kernel
theorem dX8_whose_7 : decode cX8_whose 7 = .ok (.ifCond .eq 5, 3) := by decide +kernel
theorem dX8_whose_10 : decode cX8_whose 10 = .ok (.iload_n 2, 1) := by decide +kernel
theorem dX8_whose_11 : decode cX8_whose 11 = .ok (.ireturn, 1) := by decide +kernel
theorem dX8_whose_12 : decode cX8_whose 12 = .ok (.iconst 0, 1) := by decide +kernel
theorem dX8_whose_13 : decode cX8_whose 13 = .ok (.istore_n 3, 1) := by decide +kernel
theorem dX8_whose_14 : decode cX8_whose 14 = .ok (.iconst 0, 1) := by decide +kernel
theorem dX8_whose_15 : decode cX8_whose 15 = .ok (.istore 4, 2) := by decide +kernel
theorem dX8_whose_17 : decode cX8_whose 17 = .ok (.iload 4, 2) := by decide +kernel
theorem dX8_whose_19 : decode cX8_whose 19 = .ok (.aload_n 0, 1) := by decide +kernel
theorem dX8_whose_20 : decode cX8_whose 20 = .ok (.getfield 28, 3) := by decide +kernel
theorem dX8_whose_23 : decode cX8_whose 23 = .ok (.getfield 66, 3) := by decide +kernel
theorem dX8_whose_26 : decode cX8_whose 26 = .ok (.if_icmp .ge 54, 3) := by decide +kernel
theorem dX8_whose_29 : decode cX8_whose 29 = .ok (.aload_n 0, 1) := by decide +kernel
theorem dX8_whose_30 : decode cX8_whose 30 = .ok (.aload_n 0, 1) := by decide +kernel
theorem dX8_whose_31 : decode cX8_whose 31 = .ok (.iload_n 1, 1) := by decide +kernel
theorem dX8_whose_32 : decode cX8_whose 32 = .ok (.invokevirtual 220, 3) := by decide +kernel
theorem dX8_whose_35 : decode cX8_whose 35 = .ok (.iload 4, 2) := by decide +kernel
theorem dX8_whose_37 : decode cX8_whose 37 = .ok (.aload_n 0, 1) := by decide +kernel
theorem dX8_whose_38 : decode cX8_whose 38 = .ok (.getfield 28, 3) := by decide +kernel
theorem dX8_whose_41 : decode cX8_whose 41 = .ok (.iload 4, 2) := by decide +kernel
theorem dX8_whose_43 : decode cX8_whose 43 = .ok (.invokevirtual 109, 3) := by decide +kernel
theorem dX8_whose_46 : decode cX8_whose 46 = .ok (.aload_n 0, 1) := by decide +kernel
theorem dX8_whose_47 : decode cX8_whose 47 = .ok (.getfield 28, 3) := by decide +kernel
theorem dX8_whose_50 : decode cX8_whose 50 = .ok (.getfield 73, 3) := by decide +kernel
theorem dX8_whose_53 : decode cX8_whose 53 = .ok (.aload_n 0, 1) := by decide +kernel
theorem dX8_whose_54 : decode cX8_whose 54 = .ok (.getfield 28, 3) := by decide +kernel
theorem dX8_whose_57 : decode cX8_whose 57 = .ok (.getfield 79, 3) := by decide +kernel
theorem dX8_whose_60 : decode cX8_whose 60 = .ok (.invokevirtual 301, 3) := by decide +kernel
theorem dX8_whose_63 : decode cX8_whose 63 = .ok (.iconst (-1), 1) := by decide +kernel
theorem dX8_whose_64 : decode cX8_whose 64 = .ok (.if_icmp .ne 10, 3) := by decide +kernel
theorem dX8_whose_67 : decode cX8_whose 67 = .ok (.iload_n 3, 1) := by decide +kernel
theorem dX8_whose_68 : decode cX8_whose 68 = .ok (.iconst 1, 1) := by decide +kernel
theorem dX8_whose_69 : decode cX8_whose 69 = .ok (.iload 4, 2) := by decide +kernel
theorem dX8_whose_71 : decode cX8_whose 71 = .ok (.ishl, 1) := by decide +kernel
theorem dX8_whose_72 : decode cX8_whose 72 = .ok (.ior, 1) := by decide +kernel
theorem dX8_whose_73 : decode cX8_whose 73 = .ok (.istore_n 3, 1) := by decide +kernel
theorem dX8_whose_74 : decode cX8_whose 74 = .ok (.iinc 4 1, 3) := by decide +kernel
theorem dX8_whose_77 : decode cX8_whose 77 = .ok (.goto (-60), 3) := by decide +kernel
theorem dX8_whose_80 : decode cX8_whose 80 = .ok (.iload_n 3, 1) := by decide +kernel
theorem dX8_whose_81 : decode cX8_whose 81 = .ok (.ireturn, 1) := by decide +kernel
theorem dX8_film_0 : decode cX8_film 0 = .ok (.aload_n 0, 1) := by decide +kernel
theorem dX8_film_1 : decode cX8_film 1 = .ok (.iload_n 1, 1) := by decide +kernel
theorem dX8_film_2 : decode cX8_film 2 = .ok (.invokevirtual 220, 3) := by decide +kernel
theorem dX8_film_5 : decode cX8_film 5 = .ok (.astore 4, 2) := by decide +kernel
theorem dX8_film_7 : decode cX8_film 7 = .ok (.aload 4, 2) := by decide +kernel
theorem dX8_film_9 : decode cX8_film 9 = .ok (.ifnonnull 6, 3) := by decide +kernel
theorem dX8_film_12 : decode cX8_film 12 = .ok (.bipush (-2), 2) := by decide +kernel
theorem dX8_film_14 : decode cX8_film 14 = .ok (.ireturn, 1) := by decide +kernel
theorem dX8_film_15 : decode cX8_film 15 = .ok (.aload_n 0, 1) := by decide +kernel
theorem dX8_film_16 : decode cX8_film 16 = .ok (.getfield 28, 3) := by decide +kernel
theorem dX8_film_19 : decode cX8_film 19 = .ok (.iload_n 2, 1) := by decide +kernel
theorem dX8_film_20 : decode cX8_film 20 = .ok (.invokevirtual 109, 3) := by decide +kernel
theorem dX8_film_23 : decode cX8_film 23 = .ok (.astore 5, 2) := by decide +kernel
theorem dX8_film_25 : decode cX8_film 25 = .ok (.aload 5, 2) := by decide +kernel
theorem dX8_film_27 : decode cX8_film 27 = .ok (.ifnonnull 6, 3) := by decide +kernel
theorem dX8_film_30 : decode cX8_film 30 = .ok (.bipush (-5), 2) := by decide +kernel
theorem dX8_film_32 : decode cX8_film 32 = .ok (.ireturn, 1) := by decide +kernel
theorem dX8_film_33 : decode cX8_film 33 = .ok (.iload_n 3, 1) := by decide +kernel
theorem dX8_film_34 : decode cX8_film 34 = .ok (.ifCond .lt 9, 3) := by decide +kernel
theorem dX8_film_37 : decode cX8_film 37 = .ok (.iload_n 3, 1) := by decide +kernel
theorem dX8_film_38 : decode cX8_film 38 = .ok (.bipush 40, 2) := by decide +kernel
theorem dX8_film_40 : decode cX8_film 40 = .ok (.if_icmp .le 6, 3) := by decide +kernel
theorem dX8_film_43 : decode cX8_film 43 = .ok (.bipush (-7), 2) := by decide +kernel
theorem dX8_film_45 : decode cX8_film 45 = .ok (.ireturn, 1) := by decide +kernel
theorem dX8_film_46 : decode cX8_film 46 = .ok (.aload 4, 2) := by decide +kernel
theorem dX8_film_48 : decode cX8_film 48 = .ok (.iconst 1, 1) := by decide +kernel
theorem dX8_film_49 : decode cX8_film 49 = .ok (.iload_n 3, 1) := by decide +kernel
theorem dX8_film_50 : decode cX8_film 50 = .ok (.invokevirtual 309, 3) := by decide +kernel
theorem dX8_film_53 : decode cX8_film 53 = .ok (.aload_n 0, 1) := by decide +kernel
theorem dX8_film_54 : decode cX8_film 54 = .ok (.getfield 52, 3) := by decide +kernel
theorem dX8_film_57 : decode cX8_film 57 = .ok (.aload 5, 2) := by decide +kernel
theorem dX8_film_59 : decode cX8_film 59 = .ok (.invokevirtual 213, 3) := by decide +kernel
theorem dX8_film_62 : decode cX8_film 62 = .ok (.aload_n 0, 1) := by decide +kernel
theorem dX8_film_63 : decode cX8_film 63 = .ok (.getfield 28, 3) := by decide +kernel
theorem dX8_film_66 : decode cX8_film 66 = .ok (.iload_n 2, 1) := by decide +kernel
theorem dX8_film_67 : decode cX8_film 67 = .ok (.invokevirtual 113, 3) := by decide +kernel
theorem dX8_film_70 : decode cX8_film 70 = .ok (.istore 6, 2) := by decide +kernel
theorem dX8_film_72 : decode cX8_film 72 = .ok (.iconst 0, 1) := by decide +kernel
theorem dX8_film_73 : decode cX8_film 73 = .ok (.istore 7, 2) := by decide +kernel
theorem dX8_film_75 : decode cX8_film 75 = .ok (.iload 7, 2) := by decide +kernel
theorem dX8_film_77 : decode cX8_film 77 = .ok (.iload_n 3, 1) := by decide +kernel
theorem dX8_film_78 : decode cX8_film 78 = .ok (.if_icmp .ge 60, 3) := by decide +kernel
theorem dX8_film_81 : decode cX8_film 81 = .ok (.aload_n 0, 1) := by decide +kernel
theorem dX8_film_82 : decode cX8_film 82 = .ok (.getfield 52, 3) := by decide +kernel
theorem dX8_film_85 : decode cX8_film 85 = .ok (.aload_n 0, 1) := by decide +kernel
theorem dX8_film_86 : decode cX8_film 86 = .ok (.getfield 10, 3) := by decide +kernel
theorem dX8_film_89 : decode cX8_film 89 = .ok (.aload_n 0, 1) := by decide +kernel
theorem dX8_film_90 : decode cX8_film 90 = .ok (.getfield 28, 3) := by decide +kernel
theorem dX8_film_93 : decode cX8_film 93 = .ok (.getfield 79, 3) := by decide +kernel
theorem dX8_film_96 : decode cX8_film 96 = .ok (.aload_n 0, 1) := by decide +kernel
theorem dX8_film_97 : decode cX8_film 97 = .ok (.getfield 52, 3) := by decide +kernel
theorem dX8_film_100 : decode cX8_film 100 = .ok (.aload_n 0, 1) := by decide +kernel
theorem dX8_film_101 : decode cX8_film 101 = .ok (.getfield 28, 3) := by decide +kernel
theorem dX8_film_104 : decode cX8_film 104 = .ok (.getfield 73, 3) := by decide +kernel
theorem dX8_film_107 : decode cX8_film 107 = .ok (.iload 7, 2) := by decide +kernel
theorem dX8_film_109 : decode cX8_film 109 = .ok (.iadd, 1) := by decide +kernel
theorem dX8_film_110 : decode cX8_film 110 = .ok (.iload 6, 2) := by decide +kernel
theorem dX8_film_112 : decode cX8_film 112 = .ok (.invokevirtual 216, 3) := by decide +kernel
theorem dX8_film_115 : decode cX8_film 115 = .ok (.putfield 125, 3) := by decide +kernel
theorem dX8_film_118 : decode cX8_film 118 = .ok (.aload 4, 2) := by decide +kernel
theorem dX8_film_120 : decode cX8_film 120 = .ok (.iload 7, 2) := by decide +kernel
theorem dX8_film_122 : decode cX8_film 122 = .ok (.aload_n 0, 1) := by decide +kernel
theorem dX8_film_123 : decode cX8_film 123 = .ok (.getfield 52, 3) := by decide +kernel
theorem dX8_film_126 : decode cX8_film 126 = .ok (.getfield 125, 3) := by decide +kernel
theorem dX8_film_129 : decode cX8_film 129 = .ok (.invokevirtual 313, 3) := by decide +kernel
theorem dX8_film_132 : decode cX8_film 132 = .ok (.iinc 7 1, 3) := by decide +kernel
theorem dX8_film_135 : decode cX8_film 135 = .ok (.goto (-60), 3) := by decide +kernel
theorem dX8_film_138 : decode cX8_film 138 = .ok (.iload_n 3, 1) := by decide +kernel
theorem dX8_film_139 : decode cX8_film 139 = .ok (.ireturn, 1) := by decide +kernel
theorem dX8_refusalOf_0 : decode cX8_refusalOf 0 = .ok (.aload_n 0, 1) := by decide +kernel
theorem dX8_refusalOf_1 : decode cX8_refusalOf 1 = .ok (.iload_n 1, 1) := by decide +kernel
theorem dX8_refusalOf_2 : decode cX8_refusalOf 2 = .ok (.invokevirtual 307, 3) := by decide +kernel
theorem dX8_refusalOf_5 : decode cX8_refusalOf 5 = .ok (.istore_n 3, 1) := by decide +kernel
theorem dX8_refusalOf_6 : decode cX8_refusalOf 6 = .ok (.iload_n 3, 1) := by decide +kernel
theorem dX8_refusalOf_7 : decode cX8_refusalOf 7 = .ok (.ifCond .ne 19, 3) := by decide +kernel
theorem dX8_refusalOf_10 : decode cX8_refusalOf 10 = .ok (.aload_n 0, 1) := by decide +kernel
theorem dX8_refusalOf_11 : decode cX8_refusalOf 11 = .ok (.getfield 28, 3) := by decide +kernel
theorem dX8_refusalOf_14 : decode cX8_refusalOf 14 = .ok (.iload_n 2, 1) := by decide +kernel
theorem dX8_refusalOf_15 : decode cX8_refusalOf 15 = .ok (.invokevirtual 109, 3) := by decide +kernel
theorem dX8_refusalOf_18 : decode cX8_refusalOf 18 = .ok (.ifnonnull 8, 3) := by decide +kernel
theorem dX8_refusalOf_21 : decode cX8_refusalOf 21 = .ok (.bipush (-5), 2) := by decide +kernel
theorem dX8_refusalOf_23 : decode cX8_refusalOf 23 = .ok (.goto 4, 3) := by decide +kernel
theorem dX8_refusalOf_26 : decode cX8_refusalOf 26 = .ok (.iload_n 3, 1) := by decide +kernel
theorem dX8_refusalOf_27 : decode cX8_refusalOf 27 = .ok (.ireturn, 1) := by decide +kernel
theorem dX8_refusalOf__0 : decode cX8_refusalOf_ 0 = .ok (.aload_n 0, 1) := by decide +kernel
theorem dX8_refusalOf__1 : decode cX8_refusalOf_ 1 = .ok (.iload_n 1, 1) := by decide +kernel
theorem dX8_refusalOf__2 : decode cX8_refusalOf_ 2 = .ok (.invokevirtual 220, 3) := by decide +kernel
theorem dX8_refusalOf__5 : decode cX8_refusalOf_ 5 = .ok (.astore_n 2, 1) := by decide +kernel
theorem dX8_refusalOf__6 : decode cX8_refusalOf_ 6 = .ok (.aload_n 2, 1) := by decide +kernel
theorem dX8_refusalOf__7 : decode cX8_refusalOf_ 7 = .ok (.ifnonnull 6, 3) := by decide +kernel
theorem dX8_refusalOf__10 : decode cX8_refusalOf_ 10 = .ok (.bipush (-2), 2) := by decide +kernel
theorem dX8_refusalOf__12 : decode cX8_refusalOf_ 12 = .ok (.ireturn, 1) := by decide +kernel
theorem dX8_refusalOf__13 : decode cX8_refusalOf_ 13 = .ok (.aload_n 2, 1) := by decide +kernel
theorem dX8_refusalOf__14 : decode cX8_refusalOf_ 14 = .ok (.getfield 224, 3) := by decide +kernel
theorem dX8_refusalOf__17 : decode cX8_refusalOf_ 17 = .ok (.iconst (-1), 1) := by decide +kernel
theorem dX8_refusalOf__18 : decode cX8_refusalOf_ 18 = .ok (.if_icmp .ne 8, 3) := by decide +kernel
theorem dX8_refusalOf__21 : decode cX8_refusalOf_ 21 = .ok (.bipush (-11), 2) := by decide +kernel
theorem dX8_refusalOf__23 : decode cX8_refusalOf_ 23 = .ok (.goto 4, 3) := by decide +kernel
theorem dX8_refusalOf__26 : decode cX8_refusalOf_ 26 = .ok (.iconst 0, 1) := by decide +kernel
theorem dX8_refusalOf__27 : decode cX8_refusalOf_ 27 = .ok (.ireturn, 1) := by decide +kernel
theorem dX8_otherwise_0 : decode cX8_otherwise 0 = .ok (.aload_n 1, 1) := by decide +kernel
theorem dX8_otherwise_1 : decode cX8_otherwise 1 = .ok (.ifnull 7, 3) := by decide +kernel
theorem dX8_otherwise_4 : decode cX8_otherwise 4 = .ok (.aload_n 3, 1) := by decide +kernel
theorem dX8_otherwise_5 : decode cX8_otherwise 5 = .ok (.ifnonnull 5, 3) := by decide +kernel
theorem dX8_otherwise_8 : decode cX8_otherwise 8 = .ok (.iconst (-1), 1) := by decide +kernel
theorem dX8_otherwise_9 : decode cX8_otherwise 9 = .ok (.ireturn, 1) := by decide +kernel
theorem dX8_otherwise_10 : decode cX8_otherwise 10 = .ok (.aload_n 0, 1) := by decide +kernel
theorem dX8_otherwise_11 : decode cX8_otherwise 11 = .ok (.getfield 52, 3) := by decide +kernel
theorem dX8_otherwise_14 : decode cX8_otherwise 14 = .ok (.aload_n 3, 1) := by decide +kernel
theorem dX8_otherwise_15 : decode cX8_otherwise 15 = .ok (.invokevirtual 213, 3) := by decide +kernel
theorem dX8_otherwise_18 : decode cX8_otherwise 18 = .ok (.aload_n 0, 1) := by decide +kernel
theorem dX8_otherwise_19 : decode cX8_otherwise 19 = .ok (.getfield 28, 3) := by decide +kernel
theorem dX8_otherwise_22 : decode cX8_otherwise 22 = .ok (.iload_n 2, 1) := by decide +kernel
theorem dX8_otherwise_23 : decode cX8_otherwise 23 = .ok (.invokevirtual 113, 3) := by decide +kernel
theorem dX8_otherwise_26 : decode cX8_otherwise 26 = .ok (.istore 6, 2) := by decide +kernel
theorem dX8_otherwise_28 : decode cX8_otherwise 28 = .ok (.iconst 0, 1) := by decide +kernel
theorem dX8_otherwise_29 : decode cX8_otherwise 29 = .ok (.istore 7, 2) := by decide +kernel
theorem dX8_otherwise_31 : decode cX8_otherwise 31 = .ok (.iload 7, 2) := by decide +kernel
theorem dX8_otherwise_33 : decode cX8_otherwise 33 = .ok (.aload_n 1, 1) := by decide +kernel
theorem dX8_otherwise_34 : decode cX8_otherwise 34 = .ok (.getfield 235, 3) := by decide +kernel
theorem dX8_otherwise_37 : decode cX8_otherwise 37 = .ok (.if_icmp .ge 55, 3) := by decide +kernel
theorem dX8_otherwise_40 : decode cX8_otherwise 40 = .ok (.aload_n 0, 1) := by decide +kernel
theorem dX8_otherwise_41 : decode cX8_otherwise 41 = .ok (.getfield 52, 3) := by decide +kernel
theorem dX8_otherwise_44 : decode cX8_otherwise 44 = .ok (.aload_n 0, 1) := by decide +kernel
theorem dX8_otherwise_45 : decode cX8_otherwise 45 = .ok (.getfield 10, 3) := by decide +kernel
theorem dX8_otherwise_48 : decode cX8_otherwise 48 = .ok (.iload 5, 2) := by decide +kernel
theorem dX8_otherwise_50 : decode cX8_otherwise 50 = .ok (.aload_n 0, 1) := by decide +kernel
theorem dX8_otherwise_51 : decode cX8_otherwise 51 = .ok (.getfield 52, 3) := by decide +kernel
theorem dX8_otherwise_54 : decode cX8_otherwise 54 = .ok (.iload 4, 2) := by decide +kernel
theorem dX8_otherwise_56 : decode cX8_otherwise 56 = .ok (.iload 7, 2) := by decide +kernel
theorem dX8_otherwise_58 : decode cX8_otherwise 58 = .ok (.iadd, 1) := by decide +kernel
theorem dX8_otherwise_59 : decode cX8_otherwise 59 = .ok (.iload 6, 2) := by decide +kernel
theorem dX8_otherwise_61 : decode cX8_otherwise 61 = .ok (.invokevirtual 216, 3) := by decide +kernel
theorem dX8_otherwise_64 : decode cX8_otherwise 64 = .ok (.putfield 125, 3) := by decide +kernel
theorem dX8_otherwise_67 : decode cX8_otherwise 67 = .ok (.aload_n 0, 1) := by decide +kernel
theorem dX8_otherwise_68 : decode cX8_otherwise 68 = .ok (.getfield 52, 3) := by decide +kernel
theorem dX8_otherwise_71 : decode cX8_otherwise 71 = .ok (.getfield 125, 3) := by decide +kernel
theorem dX8_otherwise_74 : decode cX8_otherwise 74 = .ok (.aload_n 1, 1) := by decide +kernel
theorem dX8_otherwise_75 : decode cX8_otherwise 75 = .ok (.iload 7, 2) := by decide +kernel
theorem dX8_otherwise_77 : decode cX8_otherwise 77 = .ok (.invokevirtual 252, 3) := by decide +kernel
theorem dX8_otherwise_80 : decode cX8_otherwise 80 = .ok (.if_icmp .eq 6, 3) := by decide +kernel
theorem dX8_otherwise_83 : decode cX8_otherwise 83 = .ok (.iload 7, 2) := by decide +kernel
theorem dX8_otherwise_85 : decode cX8_otherwise 85 = .ok (.ireturn, 1) := by decide +kernel
theorem dX8_otherwise_86 : decode cX8_otherwise 86 = .ok (.iinc 7 1, 3) := by decide +kernel
theorem dX8_otherwise_89 : decode cX8_otherwise 89 = .ok (.goto (-58), 3) := by decide +kernel
theorem dX8_otherwise_92 : decode cX8_otherwise 92 = .ok (.iconst (-1), 1) := by decide +kernel
theorem dX8_otherwise_93 : decode cX8_otherwise 93 = .ok (.ireturn, 1) := by decide +kernel
theorem dX8_drawn_0 : decode cX8_drawn 0 = .ok (.iload_n 1, 1) := by decide +kernel
theorem dX8_drawn_1 : decode cX8_drawn 1 = .ok (.ifCond .lt 29, 3) := by decide +kernel
theorem dX8_drawn_4 : decode cX8_drawn 4 = .ok (.iload_n 1, 1) := by decide +kernel
theorem dX8_drawn_5 : decode cX8_drawn 5 = .ok (.ldc_w 316, 3) := by decide +kernel
theorem dX8_drawn_8 : decode cX8_drawn 8 = .ok (.if_icmp .gt 22, 3) := by decide +kernel
theorem dX8_drawn_11 : decode cX8_drawn 11 = .ok (.iload_n 2, 1) := by decide +kernel
theorem dX8_drawn_12 : decode cX8_drawn 12 = .ok (.ifCond .lt 18, 3) := by decide +kernel
theorem dX8_drawn_15 : decode cX8_drawn 15 = .ok (.iload_n 2, 1) := by decide +kernel
theorem dX8_drawn_16 : decode cX8_drawn 16 = .ok (.bipush 60, 2) := by decide +kernel
theorem dX8_drawn_18 : decode cX8_drawn 18 = .ok (.if_icmp .gt 12, 3) := by decide +kernel
theorem dX8_drawn_21 : decode cX8_drawn 21 = .ok (.iload_n 3, 1) := by decide +kernel
theorem dX8_drawn_22 : decode cX8_drawn 22 = .ok (.ifCond .lt 8, 3) := by decide +kernel
theorem dX8_drawn_25 : decode cX8_drawn 25 = .ok (.iload_n 3, 1) := by decide +kernel
theorem dX8_drawn_26 : decode cX8_drawn 26 = .ok (.iconst 2, 1) := by decide +kernel
theorem dX8_drawn_27 : decode cX8_drawn 27 = .ok (.if_icmp .le 6, 3) := by decide +kernel
theorem dX8_drawn_30 : decode cX8_drawn 30 = .ok (.bipush (-2), 2) := by decide +kernel
theorem dX8_drawn_32 : decode cX8_drawn 32 = .ok (.ireturn, 1) := by decide +kernel
theorem dX8_drawn_33 : decode cX8_drawn 33 = .ok (.aload_n 0, 1) := by decide +kernel
theorem dX8_drawn_34 : decode cX8_drawn 34 = .ok (.iload_n 1, 1) := by decide +kernel
theorem dX8_drawn_35 : decode cX8_drawn 35 = .ok (.iload_n 2, 1) := by decide +kernel
theorem dX8_drawn_36 : decode cX8_drawn 36 = .ok (.invokevirtual 317, 3) := by decide +kernel
theorem dX8_drawn_39 : decode cX8_drawn 39 = .ok (.iload_n 3, 1) := by decide +kernel
theorem dX8_drawn_40 : decode cX8_drawn 40 = .ok (.ifCond .ne 11, 3) := by decide +kernel
theorem dX8_drawn_43 : decode cX8_drawn 43 = .ok (.aload_n 0, 1) := by decide +kernel
theorem dX8_drawn_44 : decode cX8_drawn 44 = .ok (.getfield 32, 3) := by decide +kernel
theorem dX8_drawn_47 : decode cX8_drawn 47 = .ok (.getfield 187, 3) := by decide +kernel
theorem dX8_drawn_50 : decode cX8_drawn 50 = .ok (.ireturn, 1) := by decide +kernel
theorem dX8_drawn_51 : decode cX8_drawn 51 = .ok (.iload_n 3, 1) := by decide +kernel
theorem dX8_drawn_52 : decode cX8_drawn 52 = .ok (.iconst 1, 1) := by decide +kernel
theorem dX8_drawn_53 : decode cX8_drawn 53 = .ok (.if_icmp .ne 13, 3) := by decide +kernel
theorem dX8_drawn_56 : decode cX8_drawn 56 = .ok (.aload_n 0, 1) := by decide +kernel
theorem dX8_drawn_57 : decode cX8_drawn 57 = .ok (.getfield 32, 3) := by decide +kernel
theorem dX8_drawn_60 : decode cX8_drawn 60 = .ok (.getfield 203, 3) := by decide +kernel
theorem dX8_drawn_63 : decode cX8_drawn 63 = .ok (.goto 10, 3) := by decide +kernel
theorem dX8_drawn_66 : decode cX8_drawn 66 = .ok (.aload_n 0, 1) := by decide +kernel
theorem dX8_drawn_67 : decode cX8_drawn 67 = .ok (.getfield 32, 3) := by decide +kernel
theorem dX8_drawn_70 : decode cX8_drawn 70 = .ok (.getfield 206, 3) := by decide +kernel
theorem dX8_drawn_73 : decode cX8_drawn 73 = .ok (.ireturn, 1) := by decide +kernel
theorem dX8_odds_0 : decode cX8_odds 0 = .ok (.iload_n 1, 1) := by decide +kernel
theorem dX8_odds_1 : decode cX8_odds 1 = .ok (.ifCond .lt 21, 3) := by decide +kernel
theorem dX8_odds_4 : decode cX8_odds 4 = .ok (.iload_n 1, 1) := by decide +kernel
theorem dX8_odds_5 : decode cX8_odds 5 = .ok (.ldc_w 316, 3) := by decide +kernel
theorem dX8_odds_8 : decode cX8_odds 8 = .ok (.if_icmp .gt 14, 3) := by decide +kernel
theorem dX8_odds_11 : decode cX8_odds 11 = .ok (.iload_n 2, 1) := by decide +kernel
theorem dX8_odds_12 : decode cX8_odds 12 = .ok (.iconst 1, 1) := by decide +kernel
theorem dX8_odds_13 : decode cX8_odds 13 = .ok (.if_icmp .lt 9, 3) := by decide +kernel
theorem dX8_odds_16 : decode cX8_odds 16 = .ok (.iload_n 2, 1) := by decide +kernel
theorem dX8_odds_17 : decode cX8_odds 17 = .ok (.bipush 20, 2) := by decide +kernel
theorem dX8_odds_19 : decode cX8_odds 19 = .ok (.if_icmp .le 7, 3) := by decide +kernel
theorem dX8_odds_22 : decode cX8_odds 22 = .ok (.ldc2_w 305, 3) := by decide +kernel
theorem dX8_odds_25 : decode cX8_odds 25 = .ok (.lreturn, 1) := by decide +kernel
theorem dX8_odds_26 : decode cX8_odds 26 = .ok (.iload_n 3, 1) := by decide +kernel
theorem dX8_odds_27 : decode cX8_odds 27 = .ok (.ifCond .lt 20, 3) := by decide +kernel
theorem dX8_odds_30 : decode cX8_odds 30 = .ok (.iload_n 3, 1) := by decide +kernel
theorem dX8_odds_31 : decode cX8_odds 31 = .ok (.bipush 60, 2) := by decide +kernel
theorem dX8_odds_33 : decode cX8_odds 33 = .ok (.if_icmp .gt 14, 3) := by decide +kernel
theorem dX8_odds_36 : decode cX8_odds 36 = .ok (.iload 4, 2) := by decide +kernel
theorem dX8_odds_38 : decode cX8_odds 38 = .ok (.ifCond .lt 9, 3) := by decide +kernel
theorem dX8_odds_41 : decode cX8_odds 41 = .ok (.iload 4, 2) := by decide +kernel
theorem dX8_odds_43 : decode cX8_odds 43 = .ok (.iconst 1, 1) := by decide +kernel
theorem dX8_odds_44 : decode cX8_odds 44 = .ok (.if_icmp .le 7, 3) := by decide +kernel
theorem dX8_odds_47 : decode cX8_odds 47 = .ok (.ldc2_w 305, 3) := by decide +kernel
theorem dX8_odds_50 : decode cX8_odds 50 = .ok (.lreturn, 1) := by decide +kernel
theorem dX8_odds_51 : decode cX8_odds 51 = .ok (.iconst 0, 1) := by decide +kernel
theorem dX8_odds_52 : decode cX8_odds 52 = .ok (.istore 5, 2) := by decide +kernel
theorem dX8_odds_54 : decode cX8_odds 54 = .ok (.iconst 0, 1) := by decide +kernel
theorem dX8_odds_55 : decode cX8_odds 55 = .ok (.istore 6, 2) := by decide +kernel
theorem dX8_odds_57 : decode cX8_odds 57 = .ok (.iload 6, 2) := by decide +kernel
theorem dX8_odds_59 : decode cX8_odds 59 = .ok (.iload_n 2, 1) := by decide +kernel
theorem dX8_odds_60 : decode cX8_odds 60 = .ok (.if_icmp .ge 31, 3) := by decide +kernel
theorem dX8_odds_63 : decode cX8_odds 63 = .ok (.aload_n 0, 1) := by decide +kernel
theorem dX8_odds_64 : decode cX8_odds 64 = .ok (.iload_n 1, 1) := by decide +kernel
theorem dX8_odds_65 : decode cX8_odds 65 = .ok (.iload 6, 2) := by decide +kernel
theorem dX8_odds_67 : decode cX8_odds 67 = .ok (.iadd, 1) := by decide +kernel
theorem dX8_odds_68 : decode cX8_odds 68 = .ok (.iload_n 3, 1) := by decide +kernel
theorem dX8_odds_69 : decode cX8_odds 69 = .ok (.invokevirtual 317, 3) := by decide +kernel
theorem dX8_odds_72 : decode cX8_odds 72 = .ok (.aload_n 0, 1) := by decide +kernel
theorem dX8_odds_73 : decode cX8_odds 73 = .ok (.getfield 32, 3) := by decide +kernel
theorem dX8_odds_76 : decode cX8_odds 76 = .ok (.getfield 187, 3) := by decide +kernel
theorem dX8_odds_79 : decode cX8_odds 79 = .ok (.ifCond .ne 6, 3) := by decide +kernel
theorem dX8_odds_82 : decode cX8_odds 82 = .ok (.iinc 5 1, 3) := by decide +kernel
theorem dX8_odds_85 : decode cX8_odds 85 = .ok (.iinc 6 1, 3) := by decide +kernel
theorem dX8_odds_88 : decode cX8_odds 88 = .ok (.goto (-31), 3) := by decide +kernel
theorem dX8_odds_91 : decode cX8_odds 91 = .ok (.iload 5, 2) := by decide +kernel
theorem dX8_odds_93 : decode cX8_odds 93 = .ok (.iload_n 2, 1) := by decide +kernel
theorem dX8_odds_94 : decode cX8_odds 94 = .ok (.invokestatic 320, 3) := by decide +kernel
theorem dX8_odds_97 : decode cX8_odds 97 = .ok (.istore 6, 2) := by decide +kernel
theorem dX8_odds_99 : decode cX8_odds 99 = .ok (.iload 6, 2) := by decide +kernel
theorem dX8_odds_101 : decode cX8_odds 101 = .ok (.ifCond .ne 7, 3) := by decide +kernel
theorem dX8_odds_104 : decode cX8_odds 104 = .ok (.ldc2_w 305, 3) := by decide +kernel
theorem dX8_odds_107 : decode cX8_odds 107 = .ok (.lreturn, 1) := by decide +kernel
theorem dX8_odds_108 : decode cX8_odds 108 = .ok (.iload 4, 2) := by decide +kernel
theorem dX8_odds_110 : decode cX8_odds 110 = .ok (.ifCond .ne 8, 3) := by decide +kernel
theorem dX8_odds_113 : decode cX8_odds 113 = .ok (.iload 5, 2) := by decide +kernel
theorem dX8_odds_115 : decode cX8_odds 115 = .ok (.goto 4, 3) := by decide +kernel
theorem dX8_odds_118 : decode cX8_odds 118 = .ok (.iload_n 2, 1) := by decide +kernel
theorem dX8_odds_119 : decode cX8_odds 119 = .ok (.iload 6, 2) := by decide +kernel
theorem dX8_odds_121 : decode cX8_odds 121 = .ok (.idiv, 1) := by decide +kernel
theorem dX8_odds_122 : decode cX8_odds 122 = .ok (.i2l, 1) := by decide +kernel
theorem dX8_odds_123 : decode cX8_odds 123 = .ok (.lreturn, 1) := by decide +kernel
theorem dX8_liveByLots_0 : decode cX8_liveByLots 0 = .ok (.aload_n 0, 1) := by decide +kernel
theorem dX8_liveByLots_1 : decode cX8_liveByLots 1 = .ok (.getfield 32, 3) := by decide +kernel
theorem dX8_liveByLots_4 : decode cX8_liveByLots 4 = .ok (.aload_n 0, 1) := by decide +kernel
theorem dX8_liveByLots_5 : decode cX8_liveByLots 5 = .ok (.getfield 28, 3) := by decide +kernel
theorem dX8_liveByLots_8 : decode cX8_liveByLots 8 = .ok (.invokevirtual 190, 3) := by decide +kernel
theorem dX8_liveByLots_11 : decode cX8_liveByLots 11 = .ok (.aload_n 0, 1) := by decide +kernel
theorem dX8_liveByLots_12 : decode cX8_liveByLots 12 = .ok (.getfield 32, 3) := by decide +kernel
theorem dX8_liveByLots_15 : decode cX8_liveByLots 15 = .ok (.invokevirtual 181, 3) := by decide +kernel
theorem dX8_liveByLots_18 : decode cX8_liveByLots 18 = .ok (.iload_n 1, 1) := by decide +kernel
theorem dX8_liveByLots_19 : decode cX8_liveByLots 19 = .ok (.i2l, 1) := by decide +kernel
theorem dX8_liveByLots_20 : decode cX8_liveByLots 20 = .ok (.lconst 1, 1) := by decide +kernel
theorem dX8_liveByLots_21 : decode cX8_liveByLots 21 = .ok (.ladd, 1) := by decide +kernel
theorem dX8_liveByLots_22 : decode cX8_liveByLots 22 = .ok (.lstore_n 3, 1) := by decide +kernel
theorem dX8_liveByLots_23 : decode cX8_liveByLots 23 = .ok (.iconst 0, 1) := by decide +kernel
theorem dX8_liveByLots_24 : decode cX8_liveByLots 24 = .ok (.istore 5, 2) := by decide +kernel
theorem dX8_liveByLots_26 : decode cX8_liveByLots 26 = .ok (.iload 5, 2) := by decide +kernel
theorem dX8_liveByLots_28 : decode cX8_liveByLots 28 = .ok (.iload_n 2, 1) := by decide +kernel
theorem dX8_liveByLots_29 : decode cX8_liveByLots 29 = .ok (.if_icmp .ge 27, 3) := by decide +kernel
theorem dX8_liveByLots_32 : decode cX8_liveByLots 32 = .ok (.aload_n 0, 1) := by decide +kernel
theorem dX8_liveByLots_33 : decode cX8_liveByLots 33 = .ok (.getfield 32, 3) := by decide +kernel
theorem dX8_liveByLots_36 : decode cX8_liveByLots 36 = .ok (.lload_n 3, 1) := by decide +kernel
theorem dX8_liveByLots_37 : decode cX8_liveByLots 37 = .ok (.invokevirtual 323, 3) := by decide +kernel
theorem dX8_liveByLots_40 : decode cX8_liveByLots 40 = .ok (.lstore_n 3, 1) := by decide +kernel
theorem dX8_liveByLots_41 : decode cX8_liveByLots 41 = .ok (.aload_n 0, 1) := by decide +kernel
theorem dX8_liveByLots_42 : decode cX8_liveByLots 42 = .ok (.getfield 32, 3) := by decide +kernel
theorem dX8_liveByLots_45 : decode cX8_liveByLots 45 = .ok (.iload 5, 2) := by decide +kernel
theorem dX8_liveByLots_47 : decode cX8_liveByLots 47 = .ok (.invokevirtual 184, 3) := by decide +kernel
theorem dX8_liveByLots_50 : decode cX8_liveByLots 50 = .ok (.iinc 5 1, 3) := by decide +kernel
theorem dX8_liveByLots_53 : decode cX8_liveByLots 53 = .ok (.goto (-27), 3) := by decide +kernel
theorem dX8_liveByLots_56 : decode cX8_liveByLots 56 = .ok (.return_, 1) := by decide +kernel
theorem dX8_commonDivisor_0 : decode cX8_commonDivisor 0 = .ok (.iload_n 1, 1) := by decide +kernel
theorem dX8_commonDivisor_1 : decode cX8_commonDivisor 1 = .ok (.istore_n 2, 1) := by decide +kernel
theorem dX8_commonDivisor_2 : decode cX8_commonDivisor 2 = .ok (.iload_n 2, 1) := by decide +kernel
theorem dX8_commonDivisor_3 : decode cX8_commonDivisor 3 = .ok (.iconst 1, 1) := by decide +kernel
theorem dX8_commonDivisor_4 : decode cX8_commonDivisor 4 = .ok (.if_icmp .le 23, 3) := by decide +kernel
theorem dX8_commonDivisor_7 : decode cX8_commonDivisor 7 = .ok (.iload_n 0, 1) := by decide +kernel
theorem dX8_commonDivisor_8 : decode cX8_commonDivisor 8 = .ok (.iload_n 2, 1) := by decide +kernel
theorem dX8_commonDivisor_9 : decode cX8_commonDivisor 9 = .ok (.irem, 1) := by decide +kernel
theorem dX8_commonDivisor_10 : decode cX8_commonDivisor 10 = .ok (.ifCond .ne 11, 3) := by decide +kernel
theorem dX8_commonDivisor_13 : decode cX8_commonDivisor 13 = .ok (.iload_n 1, 1) := by decide +kernel
theorem dX8_commonDivisor_14 : decode cX8_commonDivisor 14 = .ok (.iload_n 2, 1) := by decide +kernel
theorem dX8_commonDivisor_15 : decode cX8_commonDivisor 15 = .ok (.irem, 1) := by decide +kernel
theorem dX8_commonDivisor_16 : decode cX8_commonDivisor 16 = .ok (.ifCond .ne 5, 3) := by decide +kernel
theorem dX8_commonDivisor_19 : decode cX8_commonDivisor 19 = .ok (.iload_n 2, 1) := by decide +kernel
theorem dX8_commonDivisor_20 : decode cX8_commonDivisor 20 = .ok (.ireturn, 1) := by decide +kernel
theorem dX8_commonDivisor_21 : decode cX8_commonDivisor 21 = .ok (.iinc 2 (-1), 3) := by decide +kernel
theorem dX8_commonDivisor_24 : decode cX8_commonDivisor 24 = .ok (.goto (-22), 3) := by decide +kernel
theorem dX8_commonDivisor_27 : decode cX8_commonDivisor 27 = .ok (.iconst 1, 1) := by decide +kernel
theorem dX8_commonDivisor_28 : decode cX8_commonDivisor 28 = .ok (.ireturn, 1) := by decide +kernel
theorem dX8_image_0 : decode cX8_image 0 = .ok (.aload_n 0, 1) := by decide +kernel
theorem dX8_image_1 : decode cX8_image 1 = .ok (.getfield 35, 3) := by decide +kernel
theorem dX8_image_4 : decode cX8_image 4 = .ok (.aload_n 0, 1) := by decide +kernel
theorem dX8_image_5 : decode cX8_image 5 = .ok (.getfield 28, 3) := by decide +kernel
theorem dX8_image_8 : decode cX8_image 8 = .ok (.invokevirtual 190, 3) := by decide +kernel
theorem dX8_image_11 : decode cX8_image 11 = .ok (.aload_n 0, 1) := by decide +kernel
theorem dX8_image_12 : decode cX8_image 12 = .ok (.iconst 1, 1) := by decide +kernel
theorem dX8_image_13 : decode cX8_image 13 = .ok (.putfield 38, 3) := by decide +kernel
theorem dX8_image_16 : decode cX8_image 16 = .ok (.aload_n 0, 1) := by decide +kernel
theorem dX8_image_17 : decode cX8_image 17 = .ok (.getfield 28, 3) := by decide +kernel
theorem dX8_image_20 : decode cX8_image 20 = .ok (.getfield 66, 3) := by decide +kernel
theorem dX8_image_23 : decode cX8_image 23 = .ok (.ireturn, 1) := by decide +kernel
theorem dX8_back_0 : decode cX8_back 0 = .ok (.aload_n 0, 1) := by decide +kernel
theorem dX8_back_1 : decode cX8_back 1 = .ok (.getfield 38, 3) := by decide +kernel
theorem dX8_back_4 : decode cX8_back 4 = .ok (.ifCond .ne 6, 3) := by decide +kernel
theorem dX8_back_7 : decode cX8_back 7 = .ok (.bipush (-3), 2) := by decide +kernel
theorem dX8_back_9 : decode cX8_back 9 = .ok (.ireturn, 1) := by decide +kernel
theorem dX8_back_10 : decode cX8_back 10 = .ok (.aload_n 0, 1) := by decide +kernel
theorem dX8_back_11 : decode cX8_back 11 = .ok (.getfield 28, 3) := by decide +kernel
theorem dX8_back_14 : decode cX8_back 14 = .ok (.aload_n 0, 1) := by decide +kernel
theorem dX8_back_15 : decode cX8_back 15 = .ok (.getfield 35, 3) := by decide +kernel
theorem dX8_back_18 : decode cX8_back 18 = .ok (.invokevirtual 190, 3) := by decide +kernel
theorem dX8_back_21 : decode cX8_back 21 = .ok (.aload_n 0, 1) := by decide +kernel
theorem dX8_back_22 : decode cX8_back 22 = .ok (.getfield 28, 3) := by decide +kernel
theorem dX8_back_25 : decode cX8_back 25 = .ok (.getfield 66, 3) := by decide +kernel
theorem dX8_back_28 : decode cX8_back 28 = .ok (.ireturn, 1) := by decide +kernel
theorem dX8_sheet_0 : decode cX8_sheet 0 = .ok (.aload_n 0, 1) := by decide +kernel
theorem dX8_sheet_1 : decode cX8_sheet 1 = .ok (.iload_n 1, 1) := by decide +kernel
theorem dX8_sheet_2 : decode cX8_sheet 2 = .ok (.invokevirtual 220, 3) := by decide +kernel
theorem dX8_sheet_5 : decode cX8_sheet 5 = .ok (.astore 4, 2) := by decide +kernel
theorem dX8_sheet_7 : decode cX8_sheet 7 = .ok (.aload 4, 2) := by decide +kernel
theorem dX8_sheet_9 : decode cX8_sheet 9 = .ok (.ifnull 13, 3) := by decide +kernel
theorem dX8_sheet_12 : decode cX8_sheet 12 = .ok (.iload_n 2, 1) := by decide +kernel
theorem dX8_sheet_13 : decode cX8_sheet 13 = .ok (.iconst (-1), 1) := by decide +kernel
theorem dX8_sheet_14 : decode cX8_sheet 14 = .ok (.if_icmp .lt 8, 3) := by decide +kernel
theorem dX8_sheet_17 : decode cX8_sheet 17 = .ok (.iload_n 2, 1) := by decide +kernel
theorem dX8_sheet_18 : decode cX8_sheet 18 = .ok (.iconst 2, 1) := by decide +kernel
theorem dX8_sheet_19 : decode cX8_sheet 19 = .ok (.if_icmp .le 6, 3) := by decide +kernel
theorem dX8_sheet_22 : decode cX8_sheet 22 = .ok (.bipush (-2), 2) := by decide +kernel
theorem dX8_sheet_24 : decode cX8_sheet 24 = .ok (.ireturn, 1) := by decide +kernel
theorem dX8_sheet_25 : decode cX8_sheet 25 = .ok (.iload_n 2, 1) := by decide +kernel
theorem dX8_sheet_26 : decode cX8_sheet 26 = .ok (.iconst (-1), 1) := by decide +kernel
theorem dX8_sheet_27 : decode cX8_sheet 27 = .ok (.if_icmp .ne 12, 3) := by decide +kernel
theorem dX8_sheet_30 : decode cX8_sheet 30 = .ok (.aload 4, 2) := by decide +kernel
theorem dX8_sheet_32 : decode cX8_sheet 32 = .ok (.iconst (-1), 1) := by decide +kernel
theorem dX8_sheet_33 : decode cX8_sheet 33 = .ok (.iconst 0, 1) := by decide +kernel
theorem dX8_sheet_34 : decode cX8_sheet 34 = .ok (.invokevirtual 309, 3) := by decide +kernel
theorem dX8_sheet_37 : decode cX8_sheet 37 = .ok (.iconst 1, 1) := by decide +kernel
theorem dX8_sheet_38 : decode cX8_sheet 38 = .ok (.ireturn, 1) := by decide +kernel
theorem dX8_sheet_39 : decode cX8_sheet 39 = .ok (.iload_n 3, 1) := by decide +kernel
theorem dX8_sheet_40 : decode cX8_sheet 40 = .ok (.bipush 40, 2) := by decide +kernel
theorem dX8_sheet_42 : decode cX8_sheet 42 = .ok (.if_icmp .le 6, 3) := by decide +kernel
theorem dX8_sheet_45 : decode cX8_sheet 45 = .ok (.bipush (-2), 2) := by decide +kernel
theorem dX8_sheet_47 : decode cX8_sheet 47 = .ok (.ireturn, 1) := by decide +kernel
theorem dX8_sheet_48 : decode cX8_sheet 48 = .ok (.iload_n 3, 1) := by decide +kernel
theorem dX8_sheet_49 : decode cX8_sheet 49 = .ok (.ifCond .ge 6, 3) := by decide +kernel
theorem dX8_sheet_52 : decode cX8_sheet 52 = .ok (.bipush (-14), 2) := by decide +kernel
theorem dX8_sheet_54 : decode cX8_sheet 54 = .ok (.ireturn, 1) := by decide +kernel
theorem dX8_sheet_55 : decode cX8_sheet 55 = .ok (.aload 4, 2) := by decide +kernel
theorem dX8_sheet_57 : decode cX8_sheet 57 = .ok (.iload_n 2, 1) := by decide +kernel
theorem dX8_sheet_58 : decode cX8_sheet 58 = .ok (.iload_n 3, 1) := by decide +kernel
theorem dX8_sheet_59 : decode cX8_sheet 59 = .ok (.invokevirtual 309, 3) := by decide +kernel
theorem dX8_sheet_62 : decode cX8_sheet 62 = .ok (.iconst 1, 1) := by decide +kernel
theorem dX8_sheet_63 : decode cX8_sheet 63 = .ok (.ireturn, 1) := by decide +kernel
theorem dX8_cell_0 : decode cX8_cell 0 = .ok (.aload_n 0, 1) := by decide +kernel
theorem dX8_cell_1 : decode cX8_cell 1 = .ok (.iload_n 1, 1) := by decide +kernel
theorem dX8_cell_2 : decode cX8_cell 2 = .ok (.invokevirtual 220, 3) := by decide +kernel
theorem dX8_cell_5 : decode cX8_cell 5 = .ok (.astore 4, 2) := by decide +kernel
theorem dX8_cell_7 : decode cX8_cell 7 = .ok (.aload 4, 2) := by decide +kernel
theorem dX8_cell_9 : decode cX8_cell 9 = .ok (.ifnonnull 6, 3) := by decide +kernel
theorem dX8_cell_12 : decode cX8_cell 12 = .ok (.bipush (-2), 2) := by decide +kernel
theorem dX8_cell_14 : decode cX8_cell 14 = .ok (.ireturn, 1) := by decide +kernel
theorem dX8_cell_15 : decode cX8_cell 15 = .ok (.aload 4, 2) := by decide +kernel
theorem dX8_cell_17 : decode cX8_cell 17 = .ok (.getfield 224, 3) := by decide +kernel
theorem dX8_cell_20 : decode cX8_cell 20 = .ok (.iconst (-1), 1) := by decide +kernel
theorem dX8_cell_21 : decode cX8_cell 21 = .ok (.if_icmp .ne 6, 3) := by decide +kernel
theorem dX8_cell_24 : decode cX8_cell 24 = .ok (.bipush (-11), 2) := by decide +kernel
theorem dX8_cell_26 : decode cX8_cell 26 = .ok (.ireturn, 1) := by decide +kernel
theorem dX8_cell_27 : decode cX8_cell 27 = .ok (.iload_n 2, 1) := by decide +kernel
theorem dX8_cell_28 : decode cX8_cell 28 = .ok (.ifCond .lt 12, 3) := by decide +kernel
theorem dX8_cell_31 : decode cX8_cell 31 = .ok (.iload_n 2, 1) := by decide +kernel
theorem dX8_cell_32 : decode cX8_cell 32 = .ok (.aload 4, 2) := by decide +kernel
theorem dX8_cell_34 : decode cX8_cell 34 = .ok (.getfield 235, 3) := by decide +kernel
theorem dX8_cell_37 : decode cX8_cell 37 = .ok (.if_icmp .lt 6, 3) := by decide +kernel
theorem dX8_cell_40 : decode cX8_cell 40 = .ok (.bipush (-12), 2) := by decide +kernel
theorem dX8_cell_42 : decode cX8_cell 42 = .ok (.ireturn, 1) := by decide +kernel
theorem dX8_cell_43 : decode cX8_cell 43 = .ok (.aload 4, 2) := by decide +kernel
theorem dX8_cell_45 : decode cX8_cell 45 = .ok (.iload_n 2, 1) := by decide +kernel
theorem dX8_cell_46 : decode cX8_cell 46 = .ok (.iload_n 3, 1) := by decide +kernel
theorem dX8_cell_47 : decode cX8_cell 47 = .ok (.invokevirtual 313, 3) := by decide +kernel
theorem dX8_cell_50 : decode cX8_cell 50 = .ok (.iconst 1, 1) := by decide +kernel
theorem dX8_cell_51 : decode cX8_cell 51 = .ok (.ireturn, 1) := by decide +kernel
theorem dX8_copy_0 : decode cX8_copy 0 = .ok (.aload_n 0, 1) := by decide +kernel
theorem dX8_copy_1 : decode cX8_copy 1 = .ok (.iload_n 1, 1) := by decide +kernel
theorem dX8_copy_2 : decode cX8_copy 2 = .ok (.invokevirtual 220, 3) := by decide +kernel
theorem dX8_copy_5 : decode cX8_copy 5 = .ok (.astore 6, 2) := by decide +kernel
theorem dX8_copy_7 : decode cX8_copy 7 = .ok (.aload_n 0, 1) := by decide +kernel
theorem dX8_copy_8 : decode cX8_copy 8 = .ok (.iload_n 3, 1) := by decide +kernel
theorem dX8_copy_9 : decode cX8_copy 9 = .ok (.invokevirtual 220, 3) := by decide +kernel
theorem dX8_copy_12 : decode cX8_copy 12 = .ok (.astore 7, 2) := by decide +kernel
theorem dX8_copy_14 : decode cX8_copy 14 = .ok (.aload 6, 2) := by decide +kernel
theorem dX8_copy_16 : decode cX8_copy 16 = .ok (.ifnull 8, 3) := by decide +kernel
theorem dX8_copy_19 : decode cX8_copy 19 = .ok (.aload 7, 2) := by decide +kernel
theorem dX8_copy_21 : decode cX8_copy 21 = .ok (.ifnonnull 6, 3) := by decide +kernel
theorem dX8_copy_24 : decode cX8_copy 24 = .ok (.bipush (-2), 2) := by decide +kernel
theorem dX8_copy_26 : decode cX8_copy 26 = .ok (.ireturn, 1) := by decide +kernel
theorem dX8_copy_27 : decode cX8_copy 27 = .ok (.aload 6, 2) := by decide +kernel
theorem dX8_copy_29 : decode cX8_copy 29 = .ok (.getfield 224, 3) := by decide +kernel
theorem dX8_copy_32 : decode cX8_copy 32 = .ok (.iconst (-1), 1) := by decide +kernel
theorem dX8_copy_33 : decode cX8_copy 33 = .ok (.if_icmp .eq 12, 3) := by decide +kernel
theorem dX8_copy_36 : decode cX8_copy 36 = .ok (.aload 7, 2) := by decide +kernel
theorem dX8_copy_38 : decode cX8_copy 38 = .ok (.getfield 224, 3) := by decide +kernel
theorem dX8_copy_41 : decode cX8_copy 41 = .ok (.iconst (-1), 1) := by decide +kernel
theorem dX8_copy_42 : decode cX8_copy 42 = .ok (.if_icmp .ne 6, 3) := by decide +kernel
theorem dX8_copy_45 : decode cX8_copy 45 = .ok (.bipush (-11), 2) := by decide +kernel
theorem dX8_copy_47 : decode cX8_copy 47 = .ok (.ireturn, 1) := by decide +kernel
theorem dX8_copy_48 : decode cX8_copy 48 = .ok (.aload 6, 2) := by decide +kernel
theorem dX8_copy_50 : decode cX8_copy 50 = .ok (.getfield 224, 3) := by decide +kernel
theorem dX8_copy_53 : decode cX8_copy 53 = .ok (.aload 7, 2) := by decide +kernel
theorem dX8_copy_55 : decode cX8_copy 55 = .ok (.getfield 224, 3) := by decide +kernel
theorem dX8_copy_58 : decode cX8_copy 58 = .ok (.if_icmp .eq 6, 3) := by decide +kernel
theorem dX8_copy_61 : decode cX8_copy 61 = .ok (.bipush (-13), 2) := by decide +kernel
theorem dX8_copy_63 : decode cX8_copy 63 = .ok (.ireturn, 1) := by decide +kernel
theorem dX8_copy_64 : decode cX8_copy 64 = .ok (.aload 6, 2) := by decide +kernel
theorem dX8_copy_66 : decode cX8_copy 66 = .ok (.iload_n 2, 1) := by decide +kernel
theorem dX8_copy_67 : decode cX8_copy 67 = .ok (.iload 5, 2) := by decide +kernel
theorem dX8_copy_69 : decode cX8_copy 69 = .ok (.invokevirtual 327, 3) := by decide +kernel
theorem dX8_copy_72 : decode cX8_copy 72 = .ok (.ifCond .eq 15, 3) := by decide +kernel
theorem dX8_copy_75 : decode cX8_copy 75 = .ok (.aload 7, 2) := by decide +kernel
theorem dX8_copy_77 : decode cX8_copy 77 = .ok (.iload 4, 2) := by decide +kernel
theorem dX8_copy_79 : decode cX8_copy 79 = .ok (.iload 5, 2) := by decide +kernel
theorem dX8_copy_81 : decode cX8_copy 81 = .ok (.invokevirtual 327, 3) := by decide +kernel
theorem dX8_copy_84 : decode cX8_copy 84 = .ok (.ifCond .ne 6, 3) := by decide +kernel
theorem dX8_copy_87 : decode cX8_copy 87 = .ok (.bipush (-12), 2) := by decide +kernel
theorem dX8_copy_89 : decode cX8_copy 89 = .ok (.ireturn, 1) := by decide +kernel
theorem dX8_copy_90 : decode cX8_copy 90 = .ok (.aload 6, 2) := by decide +kernel
theorem dX8_copy_92 : decode cX8_copy 92 = .ok (.getfield 331, 3) := by decide +kernel
theorem dX8_copy_95 : decode cX8_copy 95 = .ok (.iload_n 2, 1) := by decide +kernel
theorem dX8_copy_96 : decode cX8_copy 96 = .ok (.aload 7, 2) := by decide +kernel
theorem dX8_copy_98 : decode cX8_copy 98 = .ok (.getfield 331, 3) := by decide +kernel
theorem dX8_copy_101 : decode cX8_copy 101 = .ok (.iload 4, 2) := by decide +kernel
theorem dX8_copy_103 : decode cX8_copy 103 = .ok (.iload 5, 2) := by decide +kernel
theorem dX8_copy_105 : decode cX8_copy 105 = .ok (.invokestatic 335, 3) := by decide +kernel
theorem dX8_copy_108 : decode cX8_copy 108 = .ok (.iload 5, 2) := by decide +kernel
theorem dX8_copy_110 : decode cX8_copy 110 = .ok (.ireturn, 1) := by decide +kernel
theorem dX8_menBy_0 : decode cX8_menBy 0 = .ok (.aload_n 0, 1) := by decide +kernel
theorem dX8_menBy_1 : decode cX8_menBy 1 = .ok (.iload_n 1, 1) := by decide +kernel
theorem dX8_menBy_2 : decode cX8_menBy 2 = .ok (.invokevirtual 220, 3) := by decide +kernel
theorem dX8_menBy_5 : decode cX8_menBy 5 = .ok (.astore 5, 2) := by decide +kernel
theorem dX8_menBy_7 : decode cX8_menBy 7 = .ok (.aload 5, 2) := by decide +kernel
theorem dX8_menBy_9 : decode cX8_menBy 9 = .ok (.ifnull 24, 3) := by decide +kernel
theorem dX8_menBy_12 : decode cX8_menBy 12 = .ok (.iload_n 2, 1) := by decide +kernel
theorem dX8_menBy_13 : decode cX8_menBy 13 = .ok (.ifCond .lt 20, 3) := by decide +kernel
theorem dX8_menBy_16 : decode cX8_menBy 16 = .ok (.iload_n 2, 1) := by decide +kernel
theorem dX8_menBy_17 : decode cX8_menBy 17 = .ok (.iconst 2, 1) := by decide +kernel
theorem dX8_menBy_18 : decode cX8_menBy 18 = .ok (.if_icmp .gt 15, 3) := by decide +kernel
theorem dX8_menBy_21 : decode cX8_menBy 21 = .ok (.iload 4, 2) := by decide +kernel
theorem dX8_menBy_23 : decode cX8_menBy 23 = .ok (.ifCond .lt 10, 3) := by decide +kernel
theorem dX8_menBy_26 : decode cX8_menBy 26 = .ok (.iload 4, 2) := by decide +kernel
theorem dX8_menBy_28 : decode cX8_menBy 28 = .ok (.bipush 6, 2) := by decide +kernel
theorem dX8_menBy_30 : decode cX8_menBy 30 = .ok (.if_icmp .le 6, 3) := by decide +kernel
theorem dX8_menBy_33 : decode cX8_menBy 33 = .ok (.bipush (-2), 2) := by decide +kernel
theorem dX8_menBy_35 : decode cX8_menBy 35 = .ok (.ireturn, 1) := by decide +kernel
theorem dX8_menBy_36 : decode cX8_menBy 36 = .ok (.aload 5, 2) := by decide +kernel
theorem dX8_menBy_38 : decode cX8_menBy 38 = .ok (.getfield 224, 3) := by decide +kernel
theorem dX8_menBy_41 : decode cX8_menBy 41 = .ok (.iconst (-1), 1) := by decide +kernel
theorem dX8_menBy_42 : decode cX8_menBy 42 = .ok (.if_icmp .ne 6, 3) := by decide +kernel
theorem dX8_menBy_45 : decode cX8_menBy 45 = .ok (.bipush (-11), 2) := by decide +kernel
theorem dX8_menBy_47 : decode cX8_menBy 47 = .ok (.ireturn, 1) := by decide +kernel
theorem dX8_menBy_48 : decode cX8_menBy 48 = .ok (.aload 5, 2) := by decide +kernel
theorem dX8_menBy_50 : decode cX8_menBy 50 = .ok (.getfield 224, 3) := by decide +kernel
theorem dX8_menBy_53 : decode cX8_menBy 53 = .ok (.iload_n 2, 1) := by decide +kernel
theorem dX8_menBy_54 : decode cX8_menBy 54 = .ok (.if_icmp .eq 6, 3) := by decide +kernel
theorem dX8_menBy_57 : decode cX8_menBy 57 = .ok (.bipush (-13), 2) := by decide +kernel
theorem dX8_menBy_59 : decode cX8_menBy 59 = .ok (.ireturn, 1) := by decide +kernel
theorem dX8_menBy_60 : decode cX8_menBy 60 = .ok (.iconst 0, 1) := by decide +kernel
theorem dX8_menBy_61 : decode cX8_menBy 61 = .ok (.istore 6, 2) := by decide +kernel
theorem dX8_menBy_63 : decode cX8_menBy 63 = .ok (.iconst 0, 1) := by decide +kernel
theorem dX8_menBy_64 : decode cX8_menBy 64 = .ok (.istore 7, 2) := by decide +kernel
theorem dX8_menBy_66 : decode cX8_menBy 66 = .ok (.iload 7, 2) := by decide +kernel
theorem dX8_menBy_68 : decode cX8_menBy 68 = .ok (.iload 4, 2) := by decide +kernel
theorem dX8_menBy_70 : decode cX8_menBy 70 = .ok (.if_icmp .ge 73, 3) := by decide +kernel
theorem dX8_menBy_73 : decode cX8_menBy 73 = .ok (.aload 5, 2) := by decide +kernel
theorem dX8_menBy_75 : decode cX8_menBy 75 = .ok (.iload_n 3, 1) := by decide +kernel
theorem dX8_menBy_76 : decode cX8_menBy 76 = .ok (.iconst 3, 1) := by decide +kernel
theorem dX8_menBy_77 : decode cX8_menBy 77 = .ok (.iload 7, 2) := by decide +kernel
theorem dX8_menBy_79 : decode cX8_menBy 79 = .ok (.imul, 1) := by decide +kernel
theorem dX8_menBy_80 : decode cX8_menBy 80 = .ok (.iconst 3, 1) := by decide +kernel
theorem dX8_menBy_81 : decode cX8_menBy 81 = .ok (.iadd, 1) := by decide +kernel
theorem dX8_menBy_82 : decode cX8_menBy 82 = .ok (.invokevirtual 327, 3) := by decide +kernel
theorem dX8_menBy_85 : decode cX8_menBy 85 = .ok (.ifCond .ne 6, 3) := by decide +kernel
theorem dX8_menBy_88 : decode cX8_menBy 88 = .ok (.bipush (-12), 2) := by decide +kernel
theorem dX8_menBy_90 : decode cX8_menBy 90 = .ok (.ireturn, 1) := by decide +kernel
theorem dX8_menBy_91 : decode cX8_menBy 91 = .ok (.iload_n 3, 1) := by decide +kernel
theorem dX8_menBy_92 : decode cX8_menBy 92 = .ok (.iconst 3, 1) := by decide +kernel
theorem dX8_menBy_93 : decode cX8_menBy 93 = .ok (.iload 7, 2) := by decide +kernel
theorem dX8_menBy_95 : decode cX8_menBy 95 = .ok (.imul, 1) := by decide +kernel
theorem dX8_menBy_96 : decode cX8_menBy 96 = .ok (.iadd, 1) := by decide +kernel
theorem dX8_menBy_97 : decode cX8_menBy 97 = .ok (.istore 8, 2) := by decide +kernel
theorem dX8_menBy_99 : decode cX8_menBy 99 = .ok (.aload_n 0, 1) := by decide +kernel
theorem dX8_menBy_100 : decode cX8_menBy 100 = .ok (.getfield 28, 3) := by decide +kernel
theorem dX8_menBy_103 : decode cX8_menBy 103 = .ok (.aload 5, 2) := by decide +kernel
theorem dX8_menBy_105 : decode cX8_menBy 105 = .ok (.iload 8, 2) := by decide +kernel
theorem dX8_menBy_107 : decode cX8_menBy 107 = .ok (.invokevirtual 252, 3) := by decide +kernel
theorem dX8_menBy_110 : decode cX8_menBy 110 = .ok (.aload 5, 2) := by decide +kernel
theorem dX8_menBy_112 : decode cX8_menBy 112 = .ok (.iload 8, 2) := by decide +kernel
theorem dX8_menBy_114 : decode cX8_menBy 114 = .ok (.iconst 1, 1) := by decide +kernel
theorem dX8_menBy_115 : decode cX8_menBy 115 = .ok (.iadd, 1) := by decide +kernel
theorem dX8_menBy_116 : decode cX8_menBy 116 = .ok (.invokevirtual 252, 3) := by decide +kernel
theorem dX8_menBy_119 : decode cX8_menBy 119 = .ok (.aload 5, 2) := by decide +kernel
theorem dX8_menBy_121 : decode cX8_menBy 121 = .ok (.iload 8, 2) := by decide +kernel
theorem dX8_menBy_123 : decode cX8_menBy 123 = .ok (.iconst 2, 1) := by decide +kernel
theorem dX8_menBy_124 : decode cX8_menBy 124 = .ok (.iadd, 1) := by decide +kernel
theorem dX8_menBy_125 : decode cX8_menBy 125 = .ok (.invokevirtual 252, 3) := by decide +kernel
theorem dX8_menBy_128 : decode cX8_menBy 128 = .ok (.invokevirtual 121, 3) := by decide +kernel
theorem dX8_menBy_131 : decode cX8_menBy 131 = .ok (.ifCond .lt 6, 3) := by decide +kernel
theorem dX8_menBy_134 : decode cX8_menBy 134 = .ok (.iinc 6 1, 3) := by decide +kernel
theorem dX8_menBy_137 : decode cX8_menBy 137 = .ok (.iinc 7 1, 3) := by decide +kernel
theorem dX8_menBy_140 : decode cX8_menBy 140 = .ok (.goto (-74), 3) := by decide +kernel
theorem dX8_menBy_143 : decode cX8_menBy 143 = .ok (.iload 6, 2) := by decide +kernel
theorem dX8_menBy_145 : decode cX8_menBy 145 = .ok (.ireturn, 1) := by decide +kernel
theorem dX8_taken_0 : decode cX8_taken 0 = .ok (.iload_n 2, 1) := by decide +kernel
theorem dX8_taken_1 : decode cX8_taken 1 = .ok (.ifCond .lt 9, 3) := by decide +kernel
theorem dX8_taken_4 : decode cX8_taken 4 = .ok (.iload_n 2, 1) := by decide +kernel
theorem dX8_taken_5 : decode cX8_taken 5 = .ok (.bipush 6, 2) := by decide +kernel
theorem dX8_taken_7 : decode cX8_taken 7 = .ok (.if_icmp .le 6, 3) := by decide +kernel
theorem dX8_taken_10 : decode cX8_taken 10 = .ok (.bipush (-2), 2) := by decide +kernel
theorem dX8_taken_12 : decode cX8_taken 12 = .ok (.ireturn, 1) := by decide +kernel
theorem dX8_taken_13 : decode cX8_taken 13 = .ok (.iload_n 1, 1) := by decide +kernel
theorem dX8_taken_14 : decode cX8_taken 14 = .ok (.ifCond .lt 9, 3) := by decide +kernel
theorem dX8_taken_17 : decode cX8_taken 17 = .ok (.iload_n 1, 1) := by decide +kernel
theorem dX8_taken_18 : decode cX8_taken 18 = .ok (.bipush 14, 2) := by decide +kernel
theorem dX8_taken_20 : decode cX8_taken 20 = .ok (.if_icmp .lt 6, 3) := by decide +kernel
theorem dX8_taken_23 : decode cX8_taken 23 = .ok (.bipush (-12), 2) := by decide +kernel
theorem dX8_taken_25 : decode cX8_taken 25 = .ok (.ireturn, 1) := by decide +kernel
theorem dX8_taken_26 : decode cX8_taken 26 = .ok (.aload_n 0, 1) := by decide +kernel
theorem dX8_taken_27 : decode cX8_taken 27 = .ok (.getfield 28, 3) := by decide +kernel
theorem dX8_taken_30 : decode cX8_taken 30 = .ok (.iload_n 1, 1) := by decide +kernel
theorem dX8_taken_31 : decode cX8_taken 31 = .ok (.invokevirtual 109, 3) := by decide +kernel
theorem dX8_taken_34 : decode cX8_taken 34 = .ok (.astore_n 3, 1) := by decide +kernel
theorem dX8_taken_35 : decode cX8_taken 35 = .ok (.aload_n 0, 1) := by decide +kernel
theorem dX8_taken_36 : decode cX8_taken 36 = .ok (.getfield 28, 3) := by decide +kernel
theorem dX8_taken_39 : decode cX8_taken 39 = .ok (.iload_n 1, 1) := by decide +kernel
theorem dX8_taken_40 : decode cX8_taken 40 = .ok (.bipush 6, 2) := by decide +kernel
theorem dX8_taken_42 : decode cX8_taken 42 = .ok (.isub, 1) := by decide +kernel
theorem dX8_taken_43 : decode cX8_taken 43 = .ok (.invokevirtual 153, 3) := by decide +kernel
theorem dX8_taken_46 : decode cX8_taken 46 = .ok (.astore 4, 2) := by decide +kernel
theorem dX8_taken_48 : decode cX8_taken 48 = .ok (.aload_n 3, 1) := by decide +kernel
theorem dX8_taken_49 : decode cX8_taken 49 = .ok (.ifnull 23, 3) := by decide +kernel
theorem dX8_taken_52 : decode cX8_taken 52 = .ok (.iload_n 2, 1) := by decide +kernel
theorem dX8_taken_53 : decode cX8_taken 53 = .ok (.iconst 5, 1) := by decide +kernel
theorem dX8_taken_54 : decode cX8_taken 54 = .ok (.if_icmp .gt 15, 3) := by decide +kernel
theorem dX8_taken_57 : decode cX8_taken 57 = .ok (.aload_n 3, 1) := by decide +kernel
theorem dX8_taken_58 : decode cX8_taken 58 = .ok (.iload_n 2, 1) := by decide +kernel
theorem dX8_taken_59 : decode cX8_taken 59 = .ok (.invokevirtual 341, 3) := by decide +kernel
theorem dX8_taken_62 : decode cX8_taken 62 = .ok (.ifCond .eq 7, 3) := by decide +kernel
theorem dX8_taken_65 : decode cX8_taken 65 = .ok (.iload_n 1, 1) := by decide +kernel
theorem dX8_taken_66 : decode cX8_taken 66 = .ok (.goto 5, 3) := by decide +kernel
theorem dX8_taken_69 : decode cX8_taken 69 = .ok (.bipush (-13), 2) := by decide +kernel
theorem dX8_taken_71 : decode cX8_taken 71 = .ok (.ireturn, 1) := by decide +kernel
theorem dX8_taken_72 : decode cX8_taken 72 = .ok (.aload 4, 2) := by decide +kernel
theorem dX8_taken_74 : decode cX8_taken 74 = .ok (.ifnull 19, 3) := by decide +kernel
theorem dX8_taken_77 : decode cX8_taken 77 = .ok (.iload_n 2, 1) := by decide +kernel
theorem dX8_taken_78 : decode cX8_taken 78 = .ok (.iconst 5, 1) := by decide +kernel
theorem dX8_taken_79 : decode cX8_taken 79 = .ok (.if_icmp .le 11, 3) := by decide +kernel
theorem dX8_taken_82 : decode cX8_taken 82 = .ok (.aload 4, 2) := by decide +kernel
theorem dX8_taken_84 : decode cX8_taken 84 = .ok (.getfield 165, 3) := by decide +kernel
theorem dX8_taken_87 : decode cX8_taken 87 = .ok (.goto 5, 3) := by decide +kernel
theorem dX8_taken_90 : decode cX8_taken 90 = .ok (.bipush (-13), 2) := by decide +kernel
theorem dX8_taken_92 : decode cX8_taken 92 = .ok (.ireturn, 1) := by decide +kernel
theorem dX8_taken_93 : decode cX8_taken 93 = .ok (.bipush (-11), 2) := by decide +kernel
theorem dX8_taken_95 : decode cX8_taken 95 = .ok (.ireturn, 1) := by decide +kernel
theorem dX8_sheetAt_0 : decode cX8_sheetAt 0 = .ok (.iload_n 1, 1) := by decide +kernel
theorem dX8_sheetAt_1 : decode cX8_sheetAt 1 = .ok (.ifCond .lt 21, 3) := by decide +kernel
theorem dX8_sheetAt_4 : decode cX8_sheetAt 4 = .ok (.iload_n 1, 1) := by decide +kernel
theorem dX8_sheetAt_5 : decode cX8_sheetAt 5 = .ok (.aload_n 0, 1) := by decide +kernel
theorem dX8_sheetAt_6 : decode cX8_sheetAt 6 = .ok (.getfield 44, 3) := by decide +kernel
theorem dX8_sheetAt_9 : decode cX8_sheetAt 9 = .ok (.arraylength, 1) := by decide +kernel
theorem dX8_sheetAt_10 : decode cX8_sheetAt 10 = .ok (.if_icmp .ge 12, 3) := by decide +kernel
theorem dX8_sheetAt_13 : decode cX8_sheetAt 13 = .ok (.aload_n 0, 1) := by decide +kernel
theorem dX8_sheetAt_14 : decode cX8_sheetAt 14 = .ok (.getfield 44, 3) := by decide +kernel
theorem dX8_sheetAt_17 : decode cX8_sheetAt 17 = .ok (.iload_n 1, 1) := by decide +kernel
theorem dX8_sheetAt_18 : decode cX8_sheetAt 18 = .ok (.aaload, 1) := by decide +kernel
theorem dX8_sheetAt_19 : decode cX8_sheetAt 19 = .ok (.goto 4, 3) := by decide +kernel
theorem dX8_sheetAt_22 : decode cX8_sheetAt 22 = .ok (.aconst_null, 1) := by decide +kernel
theorem dX8_sheetAt_23 : decode cX8_sheetAt 23 = .ok (.areturn, 1) := by decide +kernel
theorem dX8_isByte_0 : decode cX8_isByte 0 = .ok (.iload_n 0, 1) := by decide +kernel
theorem dX8_isByte_1 : decode cX8_isByte 1 = .ok (.ifCond .lt 14, 3) := by decide +kernel
theorem dX8_isByte_4 : decode cX8_isByte 4 = .ok (.iload_n 0, 1) := by decide +kernel
theorem dX8_isByte_5 : decode cX8_isByte 5 = .ok (.sipush 255, 3) := by decide +kernel
theorem dX8_isByte_8 : decode cX8_isByte 8 = .ok (.if_icmp .gt 7, 3) := by decide +kernel
theorem dX8_isByte_11 : decode cX8_isByte 11 = .ok (.iconst 1, 1) := by decide +kernel
theorem dX8_isByte_12 : decode cX8_isByte 12 = .ok (.goto 4, 3) := by decide +kernel
theorem dX8_isByte_15 : decode cX8_isByte 15 = .ok (.iconst 0, 1) := by decide +kernel
theorem dX8_isByte_16 : decode cX8_isByte 16 = .ok (.ireturn, 1) := by decide +kernel
