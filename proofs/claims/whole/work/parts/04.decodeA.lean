theorem dX0_expect_0 : decode cX0_expect 0 = .ok (.iload_n 1, 1) := by decide +kernel
theorem dX0_expect_1 : decode cX0_expect 1 = .ok (.ifCond .lt 21, 3) := by decide +kernel
theorem dX0_expect_4 : decode cX0_expect 4 = .ok (.iload_n 1, 1) := by decide +kernel
theorem dX0_expect_5 : decode cX0_expect 5 = .ok (.aload_n 0, 1) := by decide +kernel
theorem dX0_expect_6 : decode cX0_expect 6 = .ok (.getfield 9, 3) := by decide +kernel
theorem dX0_expect_9 : decode cX0_expect 9 = .ok (.arraylength, 1) := by decide +kernel
theorem dX0_expect_10 : decode cX0_expect 10 = .ok (.if_icmp .ge 12, 3) := by decide +kernel
theorem dX0_expect_13 : decode cX0_expect 13 = .ok (.iload_n 1, 1) := by decide +kernel
theorem dX0_expect_14 : decode cX0_expect 14 = .ok (.aload_n 0, 1) := by decide +kernel
theorem dX0_expect_15 : decode cX0_expect 15 = .ok (.getfield 15, 3) := by decide +kernel
theorem dX0_expect_18 : decode cX0_expect 18 = .ok (.arraylength, 1) := by decide +kernel
theorem dX0_expect_19 : decode cX0_expect 19 = .ok (.if_icmp .lt 4, 3) := by decide +kernel
theorem dX0_expect_22 : decode cX0_expect 22 = .ok (.return_, 1) := by decide +kernel
theorem dX0_expect_23 : decode cX0_expect 23 = .ok (.aload_n 0, 1) := by decide +kernel
theorem dX0_expect_24 : decode cX0_expect 24 = .ok (.getfield 9, 3) := by decide +kernel
theorem dX0_expect_27 : decode cX0_expect 27 = .ok (.iload_n 1, 1) := by decide +kernel
theorem dX0_expect_28 : decode cX0_expect 28 = .ok (.iload_n 2, 1) := by decide +kernel
theorem dX0_expect_29 : decode cX0_expect 29 = .ok (.iastore, 1) := by decide +kernel
theorem dX0_expect_30 : decode cX0_expect 30 = .ok (.aload_n 0, 1) := by decide +kernel
theorem dX0_expect_31 : decode cX0_expect 31 = .ok (.getfield 15, 3) := by decide +kernel
theorem dX0_expect_34 : decode cX0_expect 34 = .ok (.iload_n 1, 1) := by decide +kernel
theorem dX0_expect_35 : decode cX0_expect 35 = .ok (.iload_n 3, 1) := by decide +kernel
theorem dX0_expect_36 : decode cX0_expect 36 = .ok (.iastore, 1) := by decide +kernel
theorem dX0_expect_37 : decode cX0_expect 37 = .ok (.aload_n 0, 1) := by decide +kernel
theorem dX0_expect_38 : decode cX0_expect 38 = .ok (.dup, 1) := by decide +kernel
theorem dX0_expect_39 : decode cX0_expect 39 = .ok (.getfield 18, 3) := by decide +kernel
theorem dX0_expect_42 : decode cX0_expect 42 = .ok (.iconst 1, 1) := by decide +kernel
theorem dX0_expect_43 : decode cX0_expect 43 = .ok (.iload_n 1, 1) := by decide +kernel
theorem dX0_expect_44 : decode cX0_expect 44 = .ok (.ishl, 1) := by decide +kernel
theorem dX0_expect_45 : decode cX0_expect 45 = .ok (.ior, 1) := by decide +kernel
theorem dX0_expect_46 : decode cX0_expect 46 = .ok (.putfield 18, 3) := by decide +kernel
theorem dX0_expect_49 : decode cX0_expect 49 = .ok (.return_, 1) := by decide +kernel
theorem dX0_findBest_0 : decode cX0_findBest 0 = .ok (.aload_n 0, 1) := by decide +kernel
theorem dX0_findBest_1 : decode cX0_findBest 1 = .ok (.iconst (-1), 1) := by decide +kernel
theorem dX0_findBest_2 : decode cX0_findBest 2 = .ok (.putfield 22, 3) := by decide +kernel
theorem dX0_findBest_5 : decode cX0_findBest 5 = .ok (.aload_n 0, 1) := by decide +kernel
theorem dX0_findBest_6 : decode cX0_findBest 6 = .ok (.iconst 0, 1) := by decide +kernel
theorem dX0_findBest_7 : decode cX0_findBest 7 = .ok (.putfield 25, 3) := by decide +kernel
theorem dX0_findBest_10 : decode cX0_findBest 10 = .ok (.aload_n 0, 1) := by decide +kernel
theorem dX0_findBest_11 : decode cX0_findBest 11 = .ok (.iconst 0, 1) := by decide +kernel
theorem dX0_findBest_12 : decode cX0_findBest 12 = .ok (.iconst 0, 1) := by decide +kernel
theorem dX0_findBest_13 : decode cX0_findBest 13 = .ok (.iconst 0, 1) := by decide +kernel
theorem dX0_findBest_14 : decode cX0_findBest 14 = .ok (.iconst 0, 1) := by decide +kernel
theorem dX0_findBest_15 : decode cX0_findBest 15 = .ok (.iconst 0, 1) := by decide +kernel
theorem dX0_findBest_16 : decode cX0_findBest 16 = .ok (.invokestatic 28, 3) := by decide +kernel
theorem dX0_findBest_19 : decode cX0_findBest 19 = .ok (.return_, 1) := by decide +kernel
theorem dX0_seatNext_0 : decode cX0_seatNext 0 = .ok (.iload_n 2, 1) := by decide +kernel
theorem dX0_seatNext_1 : decode cX0_seatNext 1 = .ok (.aload_n 0, 1) := by decide +kernel
theorem dX0_seatNext_2 : decode cX0_seatNext 2 = .ok (.getfield 18, 3) := by decide +kernel
theorem dX0_seatNext_5 : decode cX0_seatNext 5 = .ok (.if_icmp .eq 9, 3) := by decide +kernel
theorem dX0_seatNext_8 : decode cX0_seatNext 8 = .ok (.iload_n 1, 1) := by decide +kernel
theorem dX0_seatNext_9 : decode cX0_seatNext 9 = .ok (.bipush 6, 2) := by decide +kernel
theorem dX0_seatNext_11 : decode cX0_seatNext 11 = .ok (.if_icmp .lt 32, 3) := by decide +kernel
theorem dX0_seatNext_14 : decode cX0_seatNext 14 = .ok (.aload_n 0, 1) := by decide +kernel
theorem dX0_seatNext_15 : decode cX0_seatNext 15 = .ok (.getfield 22, 3) := by decide +kernel
theorem dX0_seatNext_18 : decode cX0_seatNext 18 = .ok (.ifCond .lt 12, 3) := by decide +kernel
theorem dX0_seatNext_21 : decode cX0_seatNext 21 = .ok (.iload 4, 2) := by decide +kernel
theorem dX0_seatNext_23 : decode cX0_seatNext 23 = .ok (.aload_n 0, 1) := by decide +kernel
theorem dX0_seatNext_24 : decode cX0_seatNext 24 = .ok (.getfield 22, 3) := by decide +kernel
theorem dX0_seatNext_27 : decode cX0_seatNext 27 = .ok (.if_icmp .ge 15, 3) := by decide +kernel
theorem dX0_seatNext_30 : decode cX0_seatNext 30 = .ok (.aload_n 0, 1) := by decide +kernel
theorem dX0_seatNext_31 : decode cX0_seatNext 31 = .ok (.iload 4, 2) := by decide +kernel
theorem dX0_seatNext_33 : decode cX0_seatNext 33 = .ok (.putfield 22, 3) := by decide +kernel
theorem dX0_seatNext_36 : decode cX0_seatNext 36 = .ok (.aload_n 0, 1) := by decide +kernel
theorem dX0_seatNext_37 : decode cX0_seatNext 37 = .ok (.iload 5, 2) := by decide +kernel
theorem dX0_seatNext_39 : decode cX0_seatNext 39 = .ok (.putfield 25, 3) := by decide +kernel
theorem dX0_seatNext_42 : decode cX0_seatNext 42 = .ok (.return_, 1) := by decide +kernel
theorem dX0_seatNext_43 : decode cX0_seatNext 43 = .ok (.iconst 0, 1) := by decide +kernel
theorem dX0_seatNext_44 : decode cX0_seatNext 44 = .ok (.istore 6, 2) := by decide +kernel
theorem dX0_seatNext_46 : decode cX0_seatNext 46 = .ok (.iload 6, 2) := by decide +kernel
theorem dX0_seatNext_48 : decode cX0_seatNext 48 = .ok (.aload_n 0, 1) := by decide +kernel
theorem dX0_seatNext_49 : decode cX0_seatNext 49 = .ok (.getfield 9, 3) := by decide +kernel
theorem dX0_seatNext_52 : decode cX0_seatNext 52 = .ok (.arraylength, 1) := by decide +kernel
theorem dX0_seatNext_53 : decode cX0_seatNext 53 = .ok (.if_icmp .ge 84, 3) := by decide +kernel
theorem dX0_seatNext_56 : decode cX0_seatNext 56 = .ok (.iload 6, 2) := by decide +kernel
theorem dX0_seatNext_58 : decode cX0_seatNext 58 = .ok (.aload_n 0, 1) := by decide +kernel
theorem dX0_seatNext_59 : decode cX0_seatNext 59 = .ok (.getfield 15, 3) := by decide +kernel
theorem dX0_seatNext_62 : decode cX0_seatNext 62 = .ok (.arraylength, 1) := by decide +kernel
theorem dX0_seatNext_63 : decode cX0_seatNext 63 = .ok (.if_icmp .ge 74, 3) := by decide +kernel
theorem dX0_seatNext_66 : decode cX0_seatNext 66 = .ok (.aload_n 0, 1) := by decide +kernel
theorem dX0_seatNext_67 : decode cX0_seatNext 67 = .ok (.getfield 18, 3) := by decide +kernel
theorem dX0_seatNext_70 : decode cX0_seatNext 70 = .ok (.iload 6, 2) := by decide +kernel
theorem dX0_seatNext_72 : decode cX0_seatNext 72 = .ok (.ishr, 1) := by decide +kernel
theorem dX0_seatNext_73 : decode cX0_seatNext 73 = .ok (.iconst 1, 1) := by decide +kernel
theorem dX0_seatNext_74 : decode cX0_seatNext 74 = .ok (.iand, 1) := by decide +kernel
theorem dX0_seatNext_75 : decode cX0_seatNext 75 = .ok (.ifCond .eq 56, 3) := by decide +kernel
theorem dX0_seatNext_78 : decode cX0_seatNext 78 = .ok (.iload_n 2, 1) := by decide +kernel
theorem dX0_seatNext_79 : decode cX0_seatNext 79 = .ok (.iload 6, 2) := by decide +kernel
theorem dX0_seatNext_81 : decode cX0_seatNext 81 = .ok (.ishr, 1) := by decide +kernel
theorem dX0_seatNext_82 : decode cX0_seatNext 82 = .ok (.iconst 1, 1) := by decide +kernel
theorem dX0_seatNext_83 : decode cX0_seatNext 83 = .ok (.iand, 1) := by decide +kernel
theorem dX0_seatNext_84 : decode cX0_seatNext 84 = .ok (.ifCond .ne 47, 3) := by decide +kernel
theorem dX0_seatNext_87 : decode cX0_seatNext 87 = .ok (.aload_n 0, 1) := by decide +kernel
theorem dX0_seatNext_88 : decode cX0_seatNext 88 = .ok (.iload_n 1, 1) := by decide +kernel
theorem dX0_seatNext_89 : decode cX0_seatNext 89 = .ok (.iconst 1, 1) := by decide +kernel
theorem dX0_seatNext_90 : decode cX0_seatNext 90 = .ok (.iadd, 1) := by decide +kernel
theorem dX0_seatNext_91 : decode cX0_seatNext 91 = .ok (.iload_n 2, 1) := by decide +kernel
theorem dX0_seatNext_92 : decode cX0_seatNext 92 = .ok (.iconst 1, 1) := by decide +kernel
theorem dX0_seatNext_93 : decode cX0_seatNext 93 = .ok (.iload 6, 2) := by decide +kernel
theorem dX0_seatNext_95 : decode cX0_seatNext 95 = .ok (.ishl, 1) := by decide +kernel
theorem dX0_seatNext_96 : decode cX0_seatNext 96 = .ok (.ior, 1) := by decide +kernel
theorem dX0_seatNext_97 : decode cX0_seatNext 97 = .ok (.iload_n 3, 1) := by decide +kernel
theorem dX0_seatNext_98 : decode cX0_seatNext 98 = .ok (.aload_n 0, 1) := by decide +kernel
theorem dX0_seatNext_99 : decode cX0_seatNext 99 = .ok (.getfield 9, 3) := by decide +kernel
theorem dX0_seatNext_102 : decode cX0_seatNext 102 = .ok (.iload 6, 2) := by decide +kernel
theorem dX0_seatNext_104 : decode cX0_seatNext 104 = .ok (.iaload, 1) := by decide +kernel
theorem dX0_seatNext_105 : decode cX0_seatNext 105 = .ok (.iadd, 1) := by decide +kernel
theorem dX0_seatNext_106 : decode cX0_seatNext 106 = .ok (.iload 4, 2) := by decide +kernel
theorem dX0_seatNext_108 : decode cX0_seatNext 108 = .ok (.iload_n 3, 1) := by decide +kernel
theorem dX0_seatNext_109 : decode cX0_seatNext 109 = .ok (.aload_n 0, 1) := by decide +kernel
theorem dX0_seatNext_110 : decode cX0_seatNext 110 = .ok (.getfield 15, 3) := by decide +kernel
theorem dX0_seatNext_113 : decode cX0_seatNext 113 = .ok (.iload 6, 2) := by decide +kernel
theorem dX0_seatNext_115 : decode cX0_seatNext 115 = .ok (.iaload, 1) := by decide +kernel
theorem dX0_seatNext_116 : decode cX0_seatNext 116 = .ok (.imul, 1) := by decide +kernel
theorem dX0_seatNext_117 : decode cX0_seatNext 117 = .ok (.iadd, 1) := by decide +kernel
theorem dX0_seatNext_118 : decode cX0_seatNext 118 = .ok (.iload 5, 2) := by decide +kernel
theorem dX0_seatNext_120 : decode cX0_seatNext 120 = .ok (.bipush 10, 2) := by decide +kernel
theorem dX0_seatNext_122 : decode cX0_seatNext 122 = .ok (.imul, 1) := by decide +kernel
theorem dX0_seatNext_123 : decode cX0_seatNext 123 = .ok (.iload 6, 2) := by decide +kernel
theorem dX0_seatNext_125 : decode cX0_seatNext 125 = .ok (.iadd, 1) := by decide +kernel
theorem dX0_seatNext_126 : decode cX0_seatNext 126 = .ok (.iconst 1, 1) := by decide +kernel
theorem dX0_seatNext_127 : decode cX0_seatNext 127 = .ok (.iadd, 1) := by decide +kernel
theorem dX0_seatNext_128 : decode cX0_seatNext 128 = .ok (.invokestatic 28, 3) := by decide +kernel
theorem dX0_seatNext_131 : decode cX0_seatNext 131 = .ok (.iinc 6 1, 3) := by decide +kernel
theorem dX0_seatNext_134 : decode cX0_seatNext 134 = .ok (.goto (-88), 3) := by decide +kernel
theorem dX0_seatNext_137 : decode cX0_seatNext 137 = .ok (.return_, 1) := by decide +kernel
theorem dX1_become_0 : decode cX1_become 0 = .ok (.aload_n 1, 1) := by decide +kernel
theorem dX1_become_1 : decode cX1_become 1 = .ok (.ifnonnull 4, 3) := by decide +kernel
theorem dX1_become_4 : decode cX1_become 4 = .ok (.return_, 1) := by decide +kernel
theorem dX1_become_5 : decode cX1_become 5 = .ok (.aload_n 0, 1) := by decide +kernel
theorem dX1_become_6 : decode cX1_become 6 = .ok (.aload_n 1, 1) := by decide +kernel
theorem dX1_become_7 : decode cX1_become 7 = .ok (.getfield 9, 3) := by decide +kernel
theorem dX1_become_10 : decode cX1_become 10 = .ok (.putfield 9, 3) := by decide +kernel
theorem dX1_become_13 : decode cX1_become 13 = .ok (.aload_n 0, 1) := by decide +kernel
theorem dX1_become_14 : decode cX1_become 14 = .ok (.aload_n 1, 1) := by decide +kernel
theorem dX1_become_15 : decode cX1_become 15 = .ok (.getfield 15, 3) := by decide +kernel
theorem dX1_become_18 : decode cX1_become 18 = .ok (.putfield 15, 3) := by decide +kernel
theorem dX1_become_21 : decode cX1_become 21 = .ok (.aload_n 0, 1) := by decide +kernel
theorem dX1_become_22 : decode cX1_become 22 = .ok (.aload_n 1, 1) := by decide +kernel
theorem dX1_become_23 : decode cX1_become 23 = .ok (.getfield 18, 3) := by decide +kernel
theorem dX1_become_26 : decode cX1_become 26 = .ok (.putfield 18, 3) := by decide +kernel
theorem dX1_become_29 : decode cX1_become 29 = .ok (.aload_n 0, 1) := by decide +kernel
theorem dX1_become_30 : decode cX1_become 30 = .ok (.aload_n 1, 1) := by decide +kernel
theorem dX1_become_31 : decode cX1_become 31 = .ok (.getfield 21, 3) := by decide +kernel
theorem dX1_become_34 : decode cX1_become 34 = .ok (.putfield 21, 3) := by decide +kernel
theorem dX1_become_37 : decode cX1_become 37 = .ok (.aload_n 0, 1) := by decide +kernel
theorem dX1_become_38 : decode cX1_become 38 = .ok (.aload_n 1, 1) := by decide +kernel
theorem dX1_become_39 : decode cX1_become 39 = .ok (.getfield 24, 3) := by decide +kernel
theorem dX1_become_42 : decode cX1_become 42 = .ok (.putfield 24, 3) := by decide +kernel
theorem dX1_become_45 : decode cX1_become 45 = .ok (.aload_n 0, 1) := by decide +kernel
theorem dX1_become_46 : decode cX1_become 46 = .ok (.aload_n 1, 1) := by decide +kernel
theorem dX1_become_47 : decode cX1_become 47 = .ok (.getfield 27, 3) := by decide +kernel
theorem dX1_become_50 : decode cX1_become 50 = .ok (.putfield 27, 3) := by decide +kernel
theorem dX1_become_53 : decode cX1_become 53 = .ok (.return_, 1) := by decide +kernel
theorem dX1_growth_0 : decode cX1_growth 0 = .ok (.aload_n 0, 1) := by decide +kernel
theorem dX1_growth_1 : decode cX1_growth 1 = .ok (.getfield 9, 3) := by decide +kernel
theorem dX1_growth_4 : decode cX1_growth 4 = .ok (.tableswitch 100 1 5 #[36, 40, 47, 58, 78], 36) := by decide +kernel
theorem dX1_growth_40 : decode cX1_growth 40 = .ok (.iload_n 2, 1) := by decide +kernel
theorem dX1_growth_41 : decode cX1_growth 41 = .ok (.iconst 2, 1) := by decide +kernel
theorem dX1_growth_42 : decode cX1_growth 42 = .ok (.idiv, 1) := by decide +kernel
theorem dX1_growth_43 : decode cX1_growth 43 = .ok (.ireturn, 1) := by decide +kernel
theorem dX1_growth_44 : decode cX1_growth 44 = .ok (.aload_n 0, 1) := by decide +kernel
theorem dX1_growth_45 : decode cX1_growth 45 = .ok (.iload_n 1, 1) := by decide +kernel
theorem dX1_growth_46 : decode cX1_growth 46 = .ok (.iload_n 2, 1) := by decide +kernel
theorem dX1_growth_47 : decode cX1_growth 47 = .ok (.invokevirtual 31, 3) := by decide +kernel
theorem dX1_growth_50 : decode cX1_growth 50 = .ok (.ireturn, 1) := by decide +kernel
theorem dX1_growth_51 : decode cX1_growth 51 = .ok (.iload_n 2, 1) := by decide +kernel
theorem dX1_growth_52 : decode cX1_growth 52 = .ok (.iconst 2, 1) := by decide +kernel
theorem dX1_growth_53 : decode cX1_growth 53 = .ok (.idiv, 1) := by decide +kernel
theorem dX1_growth_54 : decode cX1_growth 54 = .ok (.aload_n 0, 1) := by decide +kernel
theorem dX1_growth_55 : decode cX1_growth 55 = .ok (.getfield 15, 3) := by decide +kernel
theorem dX1_growth_58 : decode cX1_growth 58 = .ok (.iconst 3, 1) := by decide +kernel
theorem dX1_growth_59 : decode cX1_growth 59 = .ok (.idiv, 1) := by decide +kernel
theorem dX1_growth_60 : decode cX1_growth 60 = .ok (.iadd, 1) := by decide +kernel
theorem dX1_growth_61 : decode cX1_growth 61 = .ok (.ireturn, 1) := by decide +kernel
theorem dX1_growth_62 : decode cX1_growth 62 = .ok (.iload_n 1, 1) := by decide +kernel
theorem dX1_growth_63 : decode cX1_growth 63 = .ok (.iconst 4, 1) := by decide +kernel
theorem dX1_growth_64 : decode cX1_growth 64 = .ok (.irem, 1) := by decide +kernel
theorem dX1_growth_65 : decode cX1_growth 65 = .ok (.iconst 3, 1) := by decide +kernel
theorem dX1_growth_66 : decode cX1_growth 66 = .ok (.if_icmp .ne 7, 3) := by decide +kernel
theorem dX1_growth_69 : decode cX1_growth 69 = .ok (.iconst 0, 1) := by decide +kernel
theorem dX1_growth_70 : decode cX1_growth 70 = .ok (.goto 11, 3) := by decide +kernel
theorem dX1_growth_73 : decode cX1_growth 73 = .ok (.aload_n 0, 1) := by decide +kernel
theorem dX1_growth_74 : decode cX1_growth 74 = .ok (.iload_n 1, 1) := by decide +kernel
theorem dX1_growth_75 : decode cX1_growth 75 = .ok (.iload_n 2, 1) := by decide +kernel
theorem dX1_growth_76 : decode cX1_growth 76 = .ok (.invokevirtual 31, 3) := by decide +kernel
theorem dX1_growth_79 : decode cX1_growth 79 = .ok (.iconst 2, 1) := by decide +kernel
theorem dX1_growth_80 : decode cX1_growth 80 = .ok (.iadd, 1) := by decide +kernel
theorem dX1_growth_81 : decode cX1_growth 81 = .ok (.ireturn, 1) := by decide +kernel
theorem dX1_growth_82 : decode cX1_growth 82 = .ok (.iload_n 1, 1) := by decide +kernel
theorem dX1_growth_83 : decode cX1_growth 83 = .ok (.invokestatic 35, 3) := by decide +kernel
theorem dX1_growth_86 : decode cX1_growth 86 = .ok (.ifCond .eq 9, 3) := by decide +kernel
theorem dX1_growth_89 : decode cX1_growth 89 = .ok (.iload_n 2, 1) := by decide +kernel
theorem dX1_growth_90 : decode cX1_growth 90 = .ok (.iconst 3, 1) := by decide +kernel
theorem dX1_growth_91 : decode cX1_growth 91 = .ok (.idiv, 1) := by decide +kernel
theorem dX1_growth_92 : decode cX1_growth 92 = .ok (.goto 11, 3) := by decide +kernel
theorem dX1_growth_95 : decode cX1_growth 95 = .ok (.iload_n 2, 1) := by decide +kernel
theorem dX1_growth_96 : decode cX1_growth 96 = .ok (.aload_n 0, 1) := by decide +kernel
theorem dX1_growth_97 : decode cX1_growth 97 = .ok (.getfield 15, 3) := by decide +kernel
theorem dX1_growth_100 : decode cX1_growth 100 = .ok (.iconst 2, 1) := by decide +kernel
theorem dX1_growth_101 : decode cX1_growth 101 = .ok (.idiv, 1) := by decide +kernel
theorem dX1_growth_102 : decode cX1_growth 102 = .ok (.iadd, 1) := by decide +kernel
theorem dX1_growth_103 : decode cX1_growth 103 = .ok (.ireturn, 1) := by decide +kernel
theorem dX1_growth_104 : decode cX1_growth 104 = .ok (.iload_n 2, 1) := by decide +kernel
theorem dX1_growth_105 : decode cX1_growth 105 = .ok (.ireturn, 1) := by decide +kernel
theorem dX1_growthOfYoung_0 : decode cX1_growthOfYoung 0 = .ok (.iload_n 1, 1) := by decide +kernel
theorem dX1_growthOfYoung_1 : decode cX1_growthOfYoung 1 = .ok (.iconst 2, 1) := by decide +kernel
theorem dX1_growthOfYoung_2 : decode cX1_growthOfYoung 2 = .ok (.aload_n 0, 1) := by decide +kernel
theorem dX1_growthOfYoung_3 : decode cX1_growthOfYoung 3 = .ok (.getfield 15, 3) := by decide +kernel
theorem dX1_growthOfYoung_6 : decode cX1_growthOfYoung 6 = .ok (.imul, 1) := by decide +kernel
theorem dX1_growthOfYoung_7 : decode cX1_growthOfYoung 7 = .ok (.if_icmp .ge 7, 3) := by decide +kernel
theorem dX1_growthOfYoung_10 : decode cX1_growthOfYoung 10 = .ok (.iconst 0, 1) := by decide +kernel
theorem dX1_growthOfYoung_11 : decode cX1_growthOfYoung 11 = .ok (.goto 6, 3) := by decide +kernel
theorem dX1_growthOfYoung_14 : decode cX1_growthOfYoung 14 = .ok (.iload_n 2, 1) := by decide +kernel
theorem dX1_growthOfYoung_15 : decode cX1_growthOfYoung 15 = .ok (.iconst 1, 1) := by decide +kernel
theorem dX1_growthOfYoung_16 : decode cX1_growthOfYoung 16 = .ok (.iadd, 1) := by decide +kernel
theorem dX1_growthOfYoung_17 : decode cX1_growthOfYoung 17 = .ok (.ireturn, 1) := by decide +kernel
theorem dX1_isWinter_0 : decode cX1_isWinter 0 = .ok (.iload_n 0, 1) := by decide +kernel
theorem dX1_isWinter_1 : decode cX1_isWinter 1 = .ok (.bipush 52, 2) := by decide +kernel
theorem dX1_isWinter_3 : decode cX1_isWinter 3 = .ok (.irem, 1) := by decide +kernel
theorem dX1_isWinter_4 : decode cX1_isWinter 4 = .ok (.bipush 10, 2) := by decide +kernel
theorem dX1_isWinter_6 : decode cX1_isWinter 6 = .ok (.if_icmp .lt 12, 3) := by decide +kernel
theorem dX1_isWinter_9 : decode cX1_isWinter 9 = .ok (.iload_n 0, 1) := by decide +kernel
theorem dX1_isWinter_10 : decode cX1_isWinter 10 = .ok (.bipush 52, 2) := by decide +kernel
theorem dX1_isWinter_12 : decode cX1_isWinter 12 = .ok (.irem, 1) := by decide +kernel
theorem dX1_isWinter_13 : decode cX1_isWinter 13 = .ok (.bipush 42, 2) := by decide +kernel
theorem dX1_isWinter_15 : decode cX1_isWinter 15 = .ok (.if_icmp .le 7, 3) := by decide +kernel
theorem dX1_isWinter_18 : decode cX1_isWinter 18 = .ok (.iconst 1, 1) := by decide +kernel
theorem dX1_isWinter_19 : decode cX1_isWinter 19 = .ok (.goto 4, 3) := by decide +kernel
theorem dX1_isWinter_22 : decode cX1_isWinter 22 = .ok (.iconst 0, 1) := by decide +kernel
theorem dX1_isWinter_23 : decode cX1_isWinter 23 = .ok (.ireturn, 1) := by decide +kernel
theorem dX1_counts_0 : decode cX1_counts 0 = .ok (.aload_n 0, 1) := by decide +kernel
theorem dX1_counts_1 : decode cX1_counts 1 = .ok (.getfield 9, 3) := by decide +kernel
theorem dX1_counts_4 : decode cX1_counts 4 = .ok (.tableswitch 66 1 4 #[32, 66, 39, 46], 32) := by decide +kernel
theorem dX1_counts_36 : decode cX1_counts 36 = .ok (.iconst 2, 1) := by decide +kernel
theorem dX1_counts_37 : decode cX1_counts 37 = .ok (.aload_n 0, 1) := by decide +kernel
theorem dX1_counts_38 : decode cX1_counts 38 = .ok (.getfield 18, 3) := by decide +kernel
theorem dX1_counts_41 : decode cX1_counts 41 = .ok (.imul, 1) := by decide +kernel
theorem dX1_counts_42 : decode cX1_counts 42 = .ok (.ireturn, 1) := by decide +kernel
theorem dX1_counts_43 : decode cX1_counts 43 = .ok (.iconst 2, 1) := by decide +kernel
theorem dX1_counts_44 : decode cX1_counts 44 = .ok (.aload_n 0, 1) := by decide +kernel
theorem dX1_counts_45 : decode cX1_counts 45 = .ok (.getfield 18, 3) := by decide +kernel
theorem dX1_counts_48 : decode cX1_counts 48 = .ok (.imul, 1) := by decide +kernel
theorem dX1_counts_49 : decode cX1_counts 49 = .ok (.ireturn, 1) := by decide +kernel
theorem dX1_counts_50 : decode cX1_counts 50 = .ok (.iconst 0, 1) := by decide +kernel
theorem dX1_counts_51 : decode cX1_counts 51 = .ok (.aload_n 0, 1) := by decide +kernel
theorem dX1_counts_52 : decode cX1_counts 52 = .ok (.getfield 18, 3) := by decide +kernel
theorem dX1_counts_55 : decode cX1_counts 55 = .ok (.bipush 9, 2) := by decide +kernel
theorem dX1_counts_57 : decode cX1_counts 57 = .ok (.aload_n 0, 1) := by decide +kernel
theorem dX1_counts_58 : decode cX1_counts 58 = .ok (.getfield 15, 3) := by decide +kernel
theorem dX1_counts_61 : decode cX1_counts 61 = .ok (.isub, 1) := by decide +kernel
theorem dX1_counts_62 : decode cX1_counts 62 = .ok (.imul, 1) := by decide +kernel
theorem dX1_counts_63 : decode cX1_counts 63 = .ok (.bipush 10, 2) := by decide +kernel
theorem dX1_counts_65 : decode cX1_counts 65 = .ok (.idiv, 1) := by decide +kernel
theorem dX1_counts_66 : decode cX1_counts 66 = .ok (.invokestatic 39, 3) := by decide +kernel
theorem dX1_counts_69 : decode cX1_counts 69 = .ok (.ireturn, 1) := by decide +kernel
theorem dX1_counts_70 : decode cX1_counts 70 = .ok (.aload_n 0, 1) := by decide +kernel
theorem dX1_counts_71 : decode cX1_counts 71 = .ok (.getfield 18, 3) := by decide +kernel
theorem dX1_counts_74 : decode cX1_counts 74 = .ok (.ireturn, 1) := by decide +kernel
theorem dX1_grace_0 : decode cX1_grace 0 = .ok (.aload_n 0, 1) := by decide +kernel
theorem dX1_grace_1 : decode cX1_grace 1 = .ok (.getfield 9, 3) := by decide +kernel
theorem dX1_grace_4 : decode cX1_grace 4 = .ok (.tableswitch 34 2 4 #[28, 32, 30], 28) := by decide +kernel
theorem dX1_grace_32 : decode cX1_grace 32 = .ok (.iconst 1, 1) := by decide +kernel
theorem dX1_grace_33 : decode cX1_grace 33 = .ok (.ireturn, 1) := by decide +kernel
theorem dX1_grace_34 : decode cX1_grace 34 = .ok (.iconst 1, 1) := by decide +kernel
theorem dX1_grace_35 : decode cX1_grace 35 = .ok (.ireturn, 1) := by decide +kernel
theorem dX1_grace_36 : decode cX1_grace 36 = .ok (.iconst 4, 1) := by decide +kernel
theorem dX1_grace_37 : decode cX1_grace 37 = .ok (.ireturn, 1) := by decide +kernel
theorem dX1_grace_38 : decode cX1_grace 38 = .ok (.iconst 0, 1) := by decide +kernel
theorem dX1_grace_39 : decode cX1_grace 39 = .ok (.ireturn, 1) := by decide +kernel
theorem dX1_isOne_0 : decode cX1_isOne 0 = .ok (.iload_n 1, 1) := by decide +kernel
theorem dX1_isOne_1 : decode cX1_isOne 1 = .ok (.ifCond .eq 37, 3) := by decide +kernel
theorem dX1_isOne_4 : decode cX1_isOne 4 = .ok (.iload_n 1, 1) := by decide +kernel
theorem dX1_isOne_5 : decode cX1_isOne 5 = .ok (.aload_n 0, 1) := by decide +kernel
theorem dX1_isOne_6 : decode cX1_isOne 6 = .ok (.getfield 9, 3) := by decide +kernel
theorem dX1_isOne_9 : decode cX1_isOne 9 = .ok (.if_icmp .eq 29, 3) := by decide +kernel
theorem dX1_isOne_12 : decode cX1_isOne 12 = .ok (.iload_n 1, 1) := by decide +kernel
theorem dX1_isOne_13 : decode cX1_isOne 13 = .ok (.iconst 1, 1) := by decide +kernel
theorem dX1_isOne_14 : decode cX1_isOne 14 = .ok (.if_icmp .ne 11, 3) := by decide +kernel
theorem dX1_isOne_17 : decode cX1_isOne 17 = .ok (.aload_n 0, 1) := by decide +kernel
theorem dX1_isOne_18 : decode cX1_isOne 18 = .ok (.getfield 9, 3) := by decide +kernel
theorem dX1_isOne_21 : decode cX1_isOne 21 = .ok (.iconst 3, 1) := by decide +kernel
theorem dX1_isOne_22 : decode cX1_isOne 22 = .ok (.if_icmp .eq 16, 3) := by decide +kernel
theorem dX1_isOne_25 : decode cX1_isOne 25 = .ok (.iload_n 1, 1) := by decide +kernel
theorem dX1_isOne_26 : decode cX1_isOne 26 = .ok (.iconst 2, 1) := by decide +kernel
theorem dX1_isOne_27 : decode cX1_isOne 27 = .ok (.if_icmp .ne 15, 3) := by decide +kernel
theorem dX1_isOne_30 : decode cX1_isOne 30 = .ok (.aload_n 0, 1) := by decide +kernel
theorem dX1_isOne_31 : decode cX1_isOne 31 = .ok (.getfield 9, 3) := by decide +kernel
theorem dX1_isOne_34 : decode cX1_isOne 34 = .ok (.iconst 4, 1) := by decide +kernel
theorem dX1_isOne_35 : decode cX1_isOne 35 = .ok (.if_icmp .ne 7, 3) := by decide +kernel
theorem dX1_isOne_38 : decode cX1_isOne 38 = .ok (.iconst 1, 1) := by decide +kernel
theorem dX1_isOne_39 : decode cX1_isOne 39 = .ok (.goto 4, 3) := by decide +kernel
theorem dX1_isOne_42 : decode cX1_isOne 42 = .ok (.iconst 0, 1) := by decide +kernel
theorem dX1_isOne_43 : decode cX1_isOne 43 = .ok (.ireturn, 1) := by decide +kernel
theorem dX1_cut_0 : decode cX1_cut 0 = .ok (.aload_n 0, 1) := by decide +kernel
theorem dX1_cut_1 : decode cX1_cut 1 = .ok (.iconst 0, 1) := by decide +kernel
theorem dX1_cut_2 : decode cX1_cut 2 = .ok (.aload_n 0, 1) := by decide +kernel
theorem dX1_cut_3 : decode cX1_cut 3 = .ok (.getfield 18, 3) := by decide +kernel
theorem dX1_cut_6 : decode cX1_cut 6 = .ok (.iload_n 1, 1) := by decide +kernel
theorem dX1_cut_7 : decode cX1_cut 7 = .ok (.isub, 1) := by decide +kernel
theorem dX1_cut_8 : decode cX1_cut 8 = .ok (.invokestatic 39, 3) := by decide +kernel
theorem dX1_cut_11 : decode cX1_cut 11 = .ok (.putfield 18, 3) := by decide +kernel
theorem dX1_cut_14 : decode cX1_cut 14 = .ok (.return_, 1) := by decide +kernel
theorem dX2_add_0 : decode cX2_add 0 = .ok (.aload_n 0, 1) := by decide +kernel
theorem dX2_add_1 : decode cX2_add 1 = .ok (.getfield 27, 3) := by decide +kernel
theorem dX2_add_4 : decode cX2_add 4 = .ok (.ifCond .lt 35, 3) := by decide +kernel
theorem dX2_add_7 : decode cX2_add 7 = .ok (.aload_n 0, 1) := by decide +kernel
theorem dX2_add_8 : decode cX2_add 8 = .ok (.getfield 27, 3) := by decide +kernel
theorem dX2_add_11 : decode cX2_add 11 = .ok (.aload_n 0, 1) := by decide +kernel
theorem dX2_add_12 : decode cX2_add 12 = .ok (.getfield 9, 3) := by decide +kernel
theorem dX2_add_15 : decode cX2_add 15 = .ok (.arraylength, 1) := by decide +kernel
theorem dX2_add_16 : decode cX2_add 16 = .ok (.if_icmp .ge 23, 3) := by decide +kernel
theorem dX2_add_19 : decode cX2_add 19 = .ok (.aload_n 0, 1) := by decide +kernel
theorem dX2_add_20 : decode cX2_add 20 = .ok (.getfield 9, 3) := by decide +kernel
theorem dX2_add_23 : decode cX2_add 23 = .ok (.aload_n 0, 1) := by decide +kernel
theorem dX2_add_24 : decode cX2_add 24 = .ok (.getfield 27, 3) := by decide +kernel
theorem dX2_add_27 : decode cX2_add 27 = .ok (.iload_n 1, 1) := by decide +kernel
theorem dX2_add_28 : decode cX2_add 28 = .ok (.iastore, 1) := by decide +kernel
theorem dX2_add_29 : decode cX2_add 29 = .ok (.aload_n 0, 1) := by decide +kernel
theorem dX2_add_30 : decode cX2_add 30 = .ok (.dup, 1) := by decide +kernel
theorem dX2_add_31 : decode cX2_add 31 = .ok (.getfield 27, 3) := by decide +kernel
theorem dX2_add_34 : decode cX2_add 34 = .ok (.iconst 1, 1) := by decide +kernel
theorem dX2_add_35 : decode cX2_add 35 = .ok (.iadd, 1) := by decide +kernel
theorem dX2_add_36 : decode cX2_add 36 = .ok (.putfield 27, 3) := by decide +kernel
theorem dX2_add_39 : decode cX2_add 39 = .ok (.return_, 1) := by decide +kernel
theorem dX2_read_0 : decode cX2_read 0 = .ok (.aload_n 0, 1) := by decide +kernel
theorem dX2_read_1 : decode cX2_read 1 = .ok (.invokevirtual 37, 3) := by decide +kernel
theorem dX2_read_4 : decode cX2_read 4 = .ok (.aload_n 0, 1) := by decide +kernel
theorem dX2_read_5 : decode cX2_read 5 = .ok (.iconst 0, 1) := by decide +kernel
theorem dX2_read_6 : decode cX2_read 6 = .ok (.putfield 40, 3) := by decide +kernel
theorem dX2_read_9 : decode cX2_read 9 = .ok (.aload_n 0, 1) := by decide +kernel
theorem dX2_read_10 : decode cX2_read 10 = .ok (.iconst 0, 1) := by decide +kernel
theorem dX2_read_11 : decode cX2_read 11 = .ok (.putfield 43, 3) := by decide +kernel
theorem dX2_read_14 : decode cX2_read 14 = .ok (.aload_n 0, 1) := by decide +kernel
theorem dX2_read_15 : decode cX2_read 15 = .ok (.iconst 0, 1) := by decide +kernel
theorem dX2_read_16 : decode cX2_read 16 = .ok (.bipush (-20), 2) := by decide +kernel
theorem dX2_read_18 : decode cX2_read 18 = .ok (.invokevirtual 46, 3) := by decide +kernel
theorem dX2_read_21 : decode cX2_read 21 = .ok (.ifCond .eq 36, 3) := by decide +kernel
theorem dX2_read_24 : decode cX2_read 24 = .ok (.aload_n 0, 1) := by decide +kernel
theorem dX2_read_25 : decode cX2_read 25 = .ok (.iconst 1, 1) := by decide +kernel
theorem dX2_read_26 : decode cX2_read 26 = .ok (.bipush (-21), 2) := by decide +kernel
theorem dX2_read_28 : decode cX2_read 28 = .ok (.invokevirtual 46, 3) := by decide +kernel
theorem dX2_read_31 : decode cX2_read 31 = .ok (.ifCond .eq 26, 3) := by decide +kernel
theorem dX2_read_34 : decode cX2_read 34 = .ok (.aload_n 0, 1) := by decide +kernel
theorem dX2_read_35 : decode cX2_read 35 = .ok (.iconst 2, 1) := by decide +kernel
theorem dX2_read_36 : decode cX2_read 36 = .ok (.bipush (-22), 2) := by decide +kernel
theorem dX2_read_38 : decode cX2_read 38 = .ok (.invokevirtual 46, 3) := by decide +kernel
theorem dX2_read_41 : decode cX2_read 41 = .ok (.ifCond .eq 16, 3) := by decide +kernel
theorem dX2_read_44 : decode cX2_read 44 = .ok (.aload_n 0, 1) := by decide +kernel
theorem dX2_read_45 : decode cX2_read 45 = .ok (.invokevirtual 50, 3) := by decide +kernel
theorem dX2_read_48 : decode cX2_read 48 = .ok (.bipush (-41), 2) := by decide +kernel
theorem dX2_read_50 : decode cX2_read 50 = .ok (.if_icmp .ne 7, 3) := by decide +kernel
theorem dX2_read_53 : decode cX2_read 53 = .ok (.iconst 1, 1) := by decide +kernel
theorem dX2_read_54 : decode cX2_read 54 = .ok (.goto 4, 3) := by decide +kernel
theorem dX2_read_57 : decode cX2_read 57 = .ok (.iconst 0, 1) := by decide +kernel
theorem dX2_read_58 : decode cX2_read 58 = .ok (.istore_n 1, 1) := by decide +kernel
theorem dX2_read_59 : decode cX2_read 59 = .ok (.iload_n 1, 1) := by decide +kernel
theorem dX2_read_60 : decode cX2_read 60 = .ok (.ifCond .eq 5, 3) := by decide +kernel
theorem dX2_read_63 : decode cX2_read 63 = .ok (.iconst (-1), 1) := by decide +kernel
theorem dX2_read_64 : decode cX2_read 64 = .ok (.ireturn, 1) := by decide +kernel
theorem dX2_read_65 : decode cX2_read 65 = .ok (.aload_n 0, 1) := by decide +kernel
theorem dX2_read_66 : decode cX2_read 66 = .ok (.getfield 40, 3) := by decide +kernel
theorem dX2_read_69 : decode cX2_read 69 = .ok (.ifCond .lt 27, 3) := by decide +kernel
theorem dX2_read_72 : decode cX2_read 72 = .ok (.aload_n 0, 1) := by decide +kernel
theorem dX2_read_73 : decode cX2_read 73 = .ok (.getfield 40, 3) := by decide +kernel
theorem dX2_read_76 : decode cX2_read 76 = .ok (.aload_n 0, 1) := by decide +kernel
theorem dX2_read_77 : decode cX2_read 77 = .ok (.getfield 18, 3) := by decide +kernel
theorem dX2_read_80 : decode cX2_read 80 = .ok (.arraylength, 1) := by decide +kernel
theorem dX2_read_81 : decode cX2_read 81 = .ok (.if_icmp .ge 15, 3) := by decide +kernel
theorem dX2_read_84 : decode cX2_read 84 = .ok (.aload_n 0, 1) := by decide +kernel
theorem dX2_read_85 : decode cX2_read 85 = .ok (.getfield 18, 3) := by decide +kernel
theorem dX2_read_88 : decode cX2_read 88 = .ok (.aload_n 0, 1) := by decide +kernel
theorem dX2_read_89 : decode cX2_read 89 = .ok (.getfield 40, 3) := by decide +kernel
theorem dX2_read_92 : decode cX2_read 92 = .ok (.iaload, 1) := by decide +kernel
theorem dX2_read_93 : decode cX2_read 93 = .ok (.goto 7, 3) := by decide +kernel
theorem dX2_read_96 : decode cX2_read 96 = .ok (.aload_n 0, 1) := by decide +kernel
theorem dX2_read_97 : decode cX2_read 97 = .ok (.getfield 27, 3) := by decide +kernel
theorem dX2_read_100 : decode cX2_read 100 = .ok (.ireturn, 1) := by decide +kernel
theorem dX2_splitTape_0 : decode cX2_splitTape 0 = .ok (.aload_n 0, 1) := by decide +kernel
theorem dX2_splitTape_1 : decode cX2_splitTape 1 = .ok (.iconst 0, 1) := by decide +kernel
theorem dX2_splitTape_2 : decode cX2_splitTape 2 = .ok (.putfield 54, 3) := by decide +kernel
theorem dX2_splitTape_5 : decode cX2_splitTape 5 = .ok (.iconst 0, 1) := by decide +kernel
theorem dX2_splitTape_6 : decode cX2_splitTape 6 = .ok (.istore_n 1, 1) := by decide +kernel
theorem dX2_splitTape_7 : decode cX2_splitTape 7 = .ok (.iconst 0, 1) := by decide +kernel
theorem dX2_splitTape_8 : decode cX2_splitTape 8 = .ok (.istore_n 2, 1) := by decide +kernel
theorem dX2_splitTape_9 : decode cX2_splitTape 9 = .ok (.iload_n 2, 1) := by decide +kernel
theorem dX2_splitTape_10 : decode cX2_splitTape 10 = .ok (.sipush 160, 3) := by decide +kernel
theorem dX2_splitTape_13 : decode cX2_splitTape 13 = .ok (.if_icmp .ge 110, 3) := by decide +kernel
theorem dX2_splitTape_16 : decode cX2_splitTape 16 = .ok (.iload_n 1, 1) := by decide +kernel
theorem dX2_splitTape_17 : decode cX2_splitTape 17 = .ok (.aload_n 0, 1) := by decide +kernel
theorem dX2_splitTape_18 : decode cX2_splitTape 18 = .ok (.getfield 27, 3) := by decide +kernel
theorem dX2_splitTape_21 : decode cX2_splitTape 21 = .ok (.if_icmp .ge 102, 3) := by decide +kernel
theorem dX2_splitTape_24 : decode cX2_splitTape 24 = .ok (.aload_n 0, 1) := by decide +kernel
theorem dX2_splitTape_25 : decode cX2_splitTape 25 = .ok (.iload_n 1, 1) := by decide +kernel
theorem dX2_splitTape_26 : decode cX2_splitTape 26 = .ok (.invokevirtual 57, 3) := by decide +kernel
theorem dX2_splitTape_29 : decode cX2_splitTape 29 = .ok (.istore_n 3, 1) := by decide +kernel
theorem dX2_splitTape_30 : decode cX2_splitTape 30 = .ok (.iload_n 1, 1) := by decide +kernel
theorem dX2_splitTape_31 : decode cX2_splitTape 31 = .ok (.iconst 1, 1) := by decide +kernel
theorem dX2_splitTape_32 : decode cX2_splitTape 32 = .ok (.iadd, 1) := by decide +kernel
theorem dX2_splitTape_33 : decode cX2_splitTape 33 = .ok (.istore 4, 2) := by decide +kernel
theorem dX2_splitTape_35 : decode cX2_splitTape 35 = .ok (.iload_n 3, 1) := by decide +kernel
theorem dX2_splitTape_36 : decode cX2_splitTape 36 = .ok (.invokestatic 61, 3) := by decide +kernel
theorem dX2_splitTape_39 : decode cX2_splitTape 39 = .ok (.ifCond .eq 25, 3) := by decide +kernel
theorem dX2_splitTape_42 : decode cX2_splitTape 42 = .ok (.aload_n 0, 1) := by decide +kernel
theorem dX2_splitTape_43 : decode cX2_splitTape 43 = .ok (.iload_n 1, 1) := by decide +kernel
theorem dX2_splitTape_44 : decode cX2_splitTape 44 = .ok (.invokevirtual 65, 3) := by decide +kernel
theorem dX2_splitTape_47 : decode cX2_splitTape 47 = .ok (.istore 4, 2) := by decide +kernel
theorem dX2_splitTape_49 : decode cX2_splitTape 49 = .ok (.aload_n 0, 1) := by decide +kernel
theorem dX2_splitTape_50 : decode cX2_splitTape 50 = .ok (.aload_n 0, 1) := by decide +kernel
theorem dX2_splitTape_51 : decode cX2_splitTape 51 = .ok (.iload_n 1, 1) := by decide +kernel
theorem dX2_splitTape_52 : decode cX2_splitTape 52 = .ok (.iload 4, 2) := by decide +kernel
theorem dX2_splitTape_54 : decode cX2_splitTape 54 = .ok (.invokevirtual 68, 3) := by decide +kernel
theorem dX2_splitTape_57 : decode cX2_splitTape 57 = .ok (.iload_n 1, 1) := by decide +kernel
theorem dX2_splitTape_58 : decode cX2_splitTape 58 = .ok (.invokevirtual 72, 3) := by decide +kernel
theorem dX2_splitTape_61 : decode cX2_splitTape 61 = .ok (.goto 53, 3) := by decide +kernel
theorem dX2_splitTape_64 : decode cX2_splitTape 64 = .ok (.iload_n 3, 1) := by decide +kernel
theorem dX2_splitTape_65 : decode cX2_splitTape 65 = .ok (.invokestatic 76, 3) := by decide +kernel
theorem dX2_splitTape_68 : decode cX2_splitTape 68 = .ok (.ifCond .eq 25, 3) := by decide +kernel
theorem dX2_splitTape_71 : decode cX2_splitTape 71 = .ok (.aload_n 0, 1) := by decide +kernel
theorem dX2_splitTape_72 : decode cX2_splitTape 72 = .ok (.iload_n 1, 1) := by decide +kernel
theorem dX2_splitTape_73 : decode cX2_splitTape 73 = .ok (.invokevirtual 79, 3) := by decide +kernel
theorem dX2_splitTape_76 : decode cX2_splitTape 76 = .ok (.istore 4, 2) := by decide +kernel
theorem dX2_splitTape_78 : decode cX2_splitTape 78 = .ok (.aload_n 0, 1) := by decide +kernel
theorem dX2_splitTape_79 : decode cX2_splitTape 79 = .ok (.aload_n 0, 1) := by decide +kernel
theorem dX2_splitTape_80 : decode cX2_splitTape 80 = .ok (.iload_n 1, 1) := by decide +kernel
theorem dX2_splitTape_81 : decode cX2_splitTape 81 = .ok (.iload 4, 2) := by decide +kernel
theorem dX2_splitTape_83 : decode cX2_splitTape 83 = .ok (.invokevirtual 82, 3) := by decide +kernel
theorem dX2_splitTape_86 : decode cX2_splitTape 86 = .ok (.iload_n 1, 1) := by decide +kernel
theorem dX2_splitTape_87 : decode cX2_splitTape 87 = .ok (.invokevirtual 72, 3) := by decide +kernel
theorem dX2_splitTape_90 : decode cX2_splitTape 90 = .ok (.goto 24, 3) := by decide +kernel
theorem dX2_splitTape_93 : decode cX2_splitTape 93 = .ok (.iload_n 3, 1) := by decide +kernel
theorem dX2_splitTape_94 : decode cX2_splitTape 94 = .ok (.bipush 32, 2) := by decide +kernel
theorem dX2_splitTape_96 : decode cX2_splitTape 96 = .ok (.if_icmp .eq 18, 3) := by decide +kernel
theorem dX2_splitTape_99 : decode cX2_splitTape 99 = .ok (.iload_n 3, 1) := by decide +kernel
theorem dX2_splitTape_100 : decode cX2_splitTape 100 = .ok (.bipush 10, 2) := by decide +kernel
theorem dX2_splitTape_102 : decode cX2_splitTape 102 = .ok (.if_icmp .eq 12, 3) := by decide +kernel
theorem dX2_splitTape_105 : decode cX2_splitTape 105 = .ok (.aload_n 0, 1) := by decide +kernel
theorem dX2_splitTape_106 : decode cX2_splitTape 106 = .ok (.iload_n 3, 1) := by decide +kernel
theorem dX2_splitTape_107 : decode cX2_splitTape 107 = .ok (.invokestatic 85, 3) := by decide +kernel
theorem dX2_splitTape_110 : decode cX2_splitTape 110 = .ok (.iload_n 1, 1) := by decide +kernel
theorem dX2_splitTape_111 : decode cX2_splitTape 111 = .ok (.invokevirtual 72, 3) := by decide +kernel
theorem dX2_splitTape_114 : decode cX2_splitTape 114 = .ok (.iload 4, 2) := by decide +kernel
theorem dX2_splitTape_116 : decode cX2_splitTape 116 = .ok (.istore_n 1, 1) := by decide +kernel
theorem dX2_splitTape_117 : decode cX2_splitTape 117 = .ok (.iinc 2 1, 3) := by decide +kernel
theorem dX2_splitTape_120 : decode cX2_splitTape 120 = .ok (.goto (-111), 3) := by decide +kernel
theorem dX2_splitTape_123 : decode cX2_splitTape 123 = .ok (.aload_n 0, 1) := by decide +kernel
theorem dX2_splitTape_124 : decode cX2_splitTape 124 = .ok (.bipush (-41), 2) := by decide +kernel
theorem dX2_splitTape_126 : decode cX2_splitTape 126 = .ok (.aload_n 0, 1) := by decide +kernel
theorem dX2_splitTape_127 : decode cX2_splitTape 127 = .ok (.getfield 27, 3) := by decide +kernel
theorem dX2_splitTape_130 : decode cX2_splitTape 130 = .ok (.invokevirtual 72, 3) := by decide +kernel
theorem dX2_splitTape_133 : decode cX2_splitTape 133 = .ok (.return_, 1) := by decide +kernel
theorem dX2_byteAt_0 : decode cX2_byteAt 0 = .ok (.iload_n 1, 1) := by decide +kernel
theorem dX2_byteAt_1 : decode cX2_byteAt 1 = .ok (.ifCond .lt 29, 3) := by decide +kernel
theorem dX2_byteAt_4 : decode cX2_byteAt 4 = .ok (.iload_n 1, 1) := by decide +kernel
theorem dX2_byteAt_5 : decode cX2_byteAt 5 = .ok (.aload_n 0, 1) := by decide +kernel
theorem dX2_byteAt_6 : decode cX2_byteAt 6 = .ok (.getfield 27, 3) := by decide +kernel
theorem dX2_byteAt_9 : decode cX2_byteAt 9 = .ok (.if_icmp .ge 21, 3) := by decide +kernel
theorem dX2_byteAt_12 : decode cX2_byteAt 12 = .ok (.iload_n 1, 1) := by decide +kernel
theorem dX2_byteAt_13 : decode cX2_byteAt 13 = .ok (.aload_n 0, 1) := by decide +kernel
theorem dX2_byteAt_14 : decode cX2_byteAt 14 = .ok (.getfield 9, 3) := by decide +kernel
theorem dX2_byteAt_17 : decode cX2_byteAt 17 = .ok (.arraylength, 1) := by decide +kernel
theorem dX2_byteAt_18 : decode cX2_byteAt 18 = .ok (.if_icmp .ge 12, 3) := by decide +kernel
theorem dX2_byteAt_21 : decode cX2_byteAt 21 = .ok (.aload_n 0, 1) := by decide +kernel
theorem dX2_byteAt_22 : decode cX2_byteAt 22 = .ok (.getfield 9, 3) := by decide +kernel
theorem dX2_byteAt_25 : decode cX2_byteAt 25 = .ok (.iload_n 1, 1) := by decide +kernel
theorem dX2_byteAt_26 : decode cX2_byteAt 26 = .ok (.iaload, 1) := by decide +kernel
theorem dX2_byteAt_27 : decode cX2_byteAt 27 = .ok (.goto 4, 3) := by decide +kernel
theorem dX2_byteAt_30 : decode cX2_byteAt 30 = .ok (.iconst (-1), 1) := by decide +kernel
theorem dX2_byteAt_31 : decode cX2_byteAt 31 = .ok (.ireturn, 1) := by decide +kernel
theorem dX2_isLetter_0 : decode cX2_isLetter 0 = .ok (.iload_n 0, 1) := by decide +kernel
theorem dX2_isLetter_1 : decode cX2_isLetter 1 = .ok (.bipush 97, 2) := by decide +kernel
theorem dX2_isLetter_3 : decode cX2_isLetter 3 = .ok (.if_icmp .lt 13, 3) := by decide +kernel
theorem dX2_isLetter_6 : decode cX2_isLetter 6 = .ok (.iload_n 0, 1) := by decide +kernel
theorem dX2_isLetter_7 : decode cX2_isLetter 7 = .ok (.bipush 122, 2) := by decide +kernel
theorem dX2_isLetter_9 : decode cX2_isLetter 9 = .ok (.if_icmp .gt 7, 3) := by decide +kernel
theorem dX2_isLetter_12 : decode cX2_isLetter 12 = .ok (.iconst 1, 1) := by decide +kernel
theorem dX2_isLetter_13 : decode cX2_isLetter 13 = .ok (.goto 4, 3) := by decide +kernel
theorem dX2_isLetter_16 : decode cX2_isLetter 16 = .ok (.iconst 0, 1) := by decide +kernel
theorem dX2_isLetter_17 : decode cX2_isLetter 17 = .ok (.ireturn, 1) := by decide +kernel
theorem dX2_isDigit_0 : decode cX2_isDigit 0 = .ok (.iload_n 0, 1) := by decide +kernel
theorem dX2_isDigit_1 : decode cX2_isDigit 1 = .ok (.bipush 48, 2) := by decide +kernel
theorem dX2_isDigit_3 : decode cX2_isDigit 3 = .ok (.if_icmp .lt 13, 3) := by decide +kernel
theorem dX2_isDigit_6 : decode cX2_isDigit 6 = .ok (.iload_n 0, 1) := by decide +kernel
theorem dX2_isDigit_7 : decode cX2_isDigit 7 = .ok (.bipush 57, 2) := by decide +kernel
theorem dX2_isDigit_9 : decode cX2_isDigit 9 = .ok (.if_icmp .gt 7, 3) := by decide +kernel
theorem dX2_isDigit_12 : decode cX2_isDigit 12 = .ok (.iconst 1, 1) := by decide +kernel
theorem dX2_isDigit_13 : decode cX2_isDigit 13 = .ok (.goto 4, 3) := by decide +kernel
theorem dX2_isDigit_16 : decode cX2_isDigit 16 = .ok (.iconst 0, 1) := by decide +kernel
theorem dX2_isDigit_17 : decode cX2_isDigit 17 = .ok (.ireturn, 1) := by decide +kernel
theorem dX2_endOfWord_0 : decode cX2_endOfWord 0 = .ok (.iload_n 1, 1) := by decide +kernel
theorem dX2_endOfWord_1 : decode cX2_endOfWord 1 = .ok (.istore_n 2, 1) := by decide +kernel
theorem dX2_endOfWord_2 : decode cX2_endOfWord 2 = .ok (.iconst 0, 1) := by decide +kernel
theorem dX2_endOfWord_3 : decode cX2_endOfWord 3 = .ok (.istore_n 3, 1) := by decide +kernel
theorem dX2_endOfWord_4 : decode cX2_endOfWord 4 = .ok (.iload_n 3, 1) := by decide +kernel
theorem dX2_endOfWord_5 : decode cX2_endOfWord 5 = .ok (.sipush 160, 3) := by decide +kernel
theorem dX2_endOfWord_8 : decode cX2_endOfWord 8 = .ok (.if_icmp .ge 23, 3) := by decide +kernel
theorem dX2_endOfWord_11 : decode cX2_endOfWord 11 = .ok (.aload_n 0, 1) := by decide +kernel
theorem dX2_endOfWord_12 : decode cX2_endOfWord 12 = .ok (.iload_n 2, 1) := by decide +kernel
theorem dX2_endOfWord_13 : decode cX2_endOfWord 13 = .ok (.invokevirtual 57, 3) := by decide +kernel
theorem dX2_endOfWord_16 : decode cX2_endOfWord 16 = .ok (.invokestatic 61, 3) := by decide +kernel
theorem dX2_endOfWord_19 : decode cX2_endOfWord 19 = .ok (.ifCond .eq 12, 3) := by decide +kernel
theorem dX2_endOfWord_22 : decode cX2_endOfWord 22 = .ok (.iinc 2 1, 3) := by decide +kernel
theorem dX2_endOfWord_25 : decode cX2_endOfWord 25 = .ok (.iinc 3 1, 3) := by decide +kernel
theorem dX2_endOfWord_28 : decode cX2_endOfWord 28 = .ok (.goto (-24), 3) := by decide +kernel
theorem dX2_endOfWord_31 : decode cX2_endOfWord 31 = .ok (.iload_n 2, 1) := by decide +kernel
theorem dX2_endOfWord_32 : decode cX2_endOfWord 32 = .ok (.ireturn, 1) := by decide +kernel
theorem dX2_endOfNumber_0 : decode cX2_endOfNumber 0 = .ok (.iload_n 1, 1) := by decide +kernel
theorem dX2_endOfNumber_1 : decode cX2_endOfNumber 1 = .ok (.istore_n 2, 1) := by decide +kernel
theorem dX2_endOfNumber_2 : decode cX2_endOfNumber 2 = .ok (.iconst 0, 1) := by decide +kernel
theorem dX2_endOfNumber_3 : decode cX2_endOfNumber 3 = .ok (.istore_n 3, 1) := by decide +kernel
theorem dX2_endOfNumber_4 : decode cX2_endOfNumber 4 = .ok (.iload_n 3, 1) := by decide +kernel
theorem dX2_endOfNumber_5 : decode cX2_endOfNumber 5 = .ok (.sipush 160, 3) := by decide +kernel
theorem dX2_endOfNumber_8 : decode cX2_endOfNumber 8 = .ok (.if_icmp .ge 23, 3) := by decide +kernel
theorem dX2_endOfNumber_11 : decode cX2_endOfNumber 11 = .ok (.aload_n 0, 1) := by decide +kernel
theorem dX2_endOfNumber_12 : decode cX2_endOfNumber 12 = .ok (.iload_n 2, 1) := by decide +kernel
theorem dX2_endOfNumber_13 : decode cX2_endOfNumber 13 = .ok (.invokevirtual 57, 3) := by decide +kernel
theorem dX2_endOfNumber_16 : decode cX2_endOfNumber 16 = .ok (.invokestatic 76, 3) := by decide +kernel
theorem dX2_endOfNumber_19 : decode cX2_endOfNumber 19 = .ok (.ifCond .eq 12, 3) := by decide +kernel
theorem dX2_endOfNumber_22 : decode cX2_endOfNumber 22 = .ok (.iinc 2 1, 3) := by decide +kernel
theorem dX2_endOfNumber_25 : decode cX2_endOfNumber 25 = .ok (.iinc 3 1, 3) := by decide +kernel
theorem dX2_endOfNumber_28 : decode cX2_endOfNumber 28 = .ok (.goto (-24), 3) := by decide +kernel
theorem dX2_endOfNumber_31 : decode cX2_endOfNumber 31 = .ok (.iload_n 2, 1) := by decide +kernel
theorem dX2_endOfNumber_32 : decode cX2_endOfNumber 32 = .ok (.ireturn, 1) := by decide +kernel
theorem dX2_addToken_0 : decode cX2_addToken 0 = .ok (.aload_n 0, 1) := by decide +kernel
theorem dX2_addToken_1 : decode cX2_addToken 1 = .ok (.getfield 54, 3) := by decide +kernel
theorem dX2_addToken_4 : decode cX2_addToken 4 = .ok (.ifCond .lt 57, 3) := by decide +kernel
theorem dX2_addToken_7 : decode cX2_addToken 7 = .ok (.aload_n 0, 1) := by decide +kernel
theorem dX2_addToken_8 : decode cX2_addToken 8 = .ok (.getfield 54, 3) := by decide +kernel
theorem dX2_addToken_11 : decode cX2_addToken 11 = .ok (.aload_n 0, 1) := by decide +kernel
theorem dX2_addToken_12 : decode cX2_addToken 12 = .ok (.getfield 15, 3) := by decide +kernel
theorem dX2_addToken_15 : decode cX2_addToken 15 = .ok (.arraylength, 1) := by decide +kernel
theorem dX2_addToken_16 : decode cX2_addToken 16 = .ok (.if_icmp .ge 45, 3) := by decide +kernel
theorem dX2_addToken_19 : decode cX2_addToken 19 = .ok (.aload_n 0, 1) := by decide +kernel
theorem dX2_addToken_20 : decode cX2_addToken 20 = .ok (.getfield 54, 3) := by decide +kernel
theorem dX2_addToken_23 : decode cX2_addToken 23 = .ok (.aload_n 0, 1) := by decide +kernel
theorem dX2_addToken_24 : decode cX2_addToken 24 = .ok (.getfield 18, 3) := by decide +kernel
theorem dX2_addToken_27 : decode cX2_addToken 27 = .ok (.arraylength, 1) := by decide +kernel
theorem dX2_addToken_28 : decode cX2_addToken 28 = .ok (.if_icmp .ge 33, 3) := by decide +kernel
theorem dX2_addToken_31 : decode cX2_addToken 31 = .ok (.aload_n 0, 1) := by decide +kernel
theorem dX2_addToken_32 : decode cX2_addToken 32 = .ok (.getfield 15, 3) := by decide +kernel
theorem dX2_addToken_35 : decode cX2_addToken 35 = .ok (.aload_n 0, 1) := by decide +kernel
theorem dX2_addToken_36 : decode cX2_addToken 36 = .ok (.getfield 54, 3) := by decide +kernel
theorem dX2_addToken_39 : decode cX2_addToken 39 = .ok (.iload_n 1, 1) := by decide +kernel
theorem dX2_addToken_40 : decode cX2_addToken 40 = .ok (.iastore, 1) := by decide +kernel
theorem dX2_addToken_41 : decode cX2_addToken 41 = .ok (.aload_n 0, 1) := by decide +kernel
theorem dX2_addToken_42 : decode cX2_addToken 42 = .ok (.getfield 18, 3) := by decide +kernel
theorem dX2_addToken_45 : decode cX2_addToken 45 = .ok (.aload_n 0, 1) := by decide +kernel
theorem dX2_addToken_46 : decode cX2_addToken 46 = .ok (.getfield 54, 3) := by decide +kernel
theorem dX2_addToken_49 : decode cX2_addToken 49 = .ok (.iload_n 2, 1) := by decide +kernel
theorem dX2_addToken_50 : decode cX2_addToken 50 = .ok (.iastore, 1) := by decide +kernel
theorem dX2_addToken_51 : decode cX2_addToken 51 = .ok (.aload_n 0, 1) := by decide +kernel
theorem dX2_addToken_52 : decode cX2_addToken 52 = .ok (.dup, 1) := by decide +kernel
theorem dX2_addToken_53 : decode cX2_addToken 53 = .ok (.getfield 54, 3) := by decide +kernel
theorem dX2_addToken_56 : decode cX2_addToken 56 = .ok (.iconst 1, 1) := by decide +kernel
theorem dX2_addToken_57 : decode cX2_addToken 57 = .ok (.iadd, 1) := by decide +kernel
theorem dX2_addToken_58 : decode cX2_addToken 58 = .ok (.putfield 54, 3) := by decide +kernel
theorem dX2_addToken_61 : decode cX2_addToken 61 = .ok (.return_, 1) := by decide +kernel
theorem dX2_numberToken_0 : decode cX2_numberToken 0 = .ok (.iload_n 2, 1) := by decide +kernel
theorem dX2_numberToken_1 : decode cX2_numberToken 1 = .ok (.iload_n 1, 1) := by decide +kernel
theorem dX2_numberToken_2 : decode cX2_numberToken 2 = .ok (.isub, 1) := by decide +kernel
theorem dX2_numberToken_3 : decode cX2_numberToken 3 = .ok (.iconst 4, 1) := by decide +kernel
theorem dX2_numberToken_4 : decode cX2_numberToken 4 = .ok (.if_icmp .le 6, 3) := by decide +kernel
theorem dX2_numberToken_7 : decode cX2_numberToken 7 = .ok (.bipush (-40), 2) := by decide +kernel
theorem dX2_numberToken_9 : decode cX2_numberToken 9 = .ok (.ireturn, 1) := by decide +kernel
theorem dX2_numberToken_10 : decode cX2_numberToken 10 = .ok (.iconst 0, 1) := by decide +kernel
theorem dX2_numberToken_11 : decode cX2_numberToken 11 = .ok (.istore_n 3, 1) := by decide +kernel
theorem dX2_numberToken_12 : decode cX2_numberToken 12 = .ok (.iload_n 1, 1) := by decide +kernel
theorem dX2_numberToken_13 : decode cX2_numberToken 13 = .ok (.istore 4, 2) := by decide +kernel
theorem dX2_numberToken_15 : decode cX2_numberToken 15 = .ok (.iload 4, 2) := by decide +kernel
theorem dX2_numberToken_17 : decode cX2_numberToken 17 = .ok (.iload_n 2, 1) := by decide +kernel
theorem dX2_numberToken_18 : decode cX2_numberToken 18 = .ok (.if_icmp .ge 24, 3) := by decide +kernel
theorem dX2_numberToken_21 : decode cX2_numberToken 21 = .ok (.iload_n 3, 1) := by decide +kernel
theorem dX2_numberToken_22 : decode cX2_numberToken 22 = .ok (.bipush 10, 2) := by decide +kernel
theorem dX2_numberToken_24 : decode cX2_numberToken 24 = .ok (.imul, 1) := by decide +kernel
theorem dX2_numberToken_25 : decode cX2_numberToken 25 = .ok (.aload_n 0, 1) := by decide +kernel
theorem dX2_numberToken_26 : decode cX2_numberToken 26 = .ok (.iload 4, 2) := by decide +kernel
theorem dX2_numberToken_28 : decode cX2_numberToken 28 = .ok (.invokevirtual 57, 3) := by decide +kernel
theorem dX2_numberToken_31 : decode cX2_numberToken 31 = .ok (.iadd, 1) := by decide +kernel
theorem dX2_numberToken_32 : decode cX2_numberToken 32 = .ok (.bipush 48, 2) := by decide +kernel
theorem dX2_numberToken_34 : decode cX2_numberToken 34 = .ok (.isub, 1) := by decide +kernel
theorem dX2_numberToken_35 : decode cX2_numberToken 35 = .ok (.istore_n 3, 1) := by decide +kernel
theorem dX2_numberToken_36 : decode cX2_numberToken 36 = .ok (.iinc 4 1, 3) := by decide +kernel
theorem dX2_numberToken_39 : decode cX2_numberToken 39 = .ok (.goto (-24), 3) := by decide +kernel
theorem dX2_numberToken_42 : decode cX2_numberToken 42 = .ok (.iload_n 3, 1) := by decide +kernel
theorem dX2_numberToken_43 : decode cX2_numberToken 43 = .ok (.ireturn, 1) := by decide +kernel
theorem dX2_signToken_0 : decode cX2_signToken 0 = .ok (.iload_n 0, 1) := by decide +kernel
theorem dX2_signToken_1 : decode cX2_signToken 1 = .ok (.tableswitch 127 40 61 #[103, 106, 118, 112, 127, 115, 127, 127, 127, 127, 127, 127, 127, 127, 127, 127, 127, 127, 127, 109, 121, 124], 103) := by decide +kernel
theorem dX2_signToken_104 : decode cX2_signToken 104 = .ok (.bipush (-30), 2) := by decide +kernel
theorem dX2_signToken_106 : decode cX2_signToken 106 = .ok (.ireturn, 1) := by decide +kernel
theorem dX2_signToken_107 : decode cX2_signToken 107 = .ok (.bipush (-31), 2) := by decide +kernel
theorem dX2_signToken_109 : decode cX2_signToken 109 = .ok (.ireturn, 1) := by decide +kernel
theorem dX2_signToken_110 : decode cX2_signToken 110 = .ok (.bipush (-32), 2) := by decide +kernel
theorem dX2_signToken_112 : decode cX2_signToken 112 = .ok (.ireturn, 1) := by decide +kernel
theorem dX2_signToken_113 : decode cX2_signToken 113 = .ok (.bipush (-14), 2) := by decide +kernel
theorem dX2_signToken_115 : decode cX2_signToken 115 = .ok (.ireturn, 1) := by decide +kernel
theorem dX2_signToken_116 : decode cX2_signToken 116 = .ok (.bipush (-15), 2) := by decide +kernel
theorem dX2_signToken_118 : decode cX2_signToken 118 = .ok (.ireturn, 1) := by decide +kernel
theorem dX2_signToken_119 : decode cX2_signToken 119 = .ok (.bipush (-16), 2) := by decide +kernel
theorem dX2_signToken_121 : decode cX2_signToken 121 = .ok (.ireturn, 1) := by decide +kernel
theorem dX2_signToken_122 : decode cX2_signToken 122 = .ok (.bipush (-12), 2) := by decide +kernel
theorem dX2_signToken_124 : decode cX2_signToken 124 = .ok (.ireturn, 1) := by decide +kernel
theorem dX2_signToken_125 : decode cX2_signToken 125 = .ok (.bipush (-13), 2) := by decide +kernel
theorem dX2_signToken_127 : decode cX2_signToken 127 = .ok (.ireturn, 1) := by decide +kernel
theorem dX2_signToken_128 : decode cX2_signToken 128 = .ok (.bipush (-40), 2) := by decide +kernel
theorem dX2_signToken_130 : decode cX2_signToken 130 = .ok (.ireturn, 1) := by decide +kernel
theorem dX2_wordToken_0 : decode cX2_wordToken 0 = .ok (.aload_n 0, 1) := by decide +kernel
theorem dX2_wordToken_1 : decode cX2_wordToken 1 = .ok (.ldc 88, 2) := by decide +kernel
theorem dX2_wordToken_3 : decode cX2_wordToken 3 = .ok (.iload_n 1, 1) := by decide +kernel
theorem dX2_wordToken_4 : decode cX2_wordToken 4 = .ok (.iload_n 2, 1) := by decide +kernel
theorem dX2_wordToken_5 : decode cX2_wordToken 5 = .ok (.invokevirtual 90, 3) := by decide +kernel
theorem dX2_wordToken_8 : decode cX2_wordToken 8 = .ok (.ifCond .eq 6, 3) := by decide +kernel
theorem dX2_wordToken_11 : decode cX2_wordToken 11 = .ok (.bipush (-20), 2) := by decide +kernel
theorem dX2_wordToken_13 : decode cX2_wordToken 13 = .ok (.ireturn, 1) := by decide +kernel
theorem dX2_wordToken_14 : decode cX2_wordToken 14 = .ok (.aload_n 0, 1) := by decide +kernel
theorem dX2_wordToken_15 : decode cX2_wordToken 15 = .ok (.ldc 94, 2) := by decide +kernel
theorem dX2_wordToken_17 : decode cX2_wordToken 17 = .ok (.iload_n 1, 1) := by decide +kernel
theorem dX2_wordToken_18 : decode cX2_wordToken 18 = .ok (.iload_n 2, 1) := by decide +kernel
theorem dX2_wordToken_19 : decode cX2_wordToken 19 = .ok (.invokevirtual 90, 3) := by decide +kernel
theorem dX2_wordToken_22 : decode cX2_wordToken 22 = .ok (.ifCond .eq 6, 3) := by decide +kernel
theorem dX2_wordToken_25 : decode cX2_wordToken 25 = .ok (.bipush (-21), 2) := by decide +kernel
theorem dX2_wordToken_27 : decode cX2_wordToken 27 = .ok (.ireturn, 1) := by decide +kernel
theorem dX2_wordToken_28 : decode cX2_wordToken 28 = .ok (.aload_n 0, 1) := by decide +kernel
theorem dX2_wordToken_29 : decode cX2_wordToken 29 = .ok (.ldc 96, 2) := by decide +kernel
theorem dX2_wordToken_31 : decode cX2_wordToken 31 = .ok (.iload_n 1, 1) := by decide +kernel
theorem dX2_wordToken_32 : decode cX2_wordToken 32 = .ok (.iload_n 2, 1) := by decide +kernel
theorem dX2_wordToken_33 : decode cX2_wordToken 33 = .ok (.invokevirtual 90, 3) := by decide +kernel
theorem dX2_wordToken_36 : decode cX2_wordToken 36 = .ok (.ifCond .eq 6, 3) := by decide +kernel
theorem dX2_wordToken_39 : decode cX2_wordToken 39 = .ok (.bipush (-22), 2) := by decide +kernel
theorem dX2_wordToken_41 : decode cX2_wordToken 41 = .ok (.ireturn, 1) := by decide +kernel
theorem dX2_wordToken_42 : decode cX2_wordToken 42 = .ok (.aload_n 0, 1) := by decide +kernel
theorem dX2_wordToken_43 : decode cX2_wordToken 43 = .ok (.ldc 98, 2) := by decide +kernel
theorem dX2_wordToken_45 : decode cX2_wordToken 45 = .ok (.iload_n 1, 1) := by decide +kernel
theorem dX2_wordToken_46 : decode cX2_wordToken 46 = .ok (.iload_n 2, 1) := by decide +kernel
theorem dX2_wordToken_47 : decode cX2_wordToken 47 = .ok (.invokevirtual 90, 3) := by decide +kernel
theorem dX2_wordToken_50 : decode cX2_wordToken 50 = .ok (.ifCond .eq 6, 3) := by decide +kernel
theorem dX2_wordToken_53 : decode cX2_wordToken 53 = .ok (.bipush (-10), 2) := by decide +kernel
theorem dX2_wordToken_55 : decode cX2_wordToken 55 = .ok (.ireturn, 1) := by decide +kernel
theorem dX2_wordToken_56 : decode cX2_wordToken 56 = .ok (.aload_n 0, 1) := by decide +kernel
theorem dX2_wordToken_57 : decode cX2_wordToken 57 = .ok (.ldc 100, 2) := by decide +kernel
theorem dX2_wordToken_59 : decode cX2_wordToken 59 = .ok (.iload_n 1, 1) := by decide +kernel
theorem dX2_wordToken_60 : decode cX2_wordToken 60 = .ok (.iload_n 2, 1) := by decide +kernel
theorem dX2_wordToken_61 : decode cX2_wordToken 61 = .ok (.invokevirtual 90, 3) := by decide +kernel
theorem dX2_wordToken_64 : decode cX2_wordToken 64 = .ok (.ifCond .eq 6, 3) := by decide +kernel
theorem dX2_wordToken_67 : decode cX2_wordToken 67 = .ok (.bipush (-11), 2) := by decide +kernel
theorem dX2_wordToken_69 : decode cX2_wordToken 69 = .ok (.ireturn, 1) := by decide +kernel
theorem dX2_wordToken_70 : decode cX2_wordToken 70 = .ok (.aload_n 0, 1) := by decide +kernel
theorem dX2_wordToken_71 : decode cX2_wordToken 71 = .ok (.ldc 102, 2) := by decide +kernel
theorem dX2_wordToken_73 : decode cX2_wordToken 73 = .ok (.iload_n 1, 1) := by decide +kernel
theorem dX2_wordToken_74 : decode cX2_wordToken 74 = .ok (.iload_n 2, 1) := by decide +kernel
theorem dX2_wordToken_75 : decode cX2_wordToken 75 = .ok (.invokevirtual 90, 3) := by decide +kernel
theorem dX2_wordToken_78 : decode cX2_wordToken 78 = .ok (.ifCond .eq 8, 3) := by decide +kernel
theorem dX2_wordToken_81 : decode cX2_wordToken 81 = .ok (.bipush (-17), 2) := by decide +kernel
theorem dX2_wordToken_83 : decode cX2_wordToken 83 = .ok (.goto 9, 3) := by decide +kernel
theorem dX2_wordToken_86 : decode cX2_wordToken 86 = .ok (.aload_n 0, 1) := by decide +kernel
theorem dX2_wordToken_87 : decode cX2_wordToken 87 = .ok (.iload_n 1, 1) := by decide +kernel
theorem dX2_wordToken_88 : decode cX2_wordToken 88 = .ok (.iload_n 2, 1) := by decide +kernel
theorem dX2_wordToken_89 : decode cX2_wordToken 89 = .ok (.invokevirtual 104, 3) := by decide +kernel
theorem dX2_wordToken_92 : decode cX2_wordToken 92 = .ok (.ireturn, 1) := by decide +kernel
theorem dX2_nameToken_0 : decode cX2_nameToken 0 = .ok (.aload_n 0, 1) := by decide +kernel
theorem dX2_nameToken_1 : decode cX2_nameToken 1 = .ok (.ldc 107, 2) := by decide +kernel
theorem dX2_nameToken_3 : decode cX2_nameToken 3 = .ok (.iload_n 1, 1) := by decide +kernel
theorem dX2_nameToken_4 : decode cX2_nameToken 4 = .ok (.iload_n 2, 1) := by decide +kernel
theorem dX2_nameToken_5 : decode cX2_nameToken 5 = .ok (.invokevirtual 90, 3) := by decide +kernel
theorem dX2_nameToken_8 : decode cX2_nameToken 8 = .ok (.ifCond .eq 5, 3) := by decide +kernel
theorem dX2_nameToken_11 : decode cX2_nameToken 11 = .ok (.iconst (-1), 1) := by decide +kernel
theorem dX2_nameToken_12 : decode cX2_nameToken 12 = .ok (.ireturn, 1) := by decide +kernel
theorem dX2_nameToken_13 : decode cX2_nameToken 13 = .ok (.aload_n 0, 1) := by decide +kernel
theorem dX2_nameToken_14 : decode cX2_nameToken 14 = .ok (.ldc 109, 2) := by decide +kernel
theorem dX2_nameToken_16 : decode cX2_nameToken 16 = .ok (.iload_n 1, 1) := by decide +kernel
theorem dX2_nameToken_17 : decode cX2_nameToken 17 = .ok (.iload_n 2, 1) := by decide +kernel
theorem dX2_nameToken_18 : decode cX2_nameToken 18 = .ok (.invokevirtual 90, 3) := by decide +kernel
theorem dX2_nameToken_21 : decode cX2_nameToken 21 = .ok (.ifCond .eq 6, 3) := by decide +kernel
theorem dX2_nameToken_24 : decode cX2_nameToken 24 = .ok (.bipush (-2), 2) := by decide +kernel
theorem dX2_nameToken_26 : decode cX2_nameToken 26 = .ok (.ireturn, 1) := by decide +kernel
theorem dX2_nameToken_27 : decode cX2_nameToken 27 = .ok (.aload_n 0, 1) := by decide +kernel
theorem dX2_nameToken_28 : decode cX2_nameToken 28 = .ok (.ldc 111, 2) := by decide +kernel
theorem dX2_nameToken_30 : decode cX2_nameToken 30 = .ok (.iload_n 1, 1) := by decide +kernel
theorem dX2_nameToken_31 : decode cX2_nameToken 31 = .ok (.iload_n 2, 1) := by decide +kernel
theorem dX2_nameToken_32 : decode cX2_nameToken 32 = .ok (.invokevirtual 90, 3) := by decide +kernel
theorem dX2_nameToken_35 : decode cX2_nameToken 35 = .ok (.ifCond .eq 6, 3) := by decide +kernel
theorem dX2_nameToken_38 : decode cX2_nameToken 38 = .ok (.bipush (-3), 2) := by decide +kernel
theorem dX2_nameToken_40 : decode cX2_nameToken 40 = .ok (.ireturn, 1) := by decide +kernel
theorem dX2_nameToken_41 : decode cX2_nameToken 41 = .ok (.aload_n 0, 1) := by decide +kernel
theorem dX2_nameToken_42 : decode cX2_nameToken 42 = .ok (.ldc 113, 2) := by decide +kernel
theorem dX2_nameToken_44 : decode cX2_nameToken 44 = .ok (.iload_n 1, 1) := by decide +kernel
theorem dX2_nameToken_45 : decode cX2_nameToken 45 = .ok (.iload_n 2, 1) := by decide +kernel
theorem dX2_nameToken_46 : decode cX2_nameToken 46 = .ok (.invokevirtual 90, 3) := by decide +kernel
theorem dX2_nameToken_49 : decode cX2_nameToken 49 = .ok (.ifCond .eq 6, 3) := by decide +kernel
theorem dX2_nameToken_52 : decode cX2_nameToken 52 = .ok (.bipush (-4), 2) := by decide +kernel
theorem dX2_nameToken_54 : decode cX2_nameToken 54 = .ok (.ireturn, 1) := by decide +kernel
theorem dX2_nameToken_55 : decode cX2_nameToken 55 = .ok (.aload_n 0, 1) := by decide +kernel
theorem dX2_nameToken_56 : decode cX2_nameToken 56 = .ok (.ldc 115, 2) := by decide +kernel
theorem dX2_nameToken_58 : decode cX2_nameToken 58 = .ok (.iload_n 1, 1) := by decide +kernel
theorem dX2_nameToken_59 : decode cX2_nameToken 59 = .ok (.iload_n 2, 1) := by decide +kernel
theorem dX2_nameToken_60 : decode cX2_nameToken 60 = .ok (.invokevirtual 90, 3) := by decide +kernel
theorem dX2_nameToken_63 : decode cX2_nameToken 63 = .ok (.ifCond .eq 6, 3) := by decide +kernel
theorem dX2_nameToken_66 : decode cX2_nameToken 66 = .ok (.bipush (-5), 2) := by decide +kernel
theorem dX2_nameToken_68 : decode cX2_nameToken 68 = .ok (.ireturn, 1) := by decide +kernel
theorem dX2_nameToken_69 : decode cX2_nameToken 69 = .ok (.aload_n 0, 1) := by decide +kernel
theorem dX2_nameToken_70 : decode cX2_nameToken 70 = .ok (.ldc 117, 2) := by decide +kernel
theorem dX2_nameToken_72 : decode cX2_nameToken 72 = .ok (.iload_n 1, 1) := by decide +kernel
theorem dX2_nameToken_73 : decode cX2_nameToken 73 = .ok (.iload_n 2, 1) := by decide +kernel
theorem dX2_nameToken_74 : decode cX2_nameToken 74 = .ok (.invokevirtual 90, 3) := by decide +kernel
theorem dX2_nameToken_77 : decode cX2_nameToken 77 = .ok (.ifCond .eq 8, 3) := by decide +kernel
theorem dX2_nameToken_80 : decode cX2_nameToken 80 = .ok (.bipush (-6), 2) := by decide +kernel
theorem dX2_nameToken_82 : decode cX2_nameToken 82 = .ok (.goto 5, 3) := by decide +kernel
theorem dX2_nameToken_85 : decode cX2_nameToken 85 = .ok (.bipush (-40), 2) := by decide +kernel
theorem dX2_nameToken_87 : decode cX2_nameToken 87 = .ok (.ireturn, 1) := by decide +kernel
theorem dX2_isWord_0 : decode cX2_isWord 0 = .ok (.iload_n 3, 1) := by decide +kernel
theorem dX2_isWord_1 : decode cX2_isWord 1 = .ok (.iload_n 2, 1) := by decide +kernel
theorem dX2_isWord_2 : decode cX2_isWord 2 = .ok (.isub, 1) := by decide +kernel
theorem dX2_isWord_3 : decode cX2_isWord 3 = .ok (.aload_n 1, 1) := by decide +kernel
theorem dX2_isWord_4 : decode cX2_isWord 4 = .ok (.invokevirtual 119, 3) := by decide +kernel
theorem dX2_isWord_7 : decode cX2_isWord 7 = .ok (.if_icmp .eq 5, 3) := by decide +kernel
theorem dX2_isWord_10 : decode cX2_isWord 10 = .ok (.iconst 0, 1) := by decide +kernel
theorem dX2_isWord_11 : decode cX2_isWord 11 = .ok (.ireturn, 1) := by decide +kernel
theorem dX2_isWord_12 : decode cX2_isWord 12 = .ok (.iconst 0, 1) := by decide +kernel
theorem dX2_isWord_13 : decode cX2_isWord 13 = .ok (.istore 4, 2) := by decide +kernel
theorem dX2_isWord_15 : decode cX2_isWord 15 = .ok (.iload 4, 2) := by decide +kernel
theorem dX2_isWord_17 : decode cX2_isWord 17 = .ok (.aload_n 1, 1) := by decide +kernel
theorem dX2_isWord_18 : decode cX2_isWord 18 = .ok (.invokevirtual 119, 3) := by decide +kernel
theorem dX2_isWord_21 : decode cX2_isWord 21 = .ok (.if_icmp .ge 28, 3) := by decide +kernel
theorem dX2_isWord_24 : decode cX2_isWord 24 = .ok (.aload_n 1, 1) := by decide +kernel
theorem dX2_isWord_25 : decode cX2_isWord 25 = .ok (.iload 4, 2) := by decide +kernel
theorem dX2_isWord_27 : decode cX2_isWord 27 = .ok (.invokevirtual 124, 3) := by decide +kernel
theorem dX2_isWord_30 : decode cX2_isWord 30 = .ok (.aload_n 0, 1) := by decide +kernel
theorem dX2_isWord_31 : decode cX2_isWord 31 = .ok (.iload_n 2, 1) := by decide +kernel
theorem dX2_isWord_32 : decode cX2_isWord 32 = .ok (.iload 4, 2) := by decide +kernel
theorem dX2_isWord_34 : decode cX2_isWord 34 = .ok (.iadd, 1) := by decide +kernel
theorem dX2_isWord_35 : decode cX2_isWord 35 = .ok (.invokevirtual 57, 3) := by decide +kernel
theorem dX2_isWord_38 : decode cX2_isWord 38 = .ok (.if_icmp .eq 5, 3) := by decide +kernel
theorem dX2_isWord_41 : decode cX2_isWord 41 = .ok (.iconst 0, 1) := by decide +kernel
theorem dX2_isWord_42 : decode cX2_isWord 42 = .ok (.ireturn, 1) := by decide +kernel
theorem dX2_isWord_43 : decode cX2_isWord 43 = .ok (.iinc 4 1, 3) := by decide +kernel
theorem dX2_isWord_46 : decode cX2_isWord 46 = .ok (.goto (-31), 3) := by decide +kernel
theorem dX2_isWord_49 : decode cX2_isWord 49 = .ok (.iconst 1, 1) := by decide +kernel
theorem dX2_isWord_50 : decode cX2_isWord 50 = .ok (.ireturn, 1) := by decide +kernel
theorem dX2_current_0 : decode cX2_current 0 = .ok (.aload_n 0, 1) := by decide +kernel
theorem dX2_current_1 : decode cX2_current 1 = .ok (.getfield 40, 3) := by decide +kernel
theorem dX2_current_4 : decode cX2_current 4 = .ok (.ifCond .lt 38, 3) := by decide +kernel
theorem dX2_current_7 : decode cX2_current 7 = .ok (.aload_n 0, 1) := by decide +kernel
theorem dX2_current_8 : decode cX2_current 8 = .ok (.getfield 40, 3) := by decide +kernel
theorem dX2_current_11 : decode cX2_current 11 = .ok (.aload_n 0, 1) := by decide +kernel
theorem dX2_current_12 : decode cX2_current 12 = .ok (.getfield 54, 3) := by decide +kernel
theorem dX2_current_15 : decode cX2_current 15 = .ok (.if_icmp .ge 27, 3) := by decide +kernel
theorem dX2_current_18 : decode cX2_current 18 = .ok (.aload_n 0, 1) := by decide +kernel
theorem dX2_current_19 : decode cX2_current 19 = .ok (.getfield 40, 3) := by decide +kernel
theorem dX2_current_22 : decode cX2_current 22 = .ok (.aload_n 0, 1) := by decide +kernel
theorem dX2_current_23 : decode cX2_current 23 = .ok (.getfield 15, 3) := by decide +kernel
theorem dX2_current_26 : decode cX2_current 26 = .ok (.arraylength, 1) := by decide +kernel
theorem dX2_current_27 : decode cX2_current 27 = .ok (.if_icmp .ge 15, 3) := by decide +kernel
theorem dX2_current_30 : decode cX2_current 30 = .ok (.aload_n 0, 1) := by decide +kernel
theorem dX2_current_31 : decode cX2_current 31 = .ok (.getfield 15, 3) := by decide +kernel
theorem dX2_current_34 : decode cX2_current 34 = .ok (.aload_n 0, 1) := by decide +kernel
theorem dX2_current_35 : decode cX2_current 35 = .ok (.getfield 40, 3) := by decide +kernel
theorem dX2_current_38 : decode cX2_current 38 = .ok (.iaload, 1) := by decide +kernel
theorem dX2_current_39 : decode cX2_current 39 = .ok (.goto 5, 3) := by decide +kernel
theorem dX2_current_42 : decode cX2_current 42 = .ok (.bipush (-41), 2) := by decide +kernel
theorem dX2_current_44 : decode cX2_current 44 = .ok (.ireturn, 1) := by decide +kernel
theorem dX2_skip_0 : decode cX2_skip 0 = .ok (.aload_n 0, 1) := by decide +kernel
theorem dX2_skip_1 : decode cX2_skip 1 = .ok (.invokevirtual 50, 3) := by decide +kernel
theorem dX2_skip_4 : decode cX2_skip 4 = .ok (.iload_n 1, 1) := by decide +kernel
theorem dX2_skip_5 : decode cX2_skip 5 = .ok (.if_icmp .eq 5, 3) := by decide +kernel
theorem dX2_skip_8 : decode cX2_skip 8 = .ok (.iconst 0, 1) := by decide +kernel
theorem dX2_skip_9 : decode cX2_skip 9 = .ok (.ireturn, 1) := by decide +kernel
theorem dX2_skip_10 : decode cX2_skip 10 = .ok (.aload_n 0, 1) := by decide +kernel
theorem dX2_skip_11 : decode cX2_skip 11 = .ok (.dup, 1) := by decide +kernel
theorem dX2_skip_12 : decode cX2_skip 12 = .ok (.getfield 40, 3) := by decide +kernel
theorem dX2_skip_15 : decode cX2_skip 15 = .ok (.iconst 1, 1) := by decide +kernel
theorem dX2_skip_16 : decode cX2_skip 16 = .ok (.iadd, 1) := by decide +kernel
theorem dX2_skip_17 : decode cX2_skip 17 = .ok (.putfield 40, 3) := by decide +kernel
theorem dX2_skip_20 : decode cX2_skip 20 = .ok (.iconst 1, 1) := by decide +kernel
theorem dX2_skip_21 : decode cX2_skip 21 = .ok (.ireturn, 1) := by decide +kernel
theorem dX2_emit_0 : decode cX2_emit 0 = .ok (.aload_n 0, 1) := by decide +kernel
theorem dX2_emit_1 : decode cX2_emit 1 = .ok (.getfield 43, 3) := by decide +kernel
theorem dX2_emit_4 : decode cX2_emit 4 = .ok (.ifCond .lt 35, 3) := by decide +kernel
theorem dX2_emit_7 : decode cX2_emit 7 = .ok (.aload_n 0, 1) := by decide +kernel
theorem dX2_emit_8 : decode cX2_emit 8 = .ok (.getfield 43, 3) := by decide +kernel
theorem dX2_emit_11 : decode cX2_emit 11 = .ok (.aload_n 0, 1) := by decide +kernel
theorem dX2_emit_12 : decode cX2_emit 12 = .ok (.getfield 21, 3) := by decide +kernel
theorem dX2_emit_15 : decode cX2_emit 15 = .ok (.arraylength, 1) := by decide +kernel
theorem dX2_emit_16 : decode cX2_emit 16 = .ok (.if_icmp .ge 23, 3) := by decide +kernel
theorem dX2_emit_19 : decode cX2_emit 19 = .ok (.aload_n 0, 1) := by decide +kernel
theorem dX2_emit_20 : decode cX2_emit 20 = .ok (.getfield 21, 3) := by decide +kernel
theorem dX2_emit_23 : decode cX2_emit 23 = .ok (.aload_n 0, 1) := by decide +kernel
theorem dX2_emit_24 : decode cX2_emit 24 = .ok (.getfield 43, 3) := by decide +kernel
theorem dX2_emit_27 : decode cX2_emit 27 = .ok (.iload_n 1, 1) := by decide +kernel
theorem dX2_emit_28 : decode cX2_emit 28 = .ok (.iastore, 1) := by decide +kernel
theorem dX2_emit_29 : decode cX2_emit 29 = .ok (.aload_n 0, 1) := by decide +kernel
theorem dX2_emit_30 : decode cX2_emit 30 = .ok (.dup, 1) := by decide +kernel
theorem dX2_emit_31 : decode cX2_emit 31 = .ok (.getfield 43, 3) := by decide +kernel
theorem dX2_emit_34 : decode cX2_emit 34 = .ok (.iconst 1, 1) := by decide +kernel
theorem dX2_emit_35 : decode cX2_emit 35 = .ok (.iadd, 1) := by decide +kernel
theorem dX2_emit_36 : decode cX2_emit 36 = .ok (.putfield 43, 3) := by decide +kernel
theorem dX2_emit_39 : decode cX2_emit 39 = .ok (.return_, 1) := by decide +kernel
theorem dX2_readPart_0 : decode cX2_readPart 0 = .ok (.aload_n 0, 1) := by decide +kernel
theorem dX2_readPart_1 : decode cX2_readPart 1 = .ok (.iload_n 2, 1) := by decide +kernel
theorem dX2_readPart_2 : decode cX2_readPart 2 = .ok (.invokevirtual 128, 3) := by decide +kernel
theorem dX2_readPart_5 : decode cX2_readPart 5 = .ok (.ifCond .eq 20, 3) := by decide +kernel
theorem dX2_readPart_8 : decode cX2_readPart 8 = .ok (.aload_n 0, 1) := by decide +kernel
theorem dX2_readPart_9 : decode cX2_readPart 9 = .ok (.iconst 0, 1) := by decide +kernel
theorem dX2_readPart_10 : decode cX2_readPart 10 = .ok (.invokevirtual 131, 3) := by decide +kernel
theorem dX2_readPart_13 : decode cX2_readPart 13 = .ok (.ifCond .eq 12, 3) := by decide +kernel
theorem dX2_readPart_16 : decode cX2_readPart 16 = .ok (.aload_n 0, 1) := by decide +kernel
theorem dX2_readPart_17 : decode cX2_readPart 17 = .ok (.bipush (-32), 2) := by decide +kernel
theorem dX2_readPart_19 : decode cX2_readPart 19 = .ok (.invokevirtual 128, 3) := by decide +kernel
theorem dX2_readPart_22 : decode cX2_readPart 22 = .ok (.ifCond .ne 5, 3) := by decide +kernel
theorem dX2_readPart_25 : decode cX2_readPart 25 = .ok (.iconst 0, 1) := by decide +kernel
theorem dX2_readPart_26 : decode cX2_readPart 26 = .ok (.ireturn, 1) := by decide +kernel
theorem dX2_readPart_27 : decode cX2_readPart 27 = .ok (.iload_n 1, 1) := by decide +kernel
theorem dX2_readPart_28 : decode cX2_readPart 28 = .ok (.ifCond .lt 12, 3) := by decide +kernel
theorem dX2_readPart_31 : decode cX2_readPart 31 = .ok (.iload_n 1, 1) := by decide +kernel
theorem dX2_readPart_32 : decode cX2_readPart 32 = .ok (.aload_n 0, 1) := by decide +kernel
theorem dX2_readPart_33 : decode cX2_readPart 33 = .ok (.getfield 24, 3) := by decide +kernel
theorem dX2_readPart_36 : decode cX2_readPart 36 = .ok (.arraylength, 1) := by decide +kernel
theorem dX2_readPart_37 : decode cX2_readPart 37 = .ok (.if_icmp .lt 5, 3) := by decide +kernel
theorem dX2_readPart_40 : decode cX2_readPart 40 = .ok (.iconst 0, 1) := by decide +kernel
theorem dX2_readPart_41 : decode cX2_readPart 41 = .ok (.ireturn, 1) := by decide +kernel
theorem dX2_readPart_42 : decode cX2_readPart 42 = .ok (.aload_n 0, 1) := by decide +kernel
theorem dX2_readPart_43 : decode cX2_readPart 43 = .ok (.getfield 24, 3) := by decide +kernel
theorem dX2_readPart_46 : decode cX2_readPart 46 = .ok (.iload_n 1, 1) := by decide +kernel
theorem dX2_readPart_47 : decode cX2_readPart 47 = .ok (.aload_n 0, 1) := by decide +kernel
theorem dX2_readPart_48 : decode cX2_readPart 48 = .ok (.getfield 43, 3) := by decide +kernel
theorem dX2_readPart_51 : decode cX2_readPart 51 = .ok (.iastore, 1) := by decide +kernel
theorem dX2_readPart_52 : decode cX2_readPart 52 = .ok (.iconst 1, 1) := by decide +kernel
theorem dX2_readPart_53 : decode cX2_readPart 53 = .ok (.ireturn, 1) := by decide +kernel
theorem dX2_readOr_0 : decode cX2_readOr 0 = .ok (.aload_n 0, 1) := by decide +kernel
theorem dX2_readOr_1 : decode cX2_readOr 1 = .ok (.iload_n 1, 1) := by decide +kernel
theorem dX2_readOr_2 : decode cX2_readOr 2 = .ok (.invokevirtual 134, 3) := by decide +kernel
theorem dX2_readOr_5 : decode cX2_readOr 5 = .ok (.ifCond .ne 5, 3) := by decide +kernel
theorem dX2_readOr_8 : decode cX2_readOr 8 = .ok (.iconst 0, 1) := by decide +kernel
theorem dX2_readOr_9 : decode cX2_readOr 9 = .ok (.ireturn, 1) := by decide +kernel
theorem dX2_readOr_10 : decode cX2_readOr 10 = .ok (.iconst 0, 1) := by decide +kernel
theorem dX2_readOr_11 : decode cX2_readOr 11 = .ok (.istore_n 2, 1) := by decide +kernel
theorem dX2_readOr_12 : decode cX2_readOr 12 = .ok (.iload_n 2, 1) := by decide +kernel
theorem dX2_readOr_13 : decode cX2_readOr 13 = .ok (.sipush 160, 3) := by decide +kernel
theorem dX2_readOr_16 : decode cX2_readOr 16 = .ok (.if_icmp .ge 34, 3) := by decide +kernel
theorem dX2_readOr_19 : decode cX2_readOr 19 = .ok (.aload_n 0, 1) := by decide +kernel
theorem dX2_readOr_20 : decode cX2_readOr 20 = .ok (.bipush (-10), 2) := by decide +kernel
theorem dX2_readOr_22 : decode cX2_readOr 22 = .ok (.invokevirtual 128, 3) := by decide +kernel
theorem dX2_readOr_25 : decode cX2_readOr 25 = .ok (.ifCond .eq 25, 3) := by decide +kernel
theorem dX2_readOr_28 : decode cX2_readOr 28 = .ok (.aload_n 0, 1) := by decide +kernel
theorem dX2_readOr_29 : decode cX2_readOr 29 = .ok (.iload_n 1, 1) := by decide +kernel
theorem dX2_readOr_30 : decode cX2_readOr 30 = .ok (.invokevirtual 134, 3) := by decide +kernel
theorem dX2_readOr_33 : decode cX2_readOr 33 = .ok (.ifCond .ne 5, 3) := by decide +kernel
theorem dX2_readOr_36 : decode cX2_readOr 36 = .ok (.iconst 0, 1) := by decide +kernel
theorem dX2_readOr_37 : decode cX2_readOr 37 = .ok (.ireturn, 1) := by decide +kernel
theorem dX2_readOr_38 : decode cX2_readOr 38 = .ok (.aload_n 0, 1) := by decide +kernel
theorem dX2_readOr_39 : decode cX2_readOr 39 = .ok (.bipush (-10), 2) := by decide +kernel
theorem dX2_readOr_41 : decode cX2_readOr 41 = .ok (.invokevirtual 137, 3) := by decide +kernel
theorem dX2_readOr_44 : decode cX2_readOr 44 = .ok (.iinc 2 1, 3) := by decide +kernel
theorem dX2_readOr_47 : decode cX2_readOr 47 = .ok (.goto (-35), 3) := by decide +kernel
theorem dX2_readOr_50 : decode cX2_readOr 50 = .ok (.iconst 1, 1) := by decide +kernel
theorem dX2_readOr_51 : decode cX2_readOr 51 = .ok (.ireturn, 1) := by decide +kernel
theorem dX2_readAnd_0 : decode cX2_readAnd 0 = .ok (.aload_n 0, 1) := by decide +kernel
theorem dX2_readAnd_1 : decode cX2_readAnd 1 = .ok (.iload_n 1, 1) := by decide +kernel
theorem dX2_readAnd_2 : decode cX2_readAnd 2 = .ok (.invokevirtual 141, 3) := by decide +kernel
theorem dX2_readAnd_5 : decode cX2_readAnd 5 = .ok (.ifCond .ne 5, 3) := by decide +kernel
theorem dX2_readAnd_8 : decode cX2_readAnd 8 = .ok (.iconst 0, 1) := by decide +kernel
theorem dX2_readAnd_9 : decode cX2_readAnd 9 = .ok (.ireturn, 1) := by decide +kernel
theorem dX2_readAnd_10 : decode cX2_readAnd 10 = .ok (.iconst 0, 1) := by decide +kernel
theorem dX2_readAnd_11 : decode cX2_readAnd 11 = .ok (.istore_n 2, 1) := by decide +kernel
theorem dX2_readAnd_12 : decode cX2_readAnd 12 = .ok (.iload_n 2, 1) := by decide +kernel
theorem dX2_readAnd_13 : decode cX2_readAnd 13 = .ok (.sipush 160, 3) := by decide +kernel
theorem dX2_readAnd_16 : decode cX2_readAnd 16 = .ok (.if_icmp .ge 34, 3) := by decide +kernel
theorem dX2_readAnd_19 : decode cX2_readAnd 19 = .ok (.aload_n 0, 1) := by decide +kernel
theorem dX2_readAnd_20 : decode cX2_readAnd 20 = .ok (.bipush (-11), 2) := by decide +kernel
theorem dX2_readAnd_22 : decode cX2_readAnd 22 = .ok (.invokevirtual 128, 3) := by decide +kernel
theorem dX2_readAnd_25 : decode cX2_readAnd 25 = .ok (.ifCond .eq 25, 3) := by decide +kernel
theorem dX2_readAnd_28 : decode cX2_readAnd 28 = .ok (.aload_n 0, 1) := by decide +kernel
theorem dX2_readAnd_29 : decode cX2_readAnd 29 = .ok (.iload_n 1, 1) := by decide +kernel
theorem dX2_readAnd_30 : decode cX2_readAnd 30 = .ok (.invokevirtual 141, 3) := by decide +kernel
theorem dX2_readAnd_33 : decode cX2_readAnd 33 = .ok (.ifCond .ne 5, 3) := by decide +kernel
theorem dX2_readAnd_36 : decode cX2_readAnd 36 = .ok (.iconst 0, 1) := by decide +kernel
theorem dX2_readAnd_37 : decode cX2_readAnd 37 = .ok (.ireturn, 1) := by decide +kernel
theorem dX2_readAnd_38 : decode cX2_readAnd 38 = .ok (.aload_n 0, 1) := by decide +kernel
theorem dX2_readAnd_39 : decode cX2_readAnd 39 = .ok (.bipush (-11), 2) := by decide +kernel
theorem dX2_readAnd_41 : decode cX2_readAnd 41 = .ok (.invokevirtual 137, 3) := by decide +kernel
theorem dX2_readAnd_44 : decode cX2_readAnd 44 = .ok (.iinc 2 1, 3) := by decide +kernel
theorem dX2_readAnd_47 : decode cX2_readAnd 47 = .ok (.goto (-35), 3) := by decide +kernel
theorem dX2_readAnd_50 : decode cX2_readAnd 50 = .ok (.iconst 1, 1) := by decide +kernel
theorem dX2_readAnd_51 : decode cX2_readAnd 51 = .ok (.ireturn, 1) := by decide +kernel
theorem dX2_readNot_0 : decode cX2_readNot 0 = .ok (.aload_n 0, 1) := by decide +kernel
theorem dX2_readNot_1 : decode cX2_readNot 1 = .ok (.invokevirtual 50, 3) := by decide +kernel
theorem dX2_readNot_4 : decode cX2_readNot 4 = .ok (.bipush (-17), 2) := by decide +kernel
theorem dX2_readNot_6 : decode cX2_readNot 6 = .ok (.if_icmp .ne 36, 3) := by decide +kernel
theorem dX2_readNot_9 : decode cX2_readNot 9 = .ok (.iload_n 1, 1) := by decide +kernel
theorem dX2_readNot_10 : decode cX2_readNot 10 = .ok (.iconst 5, 1) := by decide +kernel
theorem dX2_readNot_11 : decode cX2_readNot 11 = .ok (.if_icmp .lt 5, 3) := by decide +kernel
theorem dX2_readNot_14 : decode cX2_readNot 14 = .ok (.iconst 0, 1) := by decide +kernel
theorem dX2_readNot_15 : decode cX2_readNot 15 = .ok (.ireturn, 1) := by decide +kernel
theorem dX2_readNot_16 : decode cX2_readNot 16 = .ok (.aload_n 0, 1) := by decide +kernel
theorem dX2_readNot_17 : decode cX2_readNot 17 = .ok (.dup, 1) := by decide +kernel
theorem dX2_readNot_18 : decode cX2_readNot 18 = .ok (.getfield 40, 3) := by decide +kernel
theorem dX2_readNot_21 : decode cX2_readNot 21 = .ok (.iconst 1, 1) := by decide +kernel
theorem dX2_readNot_22 : decode cX2_readNot 22 = .ok (.iadd, 1) := by decide +kernel
theorem dX2_readNot_23 : decode cX2_readNot 23 = .ok (.putfield 40, 3) := by decide +kernel
theorem dX2_readNot_26 : decode cX2_readNot 26 = .ok (.aload_n 0, 1) := by decide +kernel
theorem dX2_readNot_27 : decode cX2_readNot 27 = .ok (.iload_n 1, 1) := by decide +kernel
theorem dX2_readNot_28 : decode cX2_readNot 28 = .ok (.iconst 1, 1) := by decide +kernel
theorem dX2_readNot_29 : decode cX2_readNot 29 = .ok (.iadd, 1) := by decide +kernel
theorem dX2_readNot_30 : decode cX2_readNot 30 = .ok (.invokevirtual 141, 3) := by decide +kernel
theorem dX2_readNot_33 : decode cX2_readNot 33 = .ok (.istore_n 2, 1) := by decide +kernel
theorem dX2_readNot_34 : decode cX2_readNot 34 = .ok (.aload_n 0, 1) := by decide +kernel
theorem dX2_readNot_35 : decode cX2_readNot 35 = .ok (.bipush (-17), 2) := by decide +kernel
theorem dX2_readNot_37 : decode cX2_readNot 37 = .ok (.invokevirtual 137, 3) := by decide +kernel
theorem dX2_readNot_40 : decode cX2_readNot 40 = .ok (.iload_n 2, 1) := by decide +kernel
theorem dX2_readNot_41 : decode cX2_readNot 41 = .ok (.ireturn, 1) := by decide +kernel
theorem dX2_readNot_42 : decode cX2_readNot 42 = .ok (.aload_n 0, 1) := by decide +kernel
theorem dX2_readNot_43 : decode cX2_readNot 43 = .ok (.iload_n 1, 1) := by decide +kernel
theorem dX2_readNot_44 : decode cX2_readNot 44 = .ok (.invokevirtual 144, 3) := by decide +kernel
theorem dX2_readNot_47 : decode cX2_readNot 47 = .ok (.ifCond .ne 5, 3) := by decide +kernel
theorem dX2_readNot_50 : decode cX2_readNot 50 = .ok (.iconst 0, 1) := by decide +kernel
theorem dX2_readNot_51 : decode cX2_readNot 51 = .ok (.ireturn, 1) := by decide +kernel
theorem dX2_readNot_52 : decode cX2_readNot 52 = .ok (.aload_n 0, 1) := by decide +kernel
theorem dX2_readNot_53 : decode cX2_readNot 53 = .ok (.invokevirtual 50, 3) := by decide +kernel
theorem dX2_readNot_56 : decode cX2_readNot 56 = .ok (.istore_n 2, 1) := by decide +kernel
theorem dX2_readNot_57 : decode cX2_readNot 57 = .ok (.iload_n 2, 1) := by decide +kernel
theorem dX2_readNot_58 : decode cX2_readNot 58 = .ok (.bipush (-12), 2) := by decide +kernel
theorem dX2_readNot_60 : decode cX2_readNot 60 = .ok (.if_icmp .eq 11, 3) := by decide +kernel
theorem dX2_readNot_63 : decode cX2_readNot 63 = .ok (.iload_n 2, 1) := by decide +kernel
theorem dX2_readNot_64 : decode cX2_readNot 64 = .ok (.bipush (-13), 2) := by decide +kernel
theorem dX2_readNot_66 : decode cX2_readNot 66 = .ok (.if_icmp .eq 5, 3) := by decide +kernel
theorem dX2_readNot_69 : decode cX2_readNot 69 = .ok (.iconst 1, 1) := by decide +kernel
theorem dX2_readNot_70 : decode cX2_readNot 70 = .ok (.ireturn, 1) := by decide +kernel
theorem dX2_readNot_71 : decode cX2_readNot 71 = .ok (.aload_n 0, 1) := by decide +kernel
theorem dX2_readNot_72 : decode cX2_readNot 72 = .ok (.dup, 1) := by decide +kernel
theorem dX2_readNot_73 : decode cX2_readNot 73 = .ok (.getfield 40, 3) := by decide +kernel
theorem dX2_readNot_76 : decode cX2_readNot 76 = .ok (.iconst 1, 1) := by decide +kernel
theorem dX2_readNot_77 : decode cX2_readNot 77 = .ok (.iadd, 1) := by decide +kernel
theorem dX2_readNot_78 : decode cX2_readNot 78 = .ok (.putfield 40, 3) := by decide +kernel
theorem dX2_readNot_81 : decode cX2_readNot 81 = .ok (.aload_n 0, 1) := by decide +kernel
theorem dX2_readNot_82 : decode cX2_readNot 82 = .ok (.iload_n 1, 1) := by decide +kernel
theorem dX2_readNot_83 : decode cX2_readNot 83 = .ok (.invokevirtual 144, 3) := by decide +kernel
theorem dX2_readNot_86 : decode cX2_readNot 86 = .ok (.istore_n 3, 1) := by decide +kernel
theorem dX2_readNot_87 : decode cX2_readNot 87 = .ok (.aload_n 0, 1) := by decide +kernel
theorem dX2_readNot_88 : decode cX2_readNot 88 = .ok (.iload_n 2, 1) := by decide +kernel
theorem dX2_readNot_89 : decode cX2_readNot 89 = .ok (.invokevirtual 137, 3) := by decide +kernel
theorem dX2_readNot_92 : decode cX2_readNot 92 = .ok (.iload_n 3, 1) := by decide +kernel
theorem dX2_readNot_93 : decode cX2_readNot 93 = .ok (.ireturn, 1) := by decide +kernel
theorem dX2_readSum_0 : decode cX2_readSum 0 = .ok (.aload_n 0, 1) := by decide +kernel
theorem dX2_readSum_1 : decode cX2_readSum 1 = .ok (.iload_n 1, 1) := by decide +kernel
theorem dX2_readSum_2 : decode cX2_readSum 2 = .ok (.invokevirtual 147, 3) := by decide +kernel
theorem dX2_readSum_5 : decode cX2_readSum 5 = .ok (.ifCond .ne 5, 3) := by decide +kernel
theorem dX2_readSum_8 : decode cX2_readSum 8 = .ok (.iconst 0, 1) := by decide +kernel
theorem dX2_readSum_9 : decode cX2_readSum 9 = .ok (.ireturn, 1) := by decide +kernel
theorem dX2_readSum_10 : decode cX2_readSum 10 = .ok (.iconst 0, 1) := by decide +kernel
theorem dX2_readSum_11 : decode cX2_readSum 11 = .ok (.istore_n 2, 1) := by decide +kernel
theorem dX2_readSum_12 : decode cX2_readSum 12 = .ok (.iload_n 2, 1) := by decide +kernel
theorem dX2_readSum_13 : decode cX2_readSum 13 = .ok (.sipush 160, 3) := by decide +kernel
theorem dX2_readSum_16 : decode cX2_readSum 16 = .ok (.if_icmp .ge 53, 3) := by decide +kernel
theorem dX2_readSum_19 : decode cX2_readSum 19 = .ok (.aload_n 0, 1) := by decide +kernel
theorem dX2_readSum_20 : decode cX2_readSum 20 = .ok (.invokevirtual 50, 3) := by decide +kernel
theorem dX2_readSum_23 : decode cX2_readSum 23 = .ok (.istore_n 3, 1) := by decide +kernel
theorem dX2_readSum_24 : decode cX2_readSum 24 = .ok (.iload_n 3, 1) := by decide +kernel
theorem dX2_readSum_25 : decode cX2_readSum 25 = .ok (.bipush (-14), 2) := by decide +kernel
theorem dX2_readSum_27 : decode cX2_readSum 27 = .ok (.if_icmp .eq 11, 3) := by decide +kernel
theorem dX2_readSum_30 : decode cX2_readSum 30 = .ok (.iload_n 3, 1) := by decide +kernel
theorem dX2_readSum_31 : decode cX2_readSum 31 = .ok (.bipush (-15), 2) := by decide +kernel
theorem dX2_readSum_33 : decode cX2_readSum 33 = .ok (.if_icmp .eq 5, 3) := by decide +kernel
theorem dX2_readSum_36 : decode cX2_readSum 36 = .ok (.iconst 1, 1) := by decide +kernel
theorem dX2_readSum_37 : decode cX2_readSum 37 = .ok (.ireturn, 1) := by decide +kernel
theorem dX2_readSum_38 : decode cX2_readSum 38 = .ok (.aload_n 0, 1) := by decide +kernel
theorem dX2_readSum_39 : decode cX2_readSum 39 = .ok (.dup, 1) := by decide +kernel
theorem dX2_readSum_40 : decode cX2_readSum 40 = .ok (.getfield 40, 3) := by decide +kernel
theorem dX2_readSum_43 : decode cX2_readSum 43 = .ok (.iconst 1, 1) := by decide +kernel
theorem dX2_readSum_44 : decode cX2_readSum 44 = .ok (.iadd, 1) := by decide +kernel
theorem dX2_readSum_45 : decode cX2_readSum 45 = .ok (.putfield 40, 3) := by decide +kernel
theorem dX2_readSum_48 : decode cX2_readSum 48 = .ok (.aload_n 0, 1) := by decide +kernel
theorem dX2_readSum_49 : decode cX2_readSum 49 = .ok (.iload_n 1, 1) := by decide +kernel
theorem dX2_readSum_50 : decode cX2_readSum 50 = .ok (.invokevirtual 147, 3) := by decide +kernel
theorem dX2_readSum_53 : decode cX2_readSum 53 = .ok (.ifCond .ne 5, 3) := by decide +kernel
theorem dX2_readSum_56 : decode cX2_readSum 56 = .ok (.iconst 0, 1) := by decide +kernel
theorem dX2_readSum_57 : decode cX2_readSum 57 = .ok (.ireturn, 1) := by decide +kernel
theorem dX2_readSum_58 : decode cX2_readSum 58 = .ok (.aload_n 0, 1) := by decide +kernel
theorem dX2_readSum_59 : decode cX2_readSum 59 = .ok (.iload_n 3, 1) := by decide +kernel
theorem dX2_readSum_60 : decode cX2_readSum 60 = .ok (.invokevirtual 137, 3) := by decide +kernel
theorem dX2_readSum_63 : decode cX2_readSum 63 = .ok (.iinc 2 1, 3) := by decide +kernel
theorem dX2_readSum_66 : decode cX2_readSum 66 = .ok (.goto (-54), 3) := by decide +kernel
theorem dX2_readSum_69 : decode cX2_readSum 69 = .ok (.iconst 1, 1) := by decide +kernel
theorem dX2_readSum_70 : decode cX2_readSum 70 = .ok (.ireturn, 1) := by decide +kernel
theorem dX2_readTerm_0 : decode cX2_readTerm 0 = .ok (.aload_n 0, 1) := by decide +kernel
theorem dX2_readTerm_1 : decode cX2_readTerm 1 = .ok (.iload_n 1, 1) := by decide +kernel
theorem dX2_readTerm_2 : decode cX2_readTerm 2 = .ok (.invokevirtual 150, 3) := by decide +kernel
theorem dX2_readTerm_5 : decode cX2_readTerm 5 = .ok (.ifCond .ne 5, 3) := by decide +kernel
theorem dX2_readTerm_8 : decode cX2_readTerm 8 = .ok (.iconst 0, 1) := by decide +kernel
theorem dX2_readTerm_9 : decode cX2_readTerm 9 = .ok (.ireturn, 1) := by decide +kernel
theorem dX2_readTerm_10 : decode cX2_readTerm 10 = .ok (.iconst 0, 1) := by decide +kernel
theorem dX2_readTerm_11 : decode cX2_readTerm 11 = .ok (.istore_n 2, 1) := by decide +kernel
theorem dX2_readTerm_12 : decode cX2_readTerm 12 = .ok (.iload_n 2, 1) := by decide +kernel
theorem dX2_readTerm_13 : decode cX2_readTerm 13 = .ok (.sipush 160, 3) := by decide +kernel
theorem dX2_readTerm_16 : decode cX2_readTerm 16 = .ok (.if_icmp .ge 34, 3) := by decide +kernel
theorem dX2_readTerm_19 : decode cX2_readTerm 19 = .ok (.aload_n 0, 1) := by decide +kernel
theorem dX2_readTerm_20 : decode cX2_readTerm 20 = .ok (.bipush (-16), 2) := by decide +kernel
theorem dX2_readTerm_22 : decode cX2_readTerm 22 = .ok (.invokevirtual 128, 3) := by decide +kernel
theorem dX2_readTerm_25 : decode cX2_readTerm 25 = .ok (.ifCond .eq 25, 3) := by decide +kernel
theorem dX2_readTerm_28 : decode cX2_readTerm 28 = .ok (.aload_n 0, 1) := by decide +kernel
theorem dX2_readTerm_29 : decode cX2_readTerm 29 = .ok (.iload_n 1, 1) := by decide +kernel
theorem dX2_readTerm_30 : decode cX2_readTerm 30 = .ok (.invokevirtual 150, 3) := by decide +kernel
theorem dX2_readTerm_33 : decode cX2_readTerm 33 = .ok (.ifCond .ne 5, 3) := by decide +kernel
theorem dX2_readTerm_36 : decode cX2_readTerm 36 = .ok (.iconst 0, 1) := by decide +kernel
theorem dX2_readTerm_37 : decode cX2_readTerm 37 = .ok (.ireturn, 1) := by decide +kernel
theorem dX2_readTerm_38 : decode cX2_readTerm 38 = .ok (.aload_n 0, 1) := by decide +kernel
theorem dX2_readTerm_39 : decode cX2_readTerm 39 = .ok (.bipush (-16), 2) := by decide +kernel
theorem dX2_readTerm_41 : decode cX2_readTerm 41 = .ok (.invokevirtual 137, 3) := by decide +kernel
theorem dX2_readTerm_44 : decode cX2_readTerm 44 = .ok (.iinc 2 1, 3) := by decide +kernel
theorem dX2_readTerm_47 : decode cX2_readTerm 47 = .ok (.goto (-35), 3) := by decide +kernel
theorem dX2_readTerm_50 : decode cX2_readTerm 50 = .ok (.iconst 1, 1) := by decide +kernel
theorem dX2_readTerm_51 : decode cX2_readTerm 51 = .ok (.ireturn, 1) := by decide +kernel
theorem dX2_readOne_0 : decode cX2_readOne 0 = .ok (.aload_n 0, 1) := by decide +kernel
theorem dX2_readOne_1 : decode cX2_readOne 1 = .ok (.invokevirtual 50, 3) := by decide +kernel
theorem dX2_readOne_4 : decode cX2_readOne 4 = .ok (.istore_n 2, 1) := by decide +kernel
theorem dX2_readOne_5 : decode cX2_readOne 5 = .ok (.iload_n 2, 1) := by decide +kernel
theorem dX2_readOne_6 : decode cX2_readOne 6 = .ok (.bipush (-6), 2) := by decide +kernel
theorem dX2_readOne_8 : decode cX2_readOne 8 = .ok (.if_icmp .lt 20, 3) := by decide +kernel
theorem dX2_readOne_11 : decode cX2_readOne 11 = .ok (.aload_n 0, 1) := by decide +kernel
theorem dX2_readOne_12 : decode cX2_readOne 12 = .ok (.iload_n 2, 1) := by decide +kernel
theorem dX2_readOne_13 : decode cX2_readOne 13 = .ok (.invokevirtual 137, 3) := by decide +kernel
theorem dX2_readOne_16 : decode cX2_readOne 16 = .ok (.aload_n 0, 1) := by decide +kernel
theorem dX2_readOne_17 : decode cX2_readOne 17 = .ok (.dup, 1) := by decide +kernel
theorem dX2_readOne_18 : decode cX2_readOne 18 = .ok (.getfield 40, 3) := by decide +kernel
theorem dX2_readOne_21 : decode cX2_readOne 21 = .ok (.iconst 1, 1) := by decide +kernel
theorem dX2_readOne_22 : decode cX2_readOne 22 = .ok (.iadd, 1) := by decide +kernel
theorem dX2_readOne_23 : decode cX2_readOne 23 = .ok (.putfield 40, 3) := by decide +kernel
theorem dX2_readOne_26 : decode cX2_readOne 26 = .ok (.iconst 1, 1) := by decide +kernel
theorem dX2_readOne_27 : decode cX2_readOne 27 = .ok (.ireturn, 1) := by decide +kernel
theorem dX2_readOne_28 : decode cX2_readOne 28 = .ok (.iload_n 2, 1) := by decide +kernel
theorem dX2_readOne_29 : decode cX2_readOne 29 = .ok (.bipush (-15), 2) := by decide +kernel
theorem dX2_readOne_31 : decode cX2_readOne 31 = .ok (.if_icmp .eq 9, 3) := by decide +kernel
theorem dX2_readOne_34 : decode cX2_readOne 34 = .ok (.iload_n 2, 1) := by decide +kernel
theorem dX2_readOne_35 : decode cX2_readOne 35 = .ok (.bipush (-30), 2) := by decide +kernel
theorem dX2_readOne_37 : decode cX2_readOne 37 = .ok (.if_icmp .ne 8, 3) := by decide +kernel
theorem dX2_readOne_40 : decode cX2_readOne 40 = .ok (.iload_n 1, 1) := by decide +kernel
theorem dX2_readOne_41 : decode cX2_readOne 41 = .ok (.iconst 5, 1) := by decide +kernel
theorem dX2_readOne_42 : decode cX2_readOne 42 = .ok (.if_icmp .lt 5, 3) := by decide +kernel
theorem dX2_readOne_45 : decode cX2_readOne 45 = .ok (.iconst 0, 1) := by decide +kernel
theorem dX2_readOne_46 : decode cX2_readOne 46 = .ok (.ireturn, 1) := by decide +kernel
theorem dX2_readOne_47 : decode cX2_readOne 47 = .ok (.aload_n 0, 1) := by decide +kernel
theorem dX2_readOne_48 : decode cX2_readOne 48 = .ok (.dup, 1) := by decide +kernel
theorem dX2_readOne_49 : decode cX2_readOne 49 = .ok (.getfield 40, 3) := by decide +kernel
theorem dX2_readOne_52 : decode cX2_readOne 52 = .ok (.iconst 1, 1) := by decide +kernel
theorem dX2_readOne_53 : decode cX2_readOne 53 = .ok (.iadd, 1) := by decide +kernel
theorem dX2_readOne_54 : decode cX2_readOne 54 = .ok (.putfield 40, 3) := by decide +kernel
theorem dX2_readOne_57 : decode cX2_readOne 57 = .ok (.iload_n 2, 1) := by decide +kernel
theorem dX2_readOne_58 : decode cX2_readOne 58 = .ok (.bipush (-30), 2) := by decide +kernel
theorem dX2_readOne_60 : decode cX2_readOne 60 = .ok (.if_icmp .ne 28, 3) := by decide +kernel
theorem dX2_readOne_63 : decode cX2_readOne 63 = .ok (.aload_n 0, 1) := by decide +kernel
theorem dX2_readOne_64 : decode cX2_readOne 64 = .ok (.iload_n 1, 1) := by decide +kernel
theorem dX2_readOne_65 : decode cX2_readOne 65 = .ok (.iconst 1, 1) := by decide +kernel
theorem dX2_readOne_66 : decode cX2_readOne 66 = .ok (.iadd, 1) := by decide +kernel
theorem dX2_readOne_67 : decode cX2_readOne 67 = .ok (.invokevirtual 131, 3) := by decide +kernel
theorem dX2_readOne_70 : decode cX2_readOne 70 = .ok (.ifCond .eq 16, 3) := by decide +kernel
theorem dX2_readOne_73 : decode cX2_readOne 73 = .ok (.aload_n 0, 1) := by decide +kernel
theorem dX2_readOne_74 : decode cX2_readOne 74 = .ok (.bipush (-31), 2) := by decide +kernel
theorem dX2_readOne_76 : decode cX2_readOne 76 = .ok (.invokevirtual 128, 3) := by decide +kernel
theorem dX2_readOne_79 : decode cX2_readOne 79 = .ok (.ifCond .eq 7, 3) := by decide +kernel
theorem dX2_readOne_82 : decode cX2_readOne 82 = .ok (.iconst 1, 1) := by decide +kernel
theorem dX2_readOne_83 : decode cX2_readOne 83 = .ok (.goto 4, 3) := by decide +kernel
theorem dX2_readOne_86 : decode cX2_readOne 86 = .ok (.iconst 0, 1) := by decide +kernel
theorem dX2_readOne_87 : decode cX2_readOne 87 = .ok (.ireturn, 1) := by decide +kernel
theorem dX2_readOne_88 : decode cX2_readOne 88 = .ok (.aload_n 0, 1) := by decide +kernel
theorem dX2_readOne_89 : decode cX2_readOne 89 = .ok (.iload_n 1, 1) := by decide +kernel
theorem dX2_readOne_90 : decode cX2_readOne 90 = .ok (.iconst 1, 1) := by decide +kernel
theorem dX2_readOne_91 : decode cX2_readOne 91 = .ok (.iadd, 1) := by decide +kernel
theorem dX2_readOne_92 : decode cX2_readOne 92 = .ok (.invokevirtual 150, 3) := by decide +kernel
theorem dX2_readOne_95 : decode cX2_readOne 95 = .ok (.istore_n 3, 1) := by decide +kernel
theorem dX2_readOne_96 : decode cX2_readOne 96 = .ok (.aload_n 0, 1) := by decide +kernel
theorem dX2_readOne_97 : decode cX2_readOne 97 = .ok (.bipush (-18), 2) := by decide +kernel
theorem dX2_readOne_99 : decode cX2_readOne 99 = .ok (.invokevirtual 137, 3) := by decide +kernel
theorem dX2_readOne_102 : decode cX2_readOne 102 = .ok (.iload_n 3, 1) := by decide +kernel
theorem dX2_readOne_103 : decode cX2_readOne 103 = .ok (.ireturn, 1) := by decide +kernel
theorem dX3_says_0 : decode cX3_says 0 = .ok (.iload_n 1, 1) := by decide +kernel
theorem dX3_says_1 : decode cX3_says 1 = .ok (.ifCond .lt 29, 3) := by decide +kernel
theorem dX3_says_4 : decode cX3_says 4 = .ok (.iload_n 1, 1) := by decide +kernel
theorem dX3_says_5 : decode cX3_says 5 = .ok (.aload_n 0, 1) := by decide +kernel
theorem dX3_says_6 : decode cX3_says 6 = .ok (.getfield 27, 3) := by decide +kernel
theorem dX3_says_9 : decode cX3_says 9 = .ok (.if_icmp .ge 21, 3) := by decide +kernel
theorem dX3_says_12 : decode cX3_says 12 = .ok (.iload_n 1, 1) := by decide +kernel
theorem dX3_says_13 : decode cX3_says 13 = .ok (.aload_n 0, 1) := by decide +kernel
theorem dX3_says_14 : decode cX3_says 14 = .ok (.getfield 11, 3) := by decide +kernel
theorem dX3_says_17 : decode cX3_says 17 = .ok (.arraylength, 1) := by decide +kernel
theorem dX3_says_18 : decode cX3_says 18 = .ok (.if_icmp .ge 12, 3) := by decide +kernel
theorem dX3_says_21 : decode cX3_says 21 = .ok (.aload_n 0, 1) := by decide +kernel
theorem dX3_says_22 : decode cX3_says 22 = .ok (.getfield 11, 3) := by decide +kernel
theorem dX3_says_25 : decode cX3_says 25 = .ok (.iload_n 1, 1) := by decide +kernel
theorem dX3_says_26 : decode cX3_says 26 = .ok (.aaload, 1) := by decide +kernel
theorem dX3_says_27 : decode cX3_says 27 = .ok (.goto 4, 3) := by decide +kernel
theorem dX3_says_30 : decode cX3_says 30 = .ok (.aconst_null, 1) := by decide +kernel
theorem dX3_says_31 : decode cX3_says 31 = .ok (.astore 6, 2) := by decide +kernel
theorem dX3_says_33 : decode cX3_says 33 = .ok (.aload 6, 2) := by decide +kernel
theorem dX3_says_35 : decode cX3_says 35 = .ok (.ifnonnull 5, 3) := by decide +kernel
theorem dX3_says_38 : decode cX3_says 38 = .ok (.iconst 0, 1) := by decide +kernel
theorem dX3_says_39 : decode cX3_says 39 = .ok (.ireturn, 1) := by decide +kernel
theorem dX3_says_40 : decode cX3_says 40 = .ok (.aload_n 0, 1) := by decide +kernel
theorem dX3_says_41 : decode cX3_says 41 = .ok (.getfield 21, 3) := by decide +kernel
theorem dX3_says_44 : decode cX3_says 44 = .ok (.iconst 0, 1) := by decide +kernel
theorem dX3_says_45 : decode cX3_says 45 = .ok (.aload_n 3, 1) := by decide +kernel
theorem dX3_says_46 : decode cX3_says 46 = .ok (.getfield 31, 3) := by decide +kernel
theorem dX3_says_49 : decode cX3_says 49 = .ok (.iastore, 1) := by decide +kernel
theorem dX3_says_50 : decode cX3_says 50 = .ok (.aload_n 0, 1) := by decide +kernel
theorem dX3_says_51 : decode cX3_says 51 = .ok (.getfield 21, 3) := by decide +kernel
theorem dX3_says_54 : decode cX3_says 54 = .ok (.iconst 1, 1) := by decide +kernel
theorem dX3_says_55 : decode cX3_says 55 = .ok (.aload_n 3, 1) := by decide +kernel
theorem dX3_says_56 : decode cX3_says 56 = .ok (.getfield 36, 3) := by decide +kernel
theorem dX3_says_59 : decode cX3_says 59 = .ok (.iastore, 1) := by decide +kernel
theorem dX3_says_60 : decode cX3_says 60 = .ok (.aload_n 0, 1) := by decide +kernel
theorem dX3_says_61 : decode cX3_says 61 = .ok (.getfield 21, 3) := by decide +kernel
theorem dX3_says_64 : decode cX3_says 64 = .ok (.iconst 2, 1) := by decide +kernel
theorem dX3_says_65 : decode cX3_says 65 = .ok (.aload_n 3, 1) := by decide +kernel
theorem dX3_says_66 : decode cX3_says 66 = .ok (.getfield 39, 3) := by decide +kernel
theorem dX3_says_69 : decode cX3_says 69 = .ok (.iastore, 1) := by decide +kernel
theorem dX3_says_70 : decode cX3_says 70 = .ok (.aload_n 0, 1) := by decide +kernel
theorem dX3_says_71 : decode cX3_says 71 = .ok (.getfield 21, 3) := by decide +kernel
theorem dX3_says_74 : decode cX3_says 74 = .ok (.iconst 3, 1) := by decide +kernel
theorem dX3_says_75 : decode cX3_says 75 = .ok (.iload 4, 2) := by decide +kernel
theorem dX3_says_77 : decode cX3_says 77 = .ok (.iastore, 1) := by decide +kernel
theorem dX3_says_78 : decode cX3_says 78 = .ok (.aload_n 0, 1) := by decide +kernel
theorem dX3_says_79 : decode cX3_says 79 = .ok (.getfield 21, 3) := by decide +kernel
theorem dX3_says_82 : decode cX3_says 82 = .ok (.iconst 4, 1) := by decide +kernel
theorem dX3_says_83 : decode cX3_says 83 = .ok (.iload 5, 2) := by decide +kernel
theorem dX3_says_85 : decode cX3_says 85 = .ok (.iastore, 1) := by decide +kernel
theorem dX3_says_86 : decode cX3_says 86 = .ok (.aload_n 0, 1) := by decide +kernel
theorem dX3_says_87 : decode cX3_says 87 = .ok (.getfield 21, 3) := by decide +kernel
theorem dX3_says_90 : decode cX3_says 90 = .ok (.iconst 5, 1) := by decide +kernel
theorem dX3_says_91 : decode cX3_says 91 = .ok (.aload_n 3, 1) := by decide +kernel
theorem dX3_says_92 : decode cX3_says 92 = .ok (.getfield 42, 3) := by decide +kernel
theorem dX3_says_95 : decode cX3_says 95 = .ok (.iastore, 1) := by decide +kernel
theorem dX3_says_96 : decode cX3_says 96 = .ok (.iconst 0, 1) := by decide +kernel
theorem dX3_says_97 : decode cX3_says 97 = .ok (.bipush 99, 2) := by decide +kernel
theorem dX3_says_99 : decode cX3_says 99 = .ok (.aload_n 0, 1) := by decide +kernel
theorem dX3_says_100 : decode cX3_says 100 = .ok (.aload 6, 2) := by decide +kernel
theorem dX3_says_102 : decode cX3_says 102 = .ok (.iload_n 2, 1) := by decide +kernel
theorem dX3_says_103 : decode cX3_says 103 = .ok (.invokevirtual 45, 3) := by decide +kernel
theorem dX3_says_106 : decode cX3_says 106 = .ok (.invokevirtual 49, 3) := by decide +kernel
theorem dX3_says_109 : decode cX3_says 109 = .ok (.invokestatic 53, 3) := by decide +kernel
theorem dX3_says_112 : decode cX3_says 112 = .ok (.invokestatic 59, 3) := by decide +kernel
theorem dX3_says_115 : decode cX3_says 115 = .ok (.ireturn, 1) := by decide +kernel
theorem dX3_grown_0 : decode cX3_grown 0 = .ok (.aload_n 2, 1) := by decide +kernel
theorem dX3_grown_1 : decode cX3_grown 1 = .ok (.getfield 62, 3) := by decide +kernel
theorem dX3_grown_4 : decode cX3_grown 4 = .ok (.ifCond .eq 8, 3) := by decide +kernel
theorem dX3_grown_7 : decode cX3_grown 7 = .ok (.aload_n 2, 1) := by decide +kernel
theorem dX3_grown_8 : decode cX3_grown 8 = .ok (.getfield 31, 3) := by decide +kernel
theorem dX3_grown_11 : decode cX3_grown 11 = .ok (.ireturn, 1) := by decide +kernel
theorem dX3_grown_12 : decode cX3_grown 12 = .ok (.iconst 0, 1) := by decide +kernel
theorem dX3_grown_13 : decode cX3_grown 13 = .ok (.aload_n 2, 1) := by decide +kernel
theorem dX3_grown_14 : decode cX3_grown 14 = .ok (.iload_n 3, 1) := by decide +kernel
theorem dX3_grown_15 : decode cX3_grown 15 = .ok (.aload_n 0, 1) := by decide +kernel
theorem dX3_grown_16 : decode cX3_grown 16 = .ok (.iload_n 1, 1) := by decide +kernel
theorem dX3_grown_17 : decode cX3_grown 17 = .ok (.iconst 0, 1) := by decide +kernel
theorem dX3_grown_18 : decode cX3_grown 18 = .ok (.aload_n 2, 1) := by decide +kernel
theorem dX3_grown_19 : decode cX3_grown 19 = .ok (.iload_n 3, 1) := by decide +kernel
theorem dX3_grown_20 : decode cX3_grown 20 = .ok (.iload 4, 2) := by decide +kernel
theorem dX3_grown_22 : decode cX3_grown 22 = .ok (.invokevirtual 66, 3) := by decide +kernel
theorem dX3_grown_25 : decode cX3_grown 25 = .ok (.invokevirtual 70, 3) := by decide +kernel
theorem dX3_grown_28 : decode cX3_grown 28 = .ok (.invokestatic 59, 3) := by decide +kernel
theorem dX3_grown_31 : decode cX3_grown 31 = .ok (.istore 5, 2) := by decide +kernel
theorem dX3_grown_33 : decode cX3_grown 33 = .ok (.sipush 999, 3) := by decide +kernel
theorem dX3_grown_36 : decode cX3_grown 36 = .ok (.aload_n 2, 1) := by decide +kernel
theorem dX3_grown_37 : decode cX3_grown 37 = .ok (.getfield 31, 3) := by decide +kernel
theorem dX3_grown_40 : decode cX3_grown 40 = .ok (.iload 5, 2) := by decide +kernel
theorem dX3_grown_42 : decode cX3_grown 42 = .ok (.iadd, 1) := by decide +kernel
theorem dX3_grown_43 : decode cX3_grown 43 = .ok (.invokestatic 53, 3) := by decide +kernel
theorem dX3_grown_46 : decode cX3_grown 46 = .ok (.ireturn, 1) := by decide +kernel
theorem dX3_worth_0 : decode cX3_worth 0 = .ok (.iconst 0, 1) := by decide +kernel
theorem dX3_worth_1 : decode cX3_worth 1 = .ok (.istore_n 2, 1) := by decide +kernel
theorem dX3_worth_2 : decode cX3_worth 2 = .ok (.iconst 0, 1) := by decide +kernel
theorem dX3_worth_3 : decode cX3_worth 3 = .ok (.istore_n 3, 1) := by decide +kernel
theorem dX3_worth_4 : decode cX3_worth 4 = .ok (.iload_n 3, 1) := by decide +kernel
theorem dX3_worth_5 : decode cX3_worth 5 = .ok (.aload_n 1, 1) := by decide +kernel
theorem dX3_worth_6 : decode cX3_worth 6 = .ok (.arraylength, 1) := by decide +kernel
theorem dX3_worth_7 : decode cX3_worth 7 = .ok (.if_icmp .ge 176, 3) := by decide +kernel
theorem dX3_worth_10 : decode cX3_worth 10 = .ok (.aload_n 1, 1) := by decide +kernel
theorem dX3_worth_11 : decode cX3_worth 11 = .ok (.iload_n 3, 1) := by decide +kernel
theorem dX3_worth_12 : decode cX3_worth 12 = .ok (.iaload, 1) := by decide +kernel
theorem dX3_worth_13 : decode cX3_worth 13 = .ok (.istore 4, 2) := by decide +kernel
theorem dX3_worth_15 : decode cX3_worth 15 = .ok (.iload 4, 2) := by decide +kernel
theorem dX3_worth_17 : decode cX3_worth 17 = .ok (.bipush (-10), 2) := by decide +kernel
theorem dX3_worth_19 : decode cX3_worth 19 = .ok (.if_icmp .le 36, 3) := by decide +kernel
theorem dX3_worth_22 : decode cX3_worth 22 = .ok (.iload_n 2, 1) := by decide +kernel
theorem dX3_worth_23 : decode cX3_worth 23 = .ok (.ifCond .lt 12, 3) := by decide +kernel
theorem dX3_worth_26 : decode cX3_worth 26 = .ok (.iload_n 2, 1) := by decide +kernel
theorem dX3_worth_27 : decode cX3_worth 27 = .ok (.aload_n 0, 1) := by decide +kernel
theorem dX3_worth_28 : decode cX3_worth 28 = .ok (.getfield 17, 3) := by decide +kernel
theorem dX3_worth_31 : decode cX3_worth 31 = .ok (.arraylength, 1) := by decide +kernel
theorem dX3_worth_32 : decode cX3_worth 32 = .ok (.if_icmp .lt 5, 3) := by decide +kernel
theorem dX3_worth_35 : decode cX3_worth 35 = .ok (.iconst 0, 1) := by decide +kernel
theorem dX3_worth_36 : decode cX3_worth 36 = .ok (.ireturn, 1) := by decide +kernel
theorem dX3_worth_37 : decode cX3_worth 37 = .ok (.aload_n 0, 1) := by decide +kernel
theorem dX3_worth_38 : decode cX3_worth 38 = .ok (.getfield 17, 3) := by decide +kernel
theorem dX3_worth_41 : decode cX3_worth 41 = .ok (.iload_n 2, 1) := by decide +kernel
theorem dX3_worth_42 : decode cX3_worth 42 = .ok (.aload_n 0, 1) := by decide +kernel
theorem dX3_worth_43 : decode cX3_worth 43 = .ok (.iload 4, 2) := by decide +kernel
theorem dX3_worth_45 : decode cX3_worth 45 = .ok (.invokevirtual 73, 3) := by decide +kernel
theorem dX3_worth_48 : decode cX3_worth 48 = .ok (.iastore, 1) := by decide +kernel
theorem dX3_worth_49 : decode cX3_worth 49 = .ok (.iinc 2 1, 3) := by decide +kernel
theorem dX3_worth_52 : decode cX3_worth 52 = .ok (.goto 125, 3) := by decide +kernel
theorem dX3_worth_55 : decode cX3_worth 55 = .ok (.iload 4, 2) := by decide +kernel
theorem dX3_worth_57 : decode cX3_worth 57 = .ok (.bipush (-17), 2) := by decide +kernel
theorem dX3_worth_59 : decode cX3_worth 59 = .ok (.if_icmp .eq 10, 3) := by decide +kernel
theorem dX3_worth_62 : decode cX3_worth 62 = .ok (.iload 4, 2) := by decide +kernel
theorem dX3_worth_64 : decode cX3_worth 64 = .ok (.bipush (-18), 2) := by decide +kernel
theorem dX3_worth_66 : decode cX3_worth 66 = .ok (.if_icmp .ne 63, 3) := by decide +kernel
theorem dX3_worth_69 : decode cX3_worth 69 = .ok (.iload_n 2, 1) := by decide +kernel
theorem dX3_worth_70 : decode cX3_worth 70 = .ok (.iconst 1, 1) := by decide +kernel
theorem dX3_worth_71 : decode cX3_worth 71 = .ok (.if_icmp .lt 12, 3) := by decide +kernel
theorem dX3_worth_74 : decode cX3_worth 74 = .ok (.iload_n 2, 1) := by decide +kernel
theorem dX3_worth_75 : decode cX3_worth 75 = .ok (.aload_n 0, 1) := by decide +kernel
theorem dX3_worth_76 : decode cX3_worth 76 = .ok (.getfield 17, 3) := by decide +kernel
theorem dX3_worth_79 : decode cX3_worth 79 = .ok (.arraylength, 1) := by decide +kernel
theorem dX3_worth_80 : decode cX3_worth 80 = .ok (.if_icmp .le 5, 3) := by decide +kernel
theorem dX3_worth_83 : decode cX3_worth 83 = .ok (.iconst 0, 1) := by decide +kernel
theorem dX3_worth_84 : decode cX3_worth 84 = .ok (.ireturn, 1) := by decide +kernel
theorem dX3_worth_85 : decode cX3_worth 85 = .ok (.aload_n 0, 1) := by decide +kernel
theorem dX3_worth_86 : decode cX3_worth 86 = .ok (.getfield 17, 3) := by decide +kernel
theorem dX3_worth_89 : decode cX3_worth 89 = .ok (.iload_n 2, 1) := by decide +kernel
theorem dX3_worth_90 : decode cX3_worth 90 = .ok (.iconst 1, 1) := by decide +kernel
theorem dX3_worth_91 : decode cX3_worth 91 = .ok (.isub, 1) := by decide +kernel
theorem dX3_worth_92 : decode cX3_worth 92 = .ok (.iaload, 1) := by decide +kernel
theorem dX3_worth_93 : decode cX3_worth 93 = .ok (.istore 5, 2) := by decide +kernel
theorem dX3_worth_95 : decode cX3_worth 95 = .ok (.aload_n 0, 1) := by decide +kernel
theorem dX3_worth_96 : decode cX3_worth 96 = .ok (.getfield 17, 3) := by decide +kernel
theorem dX3_worth_99 : decode cX3_worth 99 = .ok (.iload_n 2, 1) := by decide +kernel
theorem dX3_worth_100 : decode cX3_worth 100 = .ok (.iconst 1, 1) := by decide +kernel
theorem dX3_worth_101 : decode cX3_worth 101 = .ok (.isub, 1) := by decide +kernel
theorem dX3_worth_102 : decode cX3_worth 102 = .ok (.iload 4, 2) := by decide +kernel
theorem dX3_worth_104 : decode cX3_worth 104 = .ok (.bipush (-18), 2) := by decide +kernel
theorem dX3_worth_106 : decode cX3_worth 106 = .ok (.if_icmp .ne 9, 3) := by decide +kernel
theorem dX3_worth_109 : decode cX3_worth 109 = .ok (.iload 5, 2) := by decide +kernel
theorem dX3_worth_111 : decode cX3_worth 111 = .ok (.ineg, 1) := by decide +kernel
theorem dX3_worth_112 : decode cX3_worth 112 = .ok (.goto 13, 3) := by decide +kernel
theorem dX3_worth_115 : decode cX3_worth 115 = .ok (.iload 5, 2) := by decide +kernel
theorem dX3_worth_117 : decode cX3_worth 117 = .ok (.ifCond .ne 7, 3) := by decide +kernel
theorem dX3_worth_120 : decode cX3_worth 120 = .ok (.iconst 1, 1) := by decide +kernel
theorem dX3_worth_121 : decode cX3_worth 121 = .ok (.goto 4, 3) := by decide +kernel
theorem dX3_worth_124 : decode cX3_worth 124 = .ok (.iconst 0, 1) := by decide +kernel
theorem dX3_worth_125 : decode cX3_worth 125 = .ok (.iastore, 1) := by decide +kernel
theorem dX3_worth_126 : decode cX3_worth 126 = .ok (.goto 51, 3) := by decide +kernel
theorem dX3_worth_129 : decode cX3_worth 129 = .ok (.iload_n 2, 1) := by decide +kernel
theorem dX3_worth_130 : decode cX3_worth 130 = .ok (.iconst 2, 1) := by decide +kernel
theorem dX3_worth_131 : decode cX3_worth 131 = .ok (.if_icmp .lt 12, 3) := by decide +kernel
theorem dX3_worth_134 : decode cX3_worth 134 = .ok (.iload_n 2, 1) := by decide +kernel
theorem dX3_worth_135 : decode cX3_worth 135 = .ok (.aload_n 0, 1) := by decide +kernel
theorem dX3_worth_136 : decode cX3_worth 136 = .ok (.getfield 17, 3) := by decide +kernel
theorem dX3_worth_139 : decode cX3_worth 139 = .ok (.arraylength, 1) := by decide +kernel
theorem dX3_worth_140 : decode cX3_worth 140 = .ok (.if_icmp .le 5, 3) := by decide +kernel
theorem dX3_worth_143 : decode cX3_worth 143 = .ok (.iconst 0, 1) := by decide +kernel
theorem dX3_worth_144 : decode cX3_worth 144 = .ok (.ireturn, 1) := by decide +kernel
theorem dX3_worth_145 : decode cX3_worth 145 = .ok (.aload_n 0, 1) := by decide +kernel
theorem dX3_worth_146 : decode cX3_worth 146 = .ok (.getfield 17, 3) := by decide +kernel
theorem dX3_worth_149 : decode cX3_worth 149 = .ok (.iload_n 2, 1) := by decide +kernel
theorem dX3_worth_150 : decode cX3_worth 150 = .ok (.iconst 2, 1) := by decide +kernel
theorem dX3_worth_151 : decode cX3_worth 151 = .ok (.isub, 1) := by decide +kernel
theorem dX3_worth_152 : decode cX3_worth 152 = .ok (.iload 4, 2) := by decide +kernel
theorem dX3_worth_154 : decode cX3_worth 154 = .ok (.aload_n 0, 1) := by decide +kernel
theorem dX3_worth_155 : decode cX3_worth 155 = .ok (.getfield 17, 3) := by decide +kernel
theorem dX3_worth_158 : decode cX3_worth 158 = .ok (.iload_n 2, 1) := by decide +kernel
theorem dX3_worth_159 : decode cX3_worth 159 = .ok (.iconst 2, 1) := by decide +kernel
theorem dX3_worth_160 : decode cX3_worth 160 = .ok (.isub, 1) := by decide +kernel
theorem dX3_worth_161 : decode cX3_worth 161 = .ok (.iaload, 1) := by decide +kernel
theorem dX3_worth_162 : decode cX3_worth 162 = .ok (.aload_n 0, 1) := by decide +kernel
theorem dX3_worth_163 : decode cX3_worth 163 = .ok (.getfield 17, 3) := by decide +kernel
theorem dX3_worth_166 : decode cX3_worth 166 = .ok (.iload_n 2, 1) := by decide +kernel
theorem dX3_worth_167 : decode cX3_worth 167 = .ok (.iconst 1, 1) := by decide +kernel
theorem dX3_worth_168 : decode cX3_worth 168 = .ok (.isub, 1) := by decide +kernel
theorem dX3_worth_169 : decode cX3_worth 169 = .ok (.iaload, 1) := by decide +kernel
theorem dX3_worth_170 : decode cX3_worth 170 = .ok (.invokestatic 77, 3) := by decide +kernel
theorem dX3_worth_173 : decode cX3_worth 173 = .ok (.iastore, 1) := by decide +kernel
theorem dX3_worth_174 : decode cX3_worth 174 = .ok (.iinc 2 (-1), 3) := by decide +kernel
theorem dX3_worth_177 : decode cX3_worth 177 = .ok (.iinc 3 1, 3) := by decide +kernel
theorem dX3_worth_180 : decode cX3_worth 180 = .ok (.goto (-176), 3) := by decide +kernel
theorem dX3_worth_183 : decode cX3_worth 183 = .ok (.aload_n 0, 1) := by decide +kernel
theorem dX3_worth_184 : decode cX3_worth 184 = .ok (.getfield 17, 3) := by decide +kernel
theorem dX3_worth_187 : decode cX3_worth 187 = .ok (.iconst 0, 1) := by decide +kernel
theorem dX3_worth_188 : decode cX3_worth 188 = .ok (.iaload, 1) := by decide +kernel
theorem dX3_worth_189 : decode cX3_worth 189 = .ok (.ireturn, 1) := by decide +kernel
theorem dX3_operand_0 : decode cX3_operand 0 = .ok (.iload_n 1, 1) := by decide +kernel
theorem dX3_operand_1 : decode cX3_operand 1 = .ok (.ifCond .lt 5, 3) := by decide +kernel
theorem dX3_operand_4 : decode cX3_operand 4 = .ok (.iload_n 1, 1) := by decide +kernel
theorem dX3_operand_5 : decode cX3_operand 5 = .ok (.ireturn, 1) := by decide +kernel
theorem dX3_operand_6 : decode cX3_operand 6 = .ok (.iconst (-1), 1) := by decide +kernel
theorem dX3_operand_7 : decode cX3_operand 7 = .ok (.iload_n 1, 1) := by decide +kernel
theorem dX3_operand_8 : decode cX3_operand 8 = .ok (.isub, 1) := by decide +kernel
theorem dX3_operand_9 : decode cX3_operand 9 = .ok (.istore_n 2, 1) := by decide +kernel
theorem dX3_operand_10 : decode cX3_operand 10 = .ok (.iload_n 2, 1) := by decide +kernel
theorem dX3_operand_11 : decode cX3_operand 11 = .ok (.ifCond .lt 21, 3) := by decide +kernel
theorem dX3_operand_14 : decode cX3_operand 14 = .ok (.iload_n 2, 1) := by decide +kernel
theorem dX3_operand_15 : decode cX3_operand 15 = .ok (.aload_n 0, 1) := by decide +kernel
theorem dX3_operand_16 : decode cX3_operand 16 = .ok (.getfield 21, 3) := by decide +kernel
theorem dX3_operand_19 : decode cX3_operand 19 = .ok (.arraylength, 1) := by decide +kernel
theorem dX3_operand_20 : decode cX3_operand 20 = .ok (.if_icmp .ge 12, 3) := by decide +kernel
theorem dX3_operand_23 : decode cX3_operand 23 = .ok (.aload_n 0, 1) := by decide +kernel
theorem dX3_operand_24 : decode cX3_operand 24 = .ok (.getfield 21, 3) := by decide +kernel
theorem dX3_operand_27 : decode cX3_operand 27 = .ok (.iload_n 2, 1) := by decide +kernel
theorem dX3_operand_28 : decode cX3_operand 28 = .ok (.iaload, 1) := by decide +kernel
theorem dX3_operand_29 : decode cX3_operand 29 = .ok (.goto 4, 3) := by decide +kernel
theorem dX3_operand_32 : decode cX3_operand 32 = .ok (.iconst 0, 1) := by decide +kernel
theorem dX3_operand_33 : decode cX3_operand 33 = .ok (.ireturn, 1) := by decide +kernel
theorem dX3_joined_0 : decode cX3_joined 0 = .ok (.iload_n 0, 1) := by decide +kernel
theorem dX3_joined_1 : decode cX3_joined 1 = .ok (.tableswitch 105 (-16) (-10) #[101, 97, 93, 82, 71, 57, 43], 43) := by decide +kernel
theorem dX3_joined_44 : decode cX3_joined 44 = .ok (.iload_n 1, 1) := by decide +kernel
theorem dX3_joined_45 : decode cX3_joined 45 = .ok (.ifCond .ne 7, 3) := by decide +kernel
theorem dX3_joined_48 : decode cX3_joined 48 = .ok (.iload_n 2, 1) := by decide +kernel
theorem dX3_joined_49 : decode cX3_joined 49 = .ok (.ifCond .eq 7, 3) := by decide +kernel
theorem dX3_joined_52 : decode cX3_joined 52 = .ok (.iconst 1, 1) := by decide +kernel
theorem dX3_joined_53 : decode cX3_joined 53 = .ok (.goto 4, 3) := by decide +kernel
theorem dX3_joined_56 : decode cX3_joined 56 = .ok (.iconst 0, 1) := by decide +kernel
theorem dX3_joined_57 : decode cX3_joined 57 = .ok (.ireturn, 1) := by decide +kernel
theorem dX3_joined_58 : decode cX3_joined 58 = .ok (.iload_n 1, 1) := by decide +kernel
theorem dX3_joined_59 : decode cX3_joined 59 = .ok (.ifCond .eq 11, 3) := by decide +kernel
theorem dX3_joined_62 : decode cX3_joined 62 = .ok (.iload_n 2, 1) := by decide +kernel
theorem dX3_joined_63 : decode cX3_joined 63 = .ok (.ifCond .eq 7, 3) := by decide +kernel
theorem dX3_joined_66 : decode cX3_joined 66 = .ok (.iconst 1, 1) := by decide +kernel
theorem dX3_joined_67 : decode cX3_joined 67 = .ok (.goto 4, 3) := by decide +kernel
theorem dX3_joined_70 : decode cX3_joined 70 = .ok (.iconst 0, 1) := by decide +kernel
theorem dX3_joined_71 : decode cX3_joined 71 = .ok (.ireturn, 1) := by decide +kernel
theorem dX3_joined_72 : decode cX3_joined 72 = .ok (.iload_n 1, 1) := by decide +kernel
theorem dX3_joined_73 : decode cX3_joined 73 = .ok (.iload_n 2, 1) := by decide +kernel
theorem dX3_joined_74 : decode cX3_joined 74 = .ok (.if_icmp .ge 7, 3) := by decide +kernel
theorem dX3_joined_77 : decode cX3_joined 77 = .ok (.iconst 1, 1) := by decide +kernel
theorem dX3_joined_78 : decode cX3_joined 78 = .ok (.goto 4, 3) := by decide +kernel
theorem dX3_joined_81 : decode cX3_joined 81 = .ok (.iconst 0, 1) := by decide +kernel
theorem dX3_joined_82 : decode cX3_joined 82 = .ok (.ireturn, 1) := by decide +kernel
theorem dX3_joined_83 : decode cX3_joined 83 = .ok (.iload_n 1, 1) := by decide +kernel
theorem dX3_joined_84 : decode cX3_joined 84 = .ok (.iload_n 2, 1) := by decide +kernel
theorem dX3_joined_85 : decode cX3_joined 85 = .ok (.if_icmp .ne 7, 3) := by decide +kernel
theorem dX3_joined_88 : decode cX3_joined 88 = .ok (.iconst 1, 1) := by decide +kernel
theorem dX3_joined_89 : decode cX3_joined 89 = .ok (.goto 4, 3) := by decide +kernel
theorem dX3_joined_92 : decode cX3_joined 92 = .ok (.iconst 0, 1) := by decide +kernel
theorem dX3_joined_93 : decode cX3_joined 93 = .ok (.ireturn, 1) := by decide +kernel
theorem dX3_joined_94 : decode cX3_joined 94 = .ok (.iload_n 1, 1) := by decide +kernel
theorem dX3_joined_95 : decode cX3_joined 95 = .ok (.iload_n 2, 1) := by decide +kernel
theorem dX3_joined_96 : decode cX3_joined 96 = .ok (.iadd, 1) := by decide +kernel
theorem dX3_joined_97 : decode cX3_joined 97 = .ok (.ireturn, 1) := by decide +kernel
theorem dX3_joined_98 : decode cX3_joined 98 = .ok (.iload_n 1, 1) := by decide +kernel
theorem dX3_joined_99 : decode cX3_joined 99 = .ok (.iload_n 2, 1) := by decide +kernel
theorem dX3_joined_100 : decode cX3_joined 100 = .ok (.isub, 1) := by decide +kernel
theorem dX3_joined_101 : decode cX3_joined 101 = .ok (.ireturn, 1) := by decide +kernel
theorem dX3_joined_102 : decode cX3_joined 102 = .ok (.iload_n 1, 1) := by decide +kernel
theorem dX3_joined_103 : decode cX3_joined 103 = .ok (.iload_n 2, 1) := by decide +kernel
theorem dX3_joined_104 : decode cX3_joined 104 = .ok (.imul, 1) := by decide +kernel
theorem dX3_joined_105 : decode cX3_joined 105 = .ok (.ireturn, 1) := by decide +kernel
theorem dX3_joined_106 : decode cX3_joined 106 = .ok (.iconst 0, 1) := by decide +kernel
theorem dX3_joined_107 : decode cX3_joined 107 = .ok (.ireturn, 1) := by decide +kernel
theorem dX4_makeRow_0 : decode cX4_makeRow 0 = .ok (.aload_n 0, 1) := by decide +kernel
theorem dX4_makeRow_1 : decode cX4_makeRow 1 = .ok (.iload_n 1, 1) := by decide +kernel
theorem dX4_makeRow_2 : decode cX4_makeRow 2 = .ok (.putfield 15, 3) := by decide +kernel
theorem dX4_makeRow_5 : decode cX4_makeRow 5 = .ok (.aload_n 0, 1) := by decide +kernel
theorem dX4_makeRow_6 : decode cX4_makeRow 6 = .ok (.iload_n 2, 1) := by decide +kernel
theorem dX4_makeRow_7 : decode cX4_makeRow 7 = .ok (.putfield 19, 3) := by decide +kernel
theorem dX4_makeRow_10 : decode cX4_makeRow 10 = .ok (.aload_n 0, 1) := by decide +kernel
theorem dX4_makeRow_11 : decode cX4_makeRow 11 = .ok (.getfield 9, 3) := by decide +kernel
theorem dX4_makeRow_14 : decode cX4_makeRow 14 = .ok (.iconst 0, 1) := by decide +kernel
theorem dX4_makeRow_15 : decode cX4_makeRow 15 = .ok (.invokestatic 22, 3) := by decide +kernel
theorem dX4_makeRow_18 : decode cX4_makeRow 18 = .ok (.return_, 1) := by decide +kernel
theorem dX4_number_0 : decode cX4_number 0 = .ok (.iload_n 1, 1) := by decide +kernel
theorem dX4_number_1 : decode cX4_number 1 = .ok (.ifCond .lt 29, 3) := by decide +kernel
theorem dX4_number_4 : decode cX4_number 4 = .ok (.iload_n 1, 1) := by decide +kernel
theorem dX4_number_5 : decode cX4_number 5 = .ok (.aload_n 0, 1) := by decide +kernel
theorem dX4_number_6 : decode cX4_number 6 = .ok (.getfield 19, 3) := by decide +kernel
theorem dX4_number_9 : decode cX4_number 9 = .ok (.if_icmp .ge 21, 3) := by decide +kernel
theorem dX4_number_12 : decode cX4_number 12 = .ok (.iload_n 1, 1) := by decide +kernel
theorem dX4_number_13 : decode cX4_number 13 = .ok (.aload_n 0, 1) := by decide +kernel
theorem dX4_number_14 : decode cX4_number 14 = .ok (.getfield 9, 3) := by decide +kernel
theorem dX4_number_17 : decode cX4_number 17 = .ok (.arraylength, 1) := by decide +kernel
theorem dX4_number_18 : decode cX4_number 18 = .ok (.if_icmp .ge 12, 3) := by decide +kernel
theorem dX4_number_21 : decode cX4_number 21 = .ok (.aload_n 0, 1) := by decide +kernel
theorem dX4_number_22 : decode cX4_number 22 = .ok (.getfield 9, 3) := by decide +kernel
theorem dX4_number_25 : decode cX4_number 25 = .ok (.iload_n 1, 1) := by decide +kernel
theorem dX4_number_26 : decode cX4_number 26 = .ok (.iaload, 1) := by decide +kernel
theorem dX4_number_27 : decode cX4_number 27 = .ok (.goto 4, 3) := by decide +kernel
theorem dX4_number_30 : decode cX4_number 30 = .ok (.iconst 0, 1) := by decide +kernel
theorem dX4_number_31 : decode cX4_number 31 = .ok (.ireturn, 1) := by decide +kernel
theorem dX4_put_0 : decode cX4_put 0 = .ok (.iload_n 1, 1) := by decide +kernel
theorem dX4_put_1 : decode cX4_put 1 = .ok (.ifCond .lt 20, 3) := by decide +kernel
theorem dX4_put_4 : decode cX4_put 4 = .ok (.iload_n 1, 1) := by decide +kernel
theorem dX4_put_5 : decode cX4_put 5 = .ok (.aload_n 0, 1) := by decide +kernel
theorem dX4_put_6 : decode cX4_put 6 = .ok (.getfield 19, 3) := by decide +kernel
theorem dX4_put_9 : decode cX4_put 9 = .ok (.if_icmp .ge 12, 3) := by decide +kernel
theorem dX4_put_12 : decode cX4_put 12 = .ok (.iload_n 1, 1) := by decide +kernel
theorem dX4_put_13 : decode cX4_put 13 = .ok (.aload_n 0, 1) := by decide +kernel
theorem dX4_put_14 : decode cX4_put 14 = .ok (.getfield 9, 3) := by decide +kernel
theorem dX4_put_17 : decode cX4_put 17 = .ok (.arraylength, 1) := by decide +kernel
theorem dX4_put_18 : decode cX4_put 18 = .ok (.if_icmp .lt 4, 3) := by decide +kernel
theorem dX4_put_21 : decode cX4_put 21 = .ok (.return_, 1) := by decide +kernel
theorem dX4_put_22 : decode cX4_put 22 = .ok (.aload_n 0, 1) := by decide +kernel
theorem dX4_put_23 : decode cX4_put 23 = .ok (.getfield 15, 3) := by decide +kernel
theorem dX4_put_26 : decode cX4_put 26 = .ok (.ifCond .ne 14, 3) := by decide +kernel
theorem dX4_put_29 : decode cX4_put 29 = .ok (.aload_n 0, 1) := by decide +kernel
theorem dX4_put_30 : decode cX4_put 30 = .ok (.getfield 9, 3) := by decide +kernel
theorem dX4_put_33 : decode cX4_put 33 = .ok (.iload_n 1, 1) := by decide +kernel
theorem dX4_put_34 : decode cX4_put 34 = .ok (.iload_n 2, 1) := by decide +kernel
theorem dX4_put_35 : decode cX4_put 35 = .ok (.i2b, 1) := by decide +kernel
theorem dX4_put_36 : decode cX4_put 36 = .ok (.iastore, 1) := by decide +kernel
theorem dX4_put_37 : decode cX4_put 37 = .ok (.goto 23, 3) := by decide +kernel
theorem dX4_put_40 : decode cX4_put 40 = .ok (.aload_n 0, 1) := by decide +kernel
theorem dX4_put_41 : decode cX4_put 41 = .ok (.getfield 9, 3) := by decide +kernel
theorem dX4_put_44 : decode cX4_put 44 = .ok (.iload_n 1, 1) := by decide +kernel
theorem dX4_put_45 : decode cX4_put 45 = .ok (.aload_n 0, 1) := by decide +kernel
theorem dX4_put_46 : decode cX4_put 46 = .ok (.getfield 15, 3) := by decide +kernel
theorem dX4_put_49 : decode cX4_put 49 = .ok (.iconst 1, 1) := by decide +kernel
theorem dX4_put_50 : decode cX4_put 50 = .ok (.if_icmp .ne 8, 3) := by decide +kernel
theorem dX4_put_53 : decode cX4_put 53 = .ok (.iload_n 2, 1) := by decide +kernel
theorem dX4_put_54 : decode cX4_put 54 = .ok (.i2s, 1) := by decide +kernel
theorem dX4_put_55 : decode cX4_put 55 = .ok (.goto 4, 3) := by decide +kernel
theorem dX4_put_58 : decode cX4_put 58 = .ok (.iload_n 2, 1) := by decide +kernel
theorem dX4_put_59 : decode cX4_put 59 = .ok (.iastore, 1) := by decide +kernel
theorem dX4_put_60 : decode cX4_put 60 = .ok (.return_, 1) := by decide +kernel
theorem dX4_holds_0 : decode cX4_holds 0 = .ok (.iload_n 1, 1) := by decide +kernel
theorem dX4_holds_1 : decode cX4_holds 1 = .ok (.ifCond .lt 29, 3) := by decide +kernel
theorem dX4_holds_4 : decode cX4_holds 4 = .ok (.iload_n 2, 1) := by decide +kernel
theorem dX4_holds_5 : decode cX4_holds 5 = .ok (.ifCond .lt 25, 3) := by decide +kernel
theorem dX4_holds_8 : decode cX4_holds 8 = .ok (.iload_n 2, 1) := by decide +kernel
theorem dX4_holds_9 : decode cX4_holds 9 = .ok (.aload_n 0, 1) := by decide +kernel
theorem dX4_holds_10 : decode cX4_holds 10 = .ok (.getfield 19, 3) := by decide +kernel
theorem dX4_holds_13 : decode cX4_holds 13 = .ok (.if_icmp .gt 17, 3) := by decide +kernel
theorem dX4_holds_16 : decode cX4_holds 16 = .ok (.iload_n 1, 1) := by decide +kernel
theorem dX4_holds_17 : decode cX4_holds 17 = .ok (.aload_n 0, 1) := by decide +kernel
theorem dX4_holds_18 : decode cX4_holds 18 = .ok (.getfield 19, 3) := by decide +kernel
theorem dX4_holds_21 : decode cX4_holds 21 = .ok (.iload_n 2, 1) := by decide +kernel
theorem dX4_holds_22 : decode cX4_holds 22 = .ok (.isub, 1) := by decide +kernel
theorem dX4_holds_23 : decode cX4_holds 23 = .ok (.if_icmp .gt 7, 3) := by decide +kernel
theorem dX4_holds_26 : decode cX4_holds 26 = .ok (.iconst 1, 1) := by decide +kernel
theorem dX4_holds_27 : decode cX4_holds 27 = .ok (.goto 4, 3) := by decide +kernel
theorem dX4_holds_30 : decode cX4_holds 30 = .ok (.iconst 0, 1) := by decide +kernel
theorem dX4_holds_31 : decode cX4_holds 31 = .ok (.ireturn, 1) := by decide +kernel
theorem dX4_tellsOffers_0 : decode cX4_tellsOffers 0 = .ok (.aload_n 0, 1) := by decide +kernel
theorem dX4_tellsOffers_1 : decode cX4_tellsOffers 1 = .ok (.getfield 19, 3) := by decide +kernel
theorem dX4_tellsOffers_4 : decode cX4_tellsOffers 4 = .ok (.iconst 2, 1) := by decide +kernel
theorem dX4_tellsOffers_5 : decode cX4_tellsOffers 5 = .ok (.irem, 1) := by decide +kernel
theorem dX4_tellsOffers_6 : decode cX4_tellsOffers 6 = .ok (.ifCond .ne 12, 3) := by decide +kernel
theorem dX4_tellsOffers_9 : decode cX4_tellsOffers 9 = .ok (.aload_n 0, 1) := by decide +kernel
theorem dX4_tellsOffers_10 : decode cX4_tellsOffers 10 = .ok (.getfield 19, 3) := by decide +kernel
theorem dX4_tellsOffers_13 : decode cX4_tellsOffers 13 = .ok (.bipush 12, 2) := by decide +kernel
theorem dX4_tellsOffers_15 : decode cX4_tellsOffers 15 = .ok (.if_icmp .le 5, 3) := by decide +kernel
theorem dX4_tellsOffers_18 : decode cX4_tellsOffers 18 = .ok (.iconst 0, 1) := by decide +kernel
theorem dX4_tellsOffers_19 : decode cX4_tellsOffers 19 = .ok (.ireturn, 1) := by decide +kernel
theorem dX4_tellsOffers_20 : decode cX4_tellsOffers 20 = .ok (.iconst 0, 1) := by decide +kernel
theorem dX4_tellsOffers_21 : decode cX4_tellsOffers 21 = .ok (.istore_n 1, 1) := by decide +kernel
theorem dX4_tellsOffers_22 : decode cX4_tellsOffers 22 = .ok (.iload_n 1, 1) := by decide +kernel
theorem dX4_tellsOffers_23 : decode cX4_tellsOffers 23 = .ok (.aload_n 0, 1) := by decide +kernel
theorem dX4_tellsOffers_24 : decode cX4_tellsOffers 24 = .ok (.getfield 19, 3) := by decide +kernel
theorem dX4_tellsOffers_27 : decode cX4_tellsOffers 27 = .ok (.if_icmp .ge 47, 3) := by decide +kernel
theorem dX4_tellsOffers_30 : decode cX4_tellsOffers 30 = .ok (.aload_n 0, 1) := by decide +kernel
theorem dX4_tellsOffers_31 : decode cX4_tellsOffers 31 = .ok (.iload_n 1, 1) := by decide +kernel
theorem dX4_tellsOffers_32 : decode cX4_tellsOffers 32 = .ok (.invokevirtual 28, 3) := by decide +kernel
theorem dX4_tellsOffers_35 : decode cX4_tellsOffers 35 = .ok (.istore_n 2, 1) := by decide +kernel
theorem dX4_tellsOffers_36 : decode cX4_tellsOffers 36 = .ok (.aload_n 0, 1) := by decide +kernel
theorem dX4_tellsOffers_37 : decode cX4_tellsOffers 37 = .ok (.iload_n 1, 1) := by decide +kernel
theorem dX4_tellsOffers_38 : decode cX4_tellsOffers 38 = .ok (.iconst 1, 1) := by decide +kernel
theorem dX4_tellsOffers_39 : decode cX4_tellsOffers 39 = .ok (.iadd, 1) := by decide +kernel
theorem dX4_tellsOffers_40 : decode cX4_tellsOffers 40 = .ok (.invokevirtual 28, 3) := by decide +kernel
theorem dX4_tellsOffers_43 : decode cX4_tellsOffers 43 = .ok (.istore_n 3, 1) := by decide +kernel
theorem dX4_tellsOffers_44 : decode cX4_tellsOffers 44 = .ok (.iload_n 2, 1) := by decide +kernel
theorem dX4_tellsOffers_45 : decode cX4_tellsOffers 45 = .ok (.iconst 1, 1) := by decide +kernel
theorem dX4_tellsOffers_46 : decode cX4_tellsOffers 46 = .ok (.if_icmp .lt 20, 3) := by decide +kernel
theorem dX4_tellsOffers_49 : decode cX4_tellsOffers 49 = .ok (.iload_n 2, 1) := by decide +kernel
theorem dX4_tellsOffers_50 : decode cX4_tellsOffers 50 = .ok (.sipush 200, 3) := by decide +kernel
theorem dX4_tellsOffers_53 : decode cX4_tellsOffers 53 = .ok (.if_icmp .gt 13, 3) := by decide +kernel
theorem dX4_tellsOffers_56 : decode cX4_tellsOffers 56 = .ok (.iload_n 3, 1) := by decide +kernel
theorem dX4_tellsOffers_57 : decode cX4_tellsOffers 57 = .ok (.ifCond .lt 9, 3) := by decide +kernel
theorem dX4_tellsOffers_60 : decode cX4_tellsOffers 60 = .ok (.iload_n 3, 1) := by decide +kernel
theorem dX4_tellsOffers_61 : decode cX4_tellsOffers 61 = .ok (.bipush 60, 2) := by decide +kernel
theorem dX4_tellsOffers_63 : decode cX4_tellsOffers 63 = .ok (.if_icmp .lt 5, 3) := by decide +kernel
theorem dX4_tellsOffers_66 : decode cX4_tellsOffers 66 = .ok (.iconst 0, 1) := by decide +kernel
theorem dX4_tellsOffers_67 : decode cX4_tellsOffers 67 = .ok (.ireturn, 1) := by decide +kernel
theorem dX4_tellsOffers_68 : decode cX4_tellsOffers 68 = .ok (.iinc 1 2, 3) := by decide +kernel
theorem dX4_tellsOffers_71 : decode cX4_tellsOffers 71 = .ok (.goto (-49), 3) := by decide +kernel
theorem dX4_tellsOffers_74 : decode cX4_tellsOffers 74 = .ok (.iconst 1, 1) := by decide +kernel
theorem dX4_tellsOffers_75 : decode cX4_tellsOffers 75 = .ok (.ireturn, 1) := by decide +kernel
theorem dX4_inchesOf_0 : decode cX4_inchesOf 0 = .ok (.iconst 0, 1) := by decide +kernel
theorem dX4_inchesOf_1 : decode cX4_inchesOf 1 = .ok (.istore_n 2, 1) := by decide +kernel
theorem dX4_inchesOf_2 : decode cX4_inchesOf 2 = .ok (.iconst 0, 1) := by decide +kernel
theorem dX4_inchesOf_3 : decode cX4_inchesOf 3 = .ok (.istore_n 3, 1) := by decide +kernel
theorem dX4_inchesOf_4 : decode cX4_inchesOf 4 = .ok (.iload_n 3, 1) := by decide +kernel
theorem dX4_inchesOf_5 : decode cX4_inchesOf 5 = .ok (.bipush 6, 2) := by decide +kernel
theorem dX4_inchesOf_7 : decode cX4_inchesOf 7 = .ok (.if_icmp .ge 27, 3) := by decide +kernel
theorem dX4_inchesOf_10 : decode cX4_inchesOf 10 = .ok (.iload_n 1, 1) := by decide +kernel
theorem dX4_inchesOf_11 : decode cX4_inchesOf 11 = .ok (.iload_n 3, 1) := by decide +kernel
theorem dX4_inchesOf_12 : decode cX4_inchesOf 12 = .ok (.ishr, 1) := by decide +kernel
theorem dX4_inchesOf_13 : decode cX4_inchesOf 13 = .ok (.iconst 1, 1) := by decide +kernel
theorem dX4_inchesOf_14 : decode cX4_inchesOf 14 = .ok (.iand, 1) := by decide +kernel
theorem dX4_inchesOf_15 : decode cX4_inchesOf 15 = .ok (.ifCond .eq 13, 3) := by decide +kernel
theorem dX4_inchesOf_18 : decode cX4_inchesOf 18 = .ok (.iload_n 2, 1) := by decide +kernel
theorem dX4_inchesOf_19 : decode cX4_inchesOf 19 = .ok (.aload_n 0, 1) := by decide +kernel
theorem dX4_inchesOf_20 : decode cX4_inchesOf 20 = .ok (.iconst 2, 1) := by decide +kernel
theorem dX4_inchesOf_21 : decode cX4_inchesOf 21 = .ok (.iload_n 3, 1) := by decide +kernel
theorem dX4_inchesOf_22 : decode cX4_inchesOf 22 = .ok (.imul, 1) := by decide +kernel
theorem dX4_inchesOf_23 : decode cX4_inchesOf 23 = .ok (.invokevirtual 28, 3) := by decide +kernel
theorem dX4_inchesOf_26 : decode cX4_inchesOf 26 = .ok (.iadd, 1) := by decide +kernel
theorem dX4_inchesOf_27 : decode cX4_inchesOf 27 = .ok (.istore_n 2, 1) := by decide +kernel
theorem dX4_inchesOf_28 : decode cX4_inchesOf 28 = .ok (.iinc 3 1, 3) := by decide +kernel
theorem dX4_inchesOf_31 : decode cX4_inchesOf 31 = .ok (.goto (-27), 3) := by decide +kernel
theorem dX4_inchesOf_34 : decode cX4_inchesOf 34 = .ok (.iload_n 2, 1) := by decide +kernel
theorem dX4_inchesOf_35 : decode cX4_inchesOf 35 = .ok (.ireturn, 1) := by decide +kernel
theorem dX4_lastWeekOf_0 : decode cX4_lastWeekOf 0 = .ok (.iconst 0, 1) := by decide +kernel
theorem dX4_lastWeekOf_1 : decode cX4_lastWeekOf 1 = .ok (.istore_n 2, 1) := by decide +kernel
theorem dX4_lastWeekOf_2 : decode cX4_lastWeekOf 2 = .ok (.iconst 0, 1) := by decide +kernel
theorem dX4_lastWeekOf_3 : decode cX4_lastWeekOf 3 = .ok (.istore_n 3, 1) := by decide +kernel
theorem dX4_lastWeekOf_4 : decode cX4_lastWeekOf 4 = .ok (.iload_n 3, 1) := by decide +kernel
theorem dX4_lastWeekOf_5 : decode cX4_lastWeekOf 5 = .ok (.bipush 6, 2) := by decide +kernel
theorem dX4_lastWeekOf_7 : decode cX4_lastWeekOf 7 = .ok (.if_icmp .ge 31, 3) := by decide +kernel
theorem dX4_lastWeekOf_10 : decode cX4_lastWeekOf 10 = .ok (.iload_n 1, 1) := by decide +kernel
theorem dX4_lastWeekOf_11 : decode cX4_lastWeekOf 11 = .ok (.iload_n 3, 1) := by decide +kernel
theorem dX4_lastWeekOf_12 : decode cX4_lastWeekOf 12 = .ok (.ishr, 1) := by decide +kernel
theorem dX4_lastWeekOf_13 : decode cX4_lastWeekOf 13 = .ok (.iconst 1, 1) := by decide +kernel
theorem dX4_lastWeekOf_14 : decode cX4_lastWeekOf 14 = .ok (.iand, 1) := by decide +kernel
theorem dX4_lastWeekOf_15 : decode cX4_lastWeekOf 15 = .ok (.ifCond .eq 17, 3) := by decide +kernel
theorem dX4_lastWeekOf_18 : decode cX4_lastWeekOf 18 = .ok (.iload_n 2, 1) := by decide +kernel
theorem dX4_lastWeekOf_19 : decode cX4_lastWeekOf 19 = .ok (.aload_n 0, 1) := by decide +kernel
theorem dX4_lastWeekOf_20 : decode cX4_lastWeekOf 20 = .ok (.iconst 2, 1) := by decide +kernel
theorem dX4_lastWeekOf_21 : decode cX4_lastWeekOf 21 = .ok (.iload_n 3, 1) := by decide +kernel
theorem dX4_lastWeekOf_22 : decode cX4_lastWeekOf 22 = .ok (.imul, 1) := by decide +kernel
theorem dX4_lastWeekOf_23 : decode cX4_lastWeekOf 23 = .ok (.iconst 1, 1) := by decide +kernel
theorem dX4_lastWeekOf_24 : decode cX4_lastWeekOf 24 = .ok (.iadd, 1) := by decide +kernel
theorem dX4_lastWeekOf_25 : decode cX4_lastWeekOf 25 = .ok (.invokevirtual 28, 3) := by decide +kernel
theorem dX4_lastWeekOf_28 : decode cX4_lastWeekOf 28 = .ok (.invokestatic 32, 3) := by decide +kernel
theorem dX4_lastWeekOf_31 : decode cX4_lastWeekOf 31 = .ok (.istore_n 2, 1) := by decide +kernel
theorem dX4_lastWeekOf_32 : decode cX4_lastWeekOf 32 = .ok (.iinc 3 1, 3) := by decide +kernel
theorem dX4_lastWeekOf_35 : decode cX4_lastWeekOf 35 = .ok (.goto (-31), 3) := by decide +kernel
theorem dX4_lastWeekOf_38 : decode cX4_lastWeekOf 38 = .ok (.iload_n 2, 1) := by decide +kernel
theorem dX4_lastWeekOf_39 : decode cX4_lastWeekOf 39 = .ok (.ireturn, 1) := by decide +kernel
theorem dX5_partOf_0 : decode cX5_partOf 0 = .ok (.iload_n 1, 1) := by decide +kernel
theorem dX5_partOf_1 : decode cX5_partOf 1 = .ok (.ifCond .ne 8, 3) := by decide +kernel
theorem dX5_partOf_4 : decode cX5_partOf 4 = .ok (.aload_n 0, 1) := by decide +kernel
theorem dX5_partOf_5 : decode cX5_partOf 5 = .ok (.getfield 9, 3) := by decide +kernel
theorem dX5_partOf_8 : decode cX5_partOf 8 = .ok (.areturn, 1) := by decide +kernel
theorem dX5_partOf_9 : decode cX5_partOf 9 = .ok (.iload_n 1, 1) := by decide +kernel
theorem dX5_partOf_10 : decode cX5_partOf 10 = .ok (.iconst 1, 1) := by decide +kernel
theorem dX5_partOf_11 : decode cX5_partOf 11 = .ok (.if_icmp .ne 10, 3) := by decide +kernel
theorem dX5_partOf_14 : decode cX5_partOf 14 = .ok (.aload_n 0, 1) := by decide +kernel
theorem dX5_partOf_15 : decode cX5_partOf 15 = .ok (.getfield 15, 3) := by decide +kernel
theorem dX5_partOf_18 : decode cX5_partOf 18 = .ok (.goto 7, 3) := by decide +kernel
theorem dX5_partOf_21 : decode cX5_partOf 21 = .ok (.aload_n 0, 1) := by decide +kernel
theorem dX5_partOf_22 : decode cX5_partOf 22 = .ok (.getfield 18, 3) := by decide +kernel
theorem dX5_partOf_25 : decode cX5_partOf 25 = .ok (.areturn, 1) := by decide +kernel
theorem dX6_become_0 : decode cX6_become 0 = .ok (.aload_n 0, 1) := by decide +kernel
theorem dX6_become_1 : decode cX6_become 1 = .ok (.aload_n 1, 1) := by decide +kernel
theorem dX6_become_2 : decode cX6_become 2 = .ok (.getfield 29, 3) := by decide +kernel
theorem dX6_become_5 : decode cX6_become 5 = .ok (.putfield 29, 3) := by decide +kernel
theorem dX6_become_8 : decode cX6_become 8 = .ok (.aload_n 0, 1) := by decide +kernel
theorem dX6_become_9 : decode cX6_become 9 = .ok (.aload_n 1, 1) := by decide +kernel
theorem dX6_become_10 : decode cX6_become 10 = .ok (.getfield 33, 3) := by decide +kernel
theorem dX6_become_13 : decode cX6_become 13 = .ok (.putfield 33, 3) := by decide +kernel
theorem dX6_become_16 : decode cX6_become 16 = .ok (.aload_n 0, 1) := by decide +kernel
theorem dX6_become_17 : decode cX6_become 17 = .ok (.aload_n 1, 1) := by decide +kernel
theorem dX6_become_18 : decode cX6_become 18 = .ok (.getfield 36, 3) := by decide +kernel
theorem dX6_become_21 : decode cX6_become 21 = .ok (.putfield 36, 3) := by decide +kernel
theorem dX6_become_24 : decode cX6_become 24 = .ok (.aload_n 0, 1) := by decide +kernel
theorem dX6_become_25 : decode cX6_become 25 = .ok (.aload_n 1, 1) := by decide +kernel
theorem dX6_become_26 : decode cX6_become 26 = .ok (.getfield 39, 3) := by decide +kernel
theorem dX6_become_29 : decode cX6_become 29 = .ok (.putfield 39, 3) := by decide +kernel
theorem dX6_become_32 : decode cX6_become 32 = .ok (.iconst 0, 1) := by decide +kernel
theorem dX6_become_33 : decode cX6_become 33 = .ok (.istore_n 2, 1) := by decide +kernel
theorem dX6_become_34 : decode cX6_become 34 = .ok (.iload_n 2, 1) := by decide +kernel
theorem dX6_become_35 : decode cX6_become 35 = .ok (.aload_n 0, 1) := by decide +kernel
theorem dX6_become_36 : decode cX6_become 36 = .ok (.getfield 11, 3) := by decide +kernel
theorem dX6_become_39 : decode cX6_become 39 = .ok (.arraylength, 1) := by decide +kernel
theorem dX6_become_40 : decode cX6_become 40 = .ok (.if_icmp .ge 33, 3) := by decide +kernel
theorem dX6_become_43 : decode cX6_become 43 = .ok (.iload_n 2, 1) := by decide +kernel
theorem dX6_become_44 : decode cX6_become 44 = .ok (.aload_n 1, 1) := by decide +kernel
theorem dX6_become_45 : decode cX6_become 45 = .ok (.getfield 11, 3) := by decide +kernel
theorem dX6_become_48 : decode cX6_become 48 = .ok (.arraylength, 1) := by decide +kernel
theorem dX6_become_49 : decode cX6_become 49 = .ok (.if_icmp .ge 24, 3) := by decide +kernel
theorem dX6_become_52 : decode cX6_become 52 = .ok (.aload_n 0, 1) := by decide +kernel
theorem dX6_become_53 : decode cX6_become 53 = .ok (.getfield 11, 3) := by decide +kernel
theorem dX6_become_56 : decode cX6_become 56 = .ok (.iload_n 2, 1) := by decide +kernel
theorem dX6_become_57 : decode cX6_become 57 = .ok (.aaload, 1) := by decide +kernel
theorem dX6_become_58 : decode cX6_become 58 = .ok (.aload_n 1, 1) := by decide +kernel
theorem dX6_become_59 : decode cX6_become 59 = .ok (.getfield 11, 3) := by decide +kernel
theorem dX6_become_62 : decode cX6_become 62 = .ok (.iload_n 2, 1) := by decide +kernel
theorem dX6_become_63 : decode cX6_become 63 = .ok (.aaload, 1) := by decide +kernel
theorem dX6_become_64 : decode cX6_become 64 = .ok (.invokevirtual 42, 3) := by decide +kernel
theorem dX6_become_67 : decode cX6_become 67 = .ok (.iinc 2 1, 3) := by decide +kernel
theorem dX6_become_70 : decode cX6_become 70 = .ok (.goto (-36), 3) := by decide +kernel
theorem dX6_become_73 : decode cX6_become 73 = .ok (.iconst 0, 1) := by decide +kernel
theorem dX6_become_74 : decode cX6_become 74 = .ok (.istore_n 2, 1) := by decide +kernel
theorem dX6_become_75 : decode cX6_become 75 = .ok (.iload_n 2, 1) := by decide +kernel
theorem dX6_become_76 : decode cX6_become 76 = .ok (.aload_n 0, 1) := by decide +kernel
theorem dX6_become_77 : decode cX6_become 77 = .ok (.getfield 19, 3) := by decide +kernel
theorem dX6_become_80 : decode cX6_become 80 = .ok (.arraylength, 1) := by decide +kernel
theorem dX6_become_81 : decode cX6_become 81 = .ok (.if_icmp .ge 33, 3) := by decide +kernel
theorem dX6_become_84 : decode cX6_become 84 = .ok (.iload_n 2, 1) := by decide +kernel
theorem dX6_become_85 : decode cX6_become 85 = .ok (.aload_n 1, 1) := by decide +kernel
theorem dX6_become_86 : decode cX6_become 86 = .ok (.getfield 19, 3) := by decide +kernel
theorem dX6_become_89 : decode cX6_become 89 = .ok (.arraylength, 1) := by decide +kernel
theorem dX6_become_90 : decode cX6_become 90 = .ok (.if_icmp .ge 24, 3) := by decide +kernel
theorem dX6_become_93 : decode cX6_become 93 = .ok (.aload_n 0, 1) := by decide +kernel
theorem dX6_become_94 : decode cX6_become 94 = .ok (.getfield 19, 3) := by decide +kernel
theorem dX6_become_97 : decode cX6_become 97 = .ok (.iload_n 2, 1) := by decide +kernel
theorem dX6_become_98 : decode cX6_become 98 = .ok (.aaload, 1) := by decide +kernel
theorem dX6_become_99 : decode cX6_become 99 = .ok (.aload_n 1, 1) := by decide +kernel
theorem dX6_become_100 : decode cX6_become 100 = .ok (.getfield 19, 3) := by decide +kernel
theorem dX6_become_103 : decode cX6_become 103 = .ok (.iload_n 2, 1) := by decide +kernel
theorem dX6_become_104 : decode cX6_become 104 = .ok (.aaload, 1) := by decide +kernel
theorem dX6_become_105 : decode cX6_become 105 = .ok (.invokevirtual 46, 3) := by decide +kernel
theorem dX6_become_108 : decode cX6_become 108 = .ok (.iinc 2 1, 3) := by decide +kernel
theorem dX6_become_111 : decode cX6_become 111 = .ok (.goto (-36), 3) := by decide +kernel
theorem dX6_become_114 : decode cX6_become 114 = .ok (.return_, 1) := by decide +kernel
theorem dX6_manAt_0 : decode cX6_manAt 0 = .ok (.iload_n 1, 1) := by decide +kernel
theorem dX6_manAt_1 : decode cX6_manAt 1 = .ok (.ifCond .lt 29, 3) := by decide +kernel
theorem dX6_manAt_4 : decode cX6_manAt 4 = .ok (.iload_n 1, 1) := by decide +kernel
theorem dX6_manAt_5 : decode cX6_manAt 5 = .ok (.aload_n 0, 1) := by decide +kernel
theorem dX6_manAt_6 : decode cX6_manAt 6 = .ok (.getfield 29, 3) := by decide +kernel
theorem dX6_manAt_9 : decode cX6_manAt 9 = .ok (.if_icmp .ge 21, 3) := by decide +kernel
theorem dX6_manAt_12 : decode cX6_manAt 12 = .ok (.iload_n 1, 1) := by decide +kernel
theorem dX6_manAt_13 : decode cX6_manAt 13 = .ok (.aload_n 0, 1) := by decide +kernel
theorem dX6_manAt_14 : decode cX6_manAt 14 = .ok (.getfield 11, 3) := by decide +kernel
theorem dX6_manAt_17 : decode cX6_manAt 17 = .ok (.arraylength, 1) := by decide +kernel
theorem dX6_manAt_18 : decode cX6_manAt 18 = .ok (.if_icmp .ge 12, 3) := by decide +kernel
theorem dX6_manAt_21 : decode cX6_manAt 21 = .ok (.aload_n 0, 1) := by decide +kernel
theorem dX6_manAt_22 : decode cX6_manAt 22 = .ok (.getfield 11, 3) := by decide +kernel
theorem dX6_manAt_25 : decode cX6_manAt 25 = .ok (.iload_n 1, 1) := by decide +kernel
theorem dX6_manAt_26 : decode cX6_manAt 26 = .ok (.aaload, 1) := by decide +kernel
theorem dX6_manAt_27 : decode cX6_manAt 27 = .ok (.goto 4, 3) := by decide +kernel
theorem dX6_manAt_30 : decode cX6_manAt 30 = .ok (.aconst_null, 1) := by decide +kernel
theorem dX6_manAt_31 : decode cX6_manAt 31 = .ok (.areturn, 1) := by decide +kernel
theorem dX6_vowAt_0 : decode cX6_vowAt 0 = .ok (.iload_n 1, 1) := by decide +kernel
theorem dX6_vowAt_1 : decode cX6_vowAt 1 = .ok (.ifCond .lt 29, 3) := by decide +kernel
theorem dX6_vowAt_4 : decode cX6_vowAt 4 = .ok (.iload_n 1, 1) := by decide +kernel
theorem dX6_vowAt_5 : decode cX6_vowAt 5 = .ok (.aload_n 0, 1) := by decide +kernel
theorem dX6_vowAt_6 : decode cX6_vowAt 6 = .ok (.getfield 33, 3) := by decide +kernel
theorem dX6_vowAt_9 : decode cX6_vowAt 9 = .ok (.if_icmp .ge 21, 3) := by decide +kernel
theorem dX6_vowAt_12 : decode cX6_vowAt 12 = .ok (.iload_n 1, 1) := by decide +kernel
theorem dX6_vowAt_13 : decode cX6_vowAt 13 = .ok (.aload_n 0, 1) := by decide +kernel
theorem dX6_vowAt_14 : decode cX6_vowAt 14 = .ok (.getfield 19, 3) := by decide +kernel
theorem dX6_vowAt_17 : decode cX6_vowAt 17 = .ok (.arraylength, 1) := by decide +kernel
theorem dX6_vowAt_18 : decode cX6_vowAt 18 = .ok (.if_icmp .ge 12, 3) := by decide +kernel
theorem dX6_vowAt_21 : decode cX6_vowAt 21 = .ok (.aload_n 0, 1) := by decide +kernel
theorem dX6_vowAt_22 : decode cX6_vowAt 22 = .ok (.getfield 19, 3) := by decide +kernel
theorem dX6_vowAt_25 : decode cX6_vowAt 25 = .ok (.iload_n 1, 1) := by decide +kernel
theorem dX6_vowAt_26 : decode cX6_vowAt 26 = .ok (.aaload, 1) := by decide +kernel
theorem dX6_vowAt_27 : decode cX6_vowAt 27 = .ok (.goto 4, 3) := by decide +kernel
theorem dX6_vowAt_30 : decode cX6_vowAt 30 = .ok (.aconst_null, 1) := by decide +kernel
theorem dX6_vowAt_31 : decode cX6_vowAt 31 = .ok (.areturn, 1) := by decide +kernel
theorem dX6_addMan_0 : decode cX6_addMan 0 = .ok (.iload_n 1, 1) := by decide +kernel
theorem dX6_addMan_1 : decode cX6_addMan 1 = .ok (.ifCond .lt 18, 3) := by decide +kernel
theorem dX6_addMan_4 : decode cX6_addMan 4 = .ok (.iload_n 1, 1) := by decide +kernel
theorem dX6_addMan_5 : decode cX6_addMan 5 = .ok (.iconst 5, 1) := by decide +kernel
theorem dX6_addMan_6 : decode cX6_addMan 6 = .ok (.if_icmp .gt 13, 3) := by decide +kernel
theorem dX6_addMan_9 : decode cX6_addMan 9 = .ok (.iload_n 2, 1) := by decide +kernel
theorem dX6_addMan_10 : decode cX6_addMan 10 = .ok (.ifCond .lt 9, 3) := by decide +kernel
theorem dX6_addMan_13 : decode cX6_addMan 13 = .ok (.iload_n 2, 1) := by decide +kernel
theorem dX6_addMan_14 : decode cX6_addMan 14 = .ok (.bipush 9, 2) := by decide +kernel
theorem dX6_addMan_16 : decode cX6_addMan 16 = .ok (.if_icmp .le 6, 3) := by decide +kernel
theorem dX6_addMan_19 : decode cX6_addMan 19 = .ok (.bipush (-2), 2) := by decide +kernel
theorem dX6_addMan_21 : decode cX6_addMan 21 = .ok (.ireturn, 1) := by decide +kernel
theorem dX6_addMan_22 : decode cX6_addMan 22 = .ok (.iload_n 3, 1) := by decide +kernel
theorem dX6_addMan_23 : decode cX6_addMan 23 = .ok (.ifCond .lt 10, 3) := by decide +kernel
theorem dX6_addMan_26 : decode cX6_addMan 26 = .ok (.iload_n 3, 1) := by decide +kernel
theorem dX6_addMan_27 : decode cX6_addMan 27 = .ok (.sipush 999, 3) := by decide +kernel
theorem dX6_addMan_30 : decode cX6_addMan 30 = .ok (.if_icmp .le 6, 3) := by decide +kernel
theorem dX6_addMan_33 : decode cX6_addMan 33 = .ok (.bipush (-2), 2) := by decide +kernel
theorem dX6_addMan_35 : decode cX6_addMan 35 = .ok (.ireturn, 1) := by decide +kernel
theorem dX6_addMan_36 : decode cX6_addMan 36 = .ok (.aload_n 0, 1) := by decide +kernel
theorem dX6_addMan_37 : decode cX6_addMan 37 = .ok (.getfield 29, 3) := by decide +kernel
theorem dX6_addMan_40 : decode cX6_addMan 40 = .ok (.ifCond .lt 15, 3) := by decide +kernel
theorem dX6_addMan_43 : decode cX6_addMan 43 = .ok (.aload_n 0, 1) := by decide +kernel
theorem dX6_addMan_44 : decode cX6_addMan 44 = .ok (.getfield 29, 3) := by decide +kernel
theorem dX6_addMan_47 : decode cX6_addMan 47 = .ok (.aload_n 0, 1) := by decide +kernel
theorem dX6_addMan_48 : decode cX6_addMan 48 = .ok (.getfield 11, 3) := by decide +kernel
theorem dX6_addMan_51 : decode cX6_addMan 51 = .ok (.arraylength, 1) := by decide +kernel
theorem dX6_addMan_52 : decode cX6_addMan 52 = .ok (.if_icmp .lt 6, 3) := by decide +kernel
theorem dX6_addMan_55 : decode cX6_addMan 55 = .ok (.bipush (-4), 2) := by decide +kernel
theorem dX6_addMan_57 : decode cX6_addMan 57 = .ok (.ireturn, 1) := by decide +kernel
theorem dX6_addMan_58 : decode cX6_addMan 58 = .ok (.aload_n 0, 1) := by decide +kernel
theorem dX6_addMan_59 : decode cX6_addMan 59 = .ok (.getfield 11, 3) := by decide +kernel
theorem dX6_addMan_62 : decode cX6_addMan 62 = .ok (.aload_n 0, 1) := by decide +kernel
theorem dX6_addMan_63 : decode cX6_addMan 63 = .ok (.getfield 29, 3) := by decide +kernel
theorem dX6_addMan_66 : decode cX6_addMan 66 = .ok (.aaload, 1) := by decide +kernel
theorem dX6_addMan_67 : decode cX6_addMan 67 = .ok (.astore 4, 2) := by decide +kernel
theorem dX6_addMan_69 : decode cX6_addMan 69 = .ok (.aload 4, 2) := by decide +kernel
theorem dX6_addMan_71 : decode cX6_addMan 71 = .ok (.iload_n 1, 1) := by decide +kernel
theorem dX6_addMan_72 : decode cX6_addMan 72 = .ok (.putfield 49, 3) := by decide +kernel
theorem dX6_addMan_75 : decode cX6_addMan 75 = .ok (.aload 4, 2) := by decide +kernel
theorem dX6_addMan_77 : decode cX6_addMan 77 = .ok (.iload_n 2, 1) := by decide +kernel
theorem dX6_addMan_78 : decode cX6_addMan 78 = .ok (.putfield 52, 3) := by decide +kernel
theorem dX6_addMan_81 : decode cX6_addMan 81 = .ok (.aload 4, 2) := by decide +kernel
theorem dX6_addMan_83 : decode cX6_addMan 83 = .ok (.iload_n 3, 1) := by decide +kernel
theorem dX6_addMan_84 : decode cX6_addMan 84 = .ok (.putfield 55, 3) := by decide +kernel
theorem dX6_addMan_87 : decode cX6_addMan 87 = .ok (.aload 4, 2) := by decide +kernel
theorem dX6_addMan_89 : decode cX6_addMan 89 = .ok (.iconst 0, 1) := by decide +kernel
theorem dX6_addMan_90 : decode cX6_addMan 90 = .ok (.putfield 58, 3) := by decide +kernel
theorem dX6_addMan_93 : decode cX6_addMan 93 = .ok (.aload 4, 2) := by decide +kernel
theorem dX6_addMan_95 : decode cX6_addMan 95 = .ok (.iconst 0, 1) := by decide +kernel
theorem dX6_addMan_96 : decode cX6_addMan 96 = .ok (.putfield 61, 3) := by decide +kernel
theorem dX6_addMan_99 : decode cX6_addMan 99 = .ok (.aload 4, 2) := by decide +kernel
theorem dX6_addMan_101 : decode cX6_addMan 101 = .ok (.iconst 0, 1) := by decide +kernel
theorem dX6_addMan_102 : decode cX6_addMan 102 = .ok (.putfield 64, 3) := by decide +kernel
theorem dX6_addMan_105 : decode cX6_addMan 105 = .ok (.aload_n 0, 1) := by decide +kernel
theorem dX6_addMan_106 : decode cX6_addMan 106 = .ok (.dup, 1) := by decide +kernel
theorem dX6_addMan_107 : decode cX6_addMan 107 = .ok (.getfield 29, 3) := by decide +kernel
theorem dX6_addMan_110 : decode cX6_addMan 110 = .ok (.iconst 1, 1) := by decide +kernel
theorem dX6_addMan_111 : decode cX6_addMan 111 = .ok (.iadd, 1) := by decide +kernel
theorem dX6_addMan_112 : decode cX6_addMan 112 = .ok (.putfield 29, 3) := by decide +kernel
theorem dX6_addMan_115 : decode cX6_addMan 115 = .ok (.aload_n 0, 1) := by decide +kernel
theorem dX6_addMan_116 : decode cX6_addMan 116 = .ok (.getfield 29, 3) := by decide +kernel
theorem dX6_addMan_119 : decode cX6_addMan 119 = .ok (.iconst 1, 1) := by decide +kernel
theorem dX6_addMan_120 : decode cX6_addMan 120 = .ok (.isub, 1) := by decide +kernel
theorem dX6_addMan_121 : decode cX6_addMan 121 = .ok (.ireturn, 1) := by decide +kernel
theorem dX6_addVow_0 : decode cX6_addVow 0 = .ok (.aload_n 0, 1) := by decide +kernel
theorem dX6_addVow_1 : decode cX6_addVow 1 = .ok (.getfield 33, 3) := by decide +kernel
theorem dX6_addVow_4 : decode cX6_addVow 4 = .ok (.ifCond .lt 15, 3) := by decide +kernel
theorem dX6_addVow_7 : decode cX6_addVow 7 = .ok (.aload_n 0, 1) := by decide +kernel
theorem dX6_addVow_8 : decode cX6_addVow 8 = .ok (.getfield 33, 3) := by decide +kernel
theorem dX6_addVow_11 : decode cX6_addVow 11 = .ok (.aload_n 0, 1) := by decide +kernel
theorem dX6_addVow_12 : decode cX6_addVow 12 = .ok (.getfield 19, 3) := by decide +kernel
theorem dX6_addVow_15 : decode cX6_addVow 15 = .ok (.arraylength, 1) := by decide +kernel
theorem dX6_addVow_16 : decode cX6_addVow 16 = .ok (.if_icmp .lt 6, 3) := by decide +kernel
theorem dX6_addVow_19 : decode cX6_addVow 19 = .ok (.bipush (-4), 2) := by decide +kernel
theorem dX6_addVow_21 : decode cX6_addVow 21 = .ok (.ireturn, 1) := by decide +kernel
theorem dX6_addVow_22 : decode cX6_addVow 22 = .ok (.aload_n 0, 1) := by decide +kernel
theorem dX6_addVow_23 : decode cX6_addVow 23 = .ok (.getfield 19, 3) := by decide +kernel
theorem dX6_addVow_26 : decode cX6_addVow 26 = .ok (.aload_n 0, 1) := by decide +kernel
theorem dX6_addVow_27 : decode cX6_addVow 27 = .ok (.getfield 33, 3) := by decide +kernel
theorem dX6_addVow_30 : decode cX6_addVow 30 = .ok (.aaload, 1) := by decide +kernel
theorem dX6_addVow_31 : decode cX6_addVow 31 = .ok (.astore 5, 2) := by decide +kernel
theorem dX6_addVow_33 : decode cX6_addVow 33 = .ok (.aload 5, 2) := by decide +kernel
theorem dX6_addVow_35 : decode cX6_addVow 35 = .ok (.iload_n 1, 1) := by decide +kernel
theorem dX6_addVow_36 : decode cX6_addVow 36 = .ok (.putfield 68, 3) := by decide +kernel
theorem dX6_addVow_39 : decode cX6_addVow 39 = .ok (.aload 5, 2) := by decide +kernel
theorem dX6_addVow_41 : decode cX6_addVow 41 = .ok (.iload_n 2, 1) := by decide +kernel
theorem dX6_addVow_42 : decode cX6_addVow 42 = .ok (.putfield 71, 3) := by decide +kernel
theorem dX6_addVow_45 : decode cX6_addVow 45 = .ok (.aload 5, 2) := by decide +kernel
theorem dX6_addVow_47 : decode cX6_addVow 47 = .ok (.iload_n 3, 1) := by decide +kernel
theorem dX6_addVow_48 : decode cX6_addVow 48 = .ok (.putfield 74, 3) := by decide +kernel
theorem dX6_addVow_51 : decode cX6_addVow 51 = .ok (.aload 5, 2) := by decide +kernel
theorem dX6_addVow_53 : decode cX6_addVow 53 = .ok (.iload 4, 2) := by decide +kernel
theorem dX6_addVow_55 : decode cX6_addVow 55 = .ok (.putfield 77, 3) := by decide +kernel
theorem dX6_addVow_58 : decode cX6_addVow 58 = .ok (.aload 5, 2) := by decide +kernel
theorem dX6_addVow_60 : decode cX6_addVow 60 = .ok (.iconst 0, 1) := by decide +kernel
theorem dX6_addVow_61 : decode cX6_addVow 61 = .ok (.putfield 80, 3) := by decide +kernel
theorem dX6_addVow_64 : decode cX6_addVow 64 = .ok (.aload 5, 2) := by decide +kernel
theorem dX6_addVow_66 : decode cX6_addVow 66 = .ok (.iconst (-1), 1) := by decide +kernel
theorem dX6_addVow_67 : decode cX6_addVow 67 = .ok (.putfield 83, 3) := by decide +kernel
theorem dX6_addVow_70 : decode cX6_addVow 70 = .ok (.aload_n 0, 1) := by decide +kernel
theorem dX6_addVow_71 : decode cX6_addVow 71 = .ok (.dup, 1) := by decide +kernel
theorem dX6_addVow_72 : decode cX6_addVow 72 = .ok (.getfield 33, 3) := by decide +kernel
theorem dX6_addVow_75 : decode cX6_addVow 75 = .ok (.iconst 1, 1) := by decide +kernel
theorem dX6_addVow_76 : decode cX6_addVow 76 = .ok (.iadd, 1) := by decide +kernel
theorem dX6_addVow_77 : decode cX6_addVow 77 = .ok (.putfield 33, 3) := by decide +kernel
theorem dX6_addVow_80 : decode cX6_addVow 80 = .ok (.aload_n 0, 1) := by decide +kernel
theorem dX6_addVow_81 : decode cX6_addVow 81 = .ok (.getfield 33, 3) := by decide +kernel
theorem dX6_addVow_84 : decode cX6_addVow 84 = .ok (.iconst 1, 1) := by decide +kernel
theorem dX6_addVow_85 : decode cX6_addVow 85 = .ok (.isub, 1) := by decide +kernel
theorem dX6_addVow_86 : decode cX6_addVow 86 = .ok (.ireturn, 1) := by decide +kernel
theorem dX6_owed_0 : decode cX6_owed 0 = .ok (.iconst 0, 1) := by decide +kernel
theorem dX6_owed_1 : decode cX6_owed 1 = .ok (.istore_n 2, 1) := by decide +kernel
theorem dX6_owed_2 : decode cX6_owed 2 = .ok (.iconst 0, 1) := by decide +kernel
theorem dX6_owed_3 : decode cX6_owed 3 = .ok (.istore_n 3, 1) := by decide +kernel
theorem dX6_owed_4 : decode cX6_owed 4 = .ok (.iload_n 3, 1) := by decide +kernel
theorem dX6_owed_5 : decode cX6_owed 5 = .ok (.aload_n 0, 1) := by decide +kernel
theorem dX6_owed_6 : decode cX6_owed 6 = .ok (.getfield 33, 3) := by decide +kernel
theorem dX6_owed_9 : decode cX6_owed 9 = .ok (.if_icmp .ge 55, 3) := by decide +kernel
theorem dX6_owed_12 : decode cX6_owed 12 = .ok (.iload_n 3, 1) := by decide +kernel
theorem dX6_owed_13 : decode cX6_owed 13 = .ok (.aload_n 0, 1) := by decide +kernel
theorem dX6_owed_14 : decode cX6_owed 14 = .ok (.getfield 19, 3) := by decide +kernel
theorem dX6_owed_17 : decode cX6_owed 17 = .ok (.arraylength, 1) := by decide +kernel
theorem dX6_owed_18 : decode cX6_owed 18 = .ok (.if_icmp .ge 46, 3) := by decide +kernel
theorem dX6_owed_21 : decode cX6_owed 21 = .ok (.aload_n 0, 1) := by decide +kernel
theorem dX6_owed_22 : decode cX6_owed 22 = .ok (.getfield 19, 3) := by decide +kernel
theorem dX6_owed_25 : decode cX6_owed 25 = .ok (.iload_n 3, 1) := by decide +kernel
theorem dX6_owed_26 : decode cX6_owed 26 = .ok (.aaload, 1) := by decide +kernel
theorem dX6_owed_27 : decode cX6_owed 27 = .ok (.getfield 80, 3) := by decide +kernel
theorem dX6_owed_30 : decode cX6_owed 30 = .ok (.ifCond .ne 28, 3) := by decide +kernel
theorem dX6_owed_33 : decode cX6_owed 33 = .ok (.aload_n 0, 1) := by decide +kernel
theorem dX6_owed_34 : decode cX6_owed 34 = .ok (.getfield 19, 3) := by decide +kernel
theorem dX6_owed_37 : decode cX6_owed 37 = .ok (.iload_n 3, 1) := by decide +kernel
theorem dX6_owed_38 : decode cX6_owed 38 = .ok (.aaload, 1) := by decide +kernel
theorem dX6_owed_39 : decode cX6_owed 39 = .ok (.getfield 68, 3) := by decide +kernel
theorem dX6_owed_42 : decode cX6_owed 42 = .ok (.iload_n 1, 1) := by decide +kernel
theorem dX6_owed_43 : decode cX6_owed 43 = .ok (.if_icmp .ne 15, 3) := by decide +kernel
theorem dX6_owed_46 : decode cX6_owed 46 = .ok (.iload_n 2, 1) := by decide +kernel
theorem dX6_owed_47 : decode cX6_owed 47 = .ok (.aload_n 0, 1) := by decide +kernel
theorem dX6_owed_48 : decode cX6_owed 48 = .ok (.getfield 19, 3) := by decide +kernel
theorem dX6_owed_51 : decode cX6_owed 51 = .ok (.iload_n 3, 1) := by decide +kernel
theorem dX6_owed_52 : decode cX6_owed 52 = .ok (.aaload, 1) := by decide +kernel
theorem dX6_owed_53 : decode cX6_owed 53 = .ok (.getfield 74, 3) := by decide +kernel
theorem dX6_owed_56 : decode cX6_owed 56 = .ok (.iadd, 1) := by decide +kernel
theorem dX6_owed_57 : decode cX6_owed 57 = .ok (.istore_n 2, 1) := by decide +kernel
theorem dX6_owed_58 : decode cX6_owed 58 = .ok (.iinc 3 1, 3) := by decide +kernel
theorem dX6_owed_61 : decode cX6_owed 61 = .ok (.goto (-57), 3) := by decide +kernel
theorem dX6_owed_64 : decode cX6_owed 64 = .ok (.iload_n 2, 1) := by decide +kernel
theorem dX6_owed_65 : decode cX6_owed 65 = .ok (.ireturn, 1) := by decide +kernel
theorem dX6_owedTo_0 : decode cX6_owedTo 0 = .ok (.iconst 0, 1) := by decide +kernel
theorem dX6_owedTo_1 : decode cX6_owedTo 1 = .ok (.istore_n 3, 1) := by decide +kernel
theorem dX6_owedTo_2 : decode cX6_owedTo 2 = .ok (.iconst 0, 1) := by decide +kernel
theorem dX6_owedTo_3 : decode cX6_owedTo 3 = .ok (.istore 4, 2) := by decide +kernel
theorem dX6_owedTo_5 : decode cX6_owedTo 5 = .ok (.iload 4, 2) := by decide +kernel
theorem dX6_owedTo_7 : decode cX6_owedTo 7 = .ok (.aload_n 0, 1) := by decide +kernel
theorem dX6_owedTo_8 : decode cX6_owedTo 8 = .ok (.getfield 33, 3) := by decide +kernel
theorem dX6_owedTo_11 : decode cX6_owedTo 11 = .ok (.if_icmp .ge 76, 3) := by decide +kernel
theorem dX6_owedTo_14 : decode cX6_owedTo 14 = .ok (.iload 4, 2) := by decide +kernel
theorem dX6_owedTo_16 : decode cX6_owedTo 16 = .ok (.aload_n 0, 1) := by decide +kernel
theorem dX6_owedTo_17 : decode cX6_owedTo 17 = .ok (.getfield 19, 3) := by decide +kernel
theorem dX6_owedTo_20 : decode cX6_owedTo 20 = .ok (.arraylength, 1) := by decide +kernel
theorem dX6_owedTo_21 : decode cX6_owedTo 21 = .ok (.if_icmp .ge 66, 3) := by decide +kernel
theorem dX6_owedTo_24 : decode cX6_owedTo 24 = .ok (.aload_n 0, 1) := by decide +kernel
theorem dX6_owedTo_25 : decode cX6_owedTo 25 = .ok (.getfield 19, 3) := by decide +kernel
theorem dX6_owedTo_28 : decode cX6_owedTo 28 = .ok (.iload 4, 2) := by decide +kernel
theorem dX6_owedTo_30 : decode cX6_owedTo 30 = .ok (.aaload, 1) := by decide +kernel
theorem dX6_owedTo_31 : decode cX6_owedTo 31 = .ok (.getfield 80, 3) := by decide +kernel
theorem dX6_owedTo_34 : decode cX6_owedTo 34 = .ok (.ifCond .ne 47, 3) := by decide +kernel
theorem dX6_owedTo_37 : decode cX6_owedTo 37 = .ok (.aload_n 0, 1) := by decide +kernel
theorem dX6_owedTo_38 : decode cX6_owedTo 38 = .ok (.getfield 19, 3) := by decide +kernel
theorem dX6_owedTo_41 : decode cX6_owedTo 41 = .ok (.iload 4, 2) := by decide +kernel
theorem dX6_owedTo_43 : decode cX6_owedTo 43 = .ok (.aaload, 1) := by decide +kernel
theorem dX6_owedTo_44 : decode cX6_owedTo 44 = .ok (.getfield 71, 3) := by decide +kernel
theorem dX6_owedTo_47 : decode cX6_owedTo 47 = .ok (.iload_n 1, 1) := by decide +kernel
theorem dX6_owedTo_48 : decode cX6_owedTo 48 = .ok (.if_icmp .ne 33, 3) := by decide +kernel
theorem dX6_owedTo_51 : decode cX6_owedTo 51 = .ok (.iload_n 2, 1) := by decide +kernel
theorem dX6_owedTo_52 : decode cX6_owedTo 52 = .ok (.aload_n 0, 1) := by decide +kernel
theorem dX6_owedTo_53 : decode cX6_owedTo 53 = .ok (.getfield 19, 3) := by decide +kernel
theorem dX6_owedTo_56 : decode cX6_owedTo 56 = .ok (.iload 4, 2) := by decide +kernel
theorem dX6_owedTo_58 : decode cX6_owedTo 58 = .ok (.aaload, 1) := by decide +kernel
theorem dX6_owedTo_59 : decode cX6_owedTo 59 = .ok (.getfield 68, 3) := by decide +kernel
theorem dX6_owedTo_62 : decode cX6_owedTo 62 = .ok (.ishr, 1) := by decide +kernel
theorem dX6_owedTo_63 : decode cX6_owedTo 63 = .ok (.iconst 1, 1) := by decide +kernel
theorem dX6_owedTo_64 : decode cX6_owedTo 64 = .ok (.iand, 1) := by decide +kernel
theorem dX6_owedTo_65 : decode cX6_owedTo 65 = .ok (.ifCond .ne 16, 3) := by decide +kernel
theorem dX6_owedTo_68 : decode cX6_owedTo 68 = .ok (.iload_n 3, 1) := by decide +kernel
theorem dX6_owedTo_69 : decode cX6_owedTo 69 = .ok (.aload_n 0, 1) := by decide +kernel
theorem dX6_owedTo_70 : decode cX6_owedTo 70 = .ok (.getfield 19, 3) := by decide +kernel
theorem dX6_owedTo_73 : decode cX6_owedTo 73 = .ok (.iload 4, 2) := by decide +kernel
theorem dX6_owedTo_75 : decode cX6_owedTo 75 = .ok (.aaload, 1) := by decide +kernel
theorem dX6_owedTo_76 : decode cX6_owedTo 76 = .ok (.getfield 74, 3) := by decide +kernel
theorem dX6_owedTo_79 : decode cX6_owedTo 79 = .ok (.iadd, 1) := by decide +kernel
theorem dX6_owedTo_80 : decode cX6_owedTo 80 = .ok (.istore_n 3, 1) := by decide +kernel
theorem dX6_owedTo_81 : decode cX6_owedTo 81 = .ok (.iinc 4 1, 3) := by decide +kernel
theorem dX6_owedTo_84 : decode cX6_owedTo 84 = .ok (.goto (-79), 3) := by decide +kernel
theorem dX6_owedTo_87 : decode cX6_owedTo 87 = .ok (.iload_n 3, 1) := by decide +kernel
theorem dX6_owedTo_88 : decode cX6_owedTo 88 = .ok (.ireturn, 1) := by decide +kernel
theorem dX6_matures_0 : decode cX6_matures 0 = .ok (.aload_n 0, 1) := by decide +kernel
theorem dX6_matures_1 : decode cX6_matures 1 = .ok (.aload_n 1, 1) := by decide +kernel
theorem dX6_matures_2 : decode cX6_matures 2 = .ok (.getfield 83, 3) := by decide +kernel
theorem dX6_matures_5 : decode cX6_matures 5 = .ok (.invokevirtual 86, 3) := by decide +kernel
theorem dX6_matures_8 : decode cX6_matures 8 = .ok (.astore_n 2, 1) := by decide +kernel
theorem dX6_matures_9 : decode cX6_matures 9 = .ok (.aload_n 2, 1) := by decide +kernel
theorem dX6_matures_10 : decode cX6_matures 10 = .ok (.ifnonnull 10, 3) := by decide +kernel
theorem dX6_matures_13 : decode cX6_matures 13 = .ok (.aload_n 1, 1) := by decide +kernel
theorem dX6_matures_14 : decode cX6_matures 14 = .ok (.getfield 77, 3) := by decide +kernel
theorem dX6_matures_17 : decode cX6_matures 17 = .ok (.goto 14, 3) := by decide +kernel
theorem dX6_matures_20 : decode cX6_matures 20 = .ok (.aload_n 1, 1) := by decide +kernel
theorem dX6_matures_21 : decode cX6_matures 21 = .ok (.getfield 77, 3) := by decide +kernel
theorem dX6_matures_24 : decode cX6_matures 24 = .ok (.aload_n 2, 1) := by decide +kernel
theorem dX6_matures_25 : decode cX6_matures 25 = .ok (.getfield 77, 3) := by decide +kernel
theorem dX6_matures_28 : decode cX6_matures 28 = .ok (.invokestatic 90, 3) := by decide +kernel
theorem dX6_matures_31 : decode cX6_matures 31 = .ok (.ireturn, 1) := by decide +kernel
theorem dX6_startTally_0 : decode cX6_startTally 0 = .ok (.aload_n 0, 1) := by decide +kernel
theorem dX6_startTally_1 : decode cX6_startTally 1 = .ok (.iconst 0, 1) := by decide +kernel
theorem dX6_startTally_2 : decode cX6_startTally 2 = .ok (.putfield 96, 3) := by decide +kernel
theorem dX6_startTally_5 : decode cX6_startTally 5 = .ok (.aload_n 0, 1) := by decide +kernel
theorem dX6_startTally_6 : decode cX6_startTally 6 = .ok (.iconst (-1), 1) := by decide +kernel
theorem dX6_startTally_7 : decode cX6_startTally 7 = .ok (.putfield 99, 3) := by decide +kernel
theorem dX6_startTally_10 : decode cX6_startTally 10 = .ok (.aload_n 0, 1) := by decide +kernel
theorem dX6_startTally_11 : decode cX6_startTally 11 = .ok (.iconst (-1), 1) := by decide +kernel
theorem dX6_startTally_12 : decode cX6_startTally 12 = .ok (.putfield 102, 3) := by decide +kernel
theorem dX6_startTally_15 : decode cX6_startTally 15 = .ok (.aload_n 0, 1) := by decide +kernel
theorem dX6_startTally_16 : decode cX6_startTally 16 = .ok (.iconst 0, 1) := by decide +kernel
theorem dX6_startTally_17 : decode cX6_startTally 17 = .ok (.putfield 105, 3) := by decide +kernel
theorem dX6_startTally_20 : decode cX6_startTally 20 = .ok (.aload_n 0, 1) := by decide +kernel
theorem dX6_startTally_21 : decode cX6_startTally 21 = .ok (.iconst 0, 1) := by decide +kernel
theorem dX6_startTally_22 : decode cX6_startTally 22 = .ok (.putfield 108, 3) := by decide +kernel
theorem dX6_startTally_25 : decode cX6_startTally 25 = .ok (.return_, 1) := by decide +kernel
theorem dX6_liveWeek_0 : decode cX6_liveWeek 0 = .ok (.iconst 0, 1) := by decide +kernel
theorem dX6_liveWeek_1 : decode cX6_liveWeek 1 = .ok (.istore_n 2, 1) := by decide +kernel
theorem dX6_liveWeek_2 : decode cX6_liveWeek 2 = .ok (.iload_n 2, 1) := by decide +kernel
theorem dX6_liveWeek_3 : decode cX6_liveWeek 3 = .ok (.aload_n 0, 1) := by decide +kernel
theorem dX6_liveWeek_4 : decode cX6_liveWeek 4 = .ok (.getfield 29, 3) := by decide +kernel
theorem dX6_liveWeek_7 : decode cX6_liveWeek 7 = .ok (.if_icmp .ge 53, 3) := by decide +kernel
theorem dX6_liveWeek_10 : decode cX6_liveWeek 10 = .ok (.iload_n 2, 1) := by decide +kernel
theorem dX6_liveWeek_11 : decode cX6_liveWeek 11 = .ok (.aload_n 0, 1) := by decide +kernel
theorem dX6_liveWeek_12 : decode cX6_liveWeek 12 = .ok (.getfield 11, 3) := by decide +kernel
theorem dX6_liveWeek_15 : decode cX6_liveWeek 15 = .ok (.arraylength, 1) := by decide +kernel
theorem dX6_liveWeek_16 : decode cX6_liveWeek 16 = .ok (.if_icmp .ge 44, 3) := by decide +kernel
theorem dX6_liveWeek_19 : decode cX6_liveWeek 19 = .ok (.aload_n 0, 1) := by decide +kernel
theorem dX6_liveWeek_20 : decode cX6_liveWeek 20 = .ok (.getfield 11, 3) := by decide +kernel
theorem dX6_liveWeek_23 : decode cX6_liveWeek 23 = .ok (.iload_n 2, 1) := by decide +kernel
theorem dX6_liveWeek_24 : decode cX6_liveWeek 24 = .ok (.aaload, 1) := by decide +kernel
theorem dX6_liveWeek_25 : decode cX6_liveWeek 25 = .ok (.aload_n 0, 1) := by decide +kernel
theorem dX6_liveWeek_26 : decode cX6_liveWeek 26 = .ok (.getfield 23, 3) := by decide +kernel
theorem dX6_liveWeek_29 : decode cX6_liveWeek 29 = .ok (.aload_n 0, 1) := by decide +kernel
theorem dX6_liveWeek_30 : decode cX6_liveWeek 30 = .ok (.getfield 39, 3) := by decide +kernel
theorem dX6_liveWeek_33 : decode cX6_liveWeek 33 = .ok (.aload_n 0, 1) := by decide +kernel
theorem dX6_liveWeek_34 : decode cX6_liveWeek 34 = .ok (.getfield 11, 3) := by decide +kernel
theorem dX6_liveWeek_37 : decode cX6_liveWeek 37 = .ok (.iload_n 2, 1) := by decide +kernel
theorem dX6_liveWeek_38 : decode cX6_liveWeek 38 = .ok (.aaload, 1) := by decide +kernel
theorem dX6_liveWeek_39 : decode cX6_liveWeek 39 = .ok (.aload_n 0, 1) := by decide +kernel
theorem dX6_liveWeek_40 : decode cX6_liveWeek 40 = .ok (.getfield 36, 3) := by decide +kernel
theorem dX6_liveWeek_43 : decode cX6_liveWeek 43 = .ok (.aload_n 0, 1) := by decide +kernel
theorem dX6_liveWeek_44 : decode cX6_liveWeek 44 = .ok (.iload_n 2, 1) := by decide +kernel
theorem dX6_liveWeek_45 : decode cX6_liveWeek 45 = .ok (.invokevirtual 111, 3) := by decide +kernel
theorem dX6_liveWeek_48 : decode cX6_liveWeek 48 = .ok (.invokevirtual 115, 3) := by decide +kernel
theorem dX6_liveWeek_51 : decode cX6_liveWeek 51 = .ok (.putfield 55, 3) := by decide +kernel
theorem dX6_liveWeek_54 : decode cX6_liveWeek 54 = .ok (.iinc 2 1, 3) := by decide +kernel
theorem dX6_liveWeek_57 : decode cX6_liveWeek 57 = .ok (.goto (-55), 3) := by decide +kernel
theorem dX6_liveWeek_60 : decode cX6_liveWeek 60 = .ok (.iconst 0, 1) := by decide +kernel
theorem dX6_liveWeek_61 : decode cX6_liveWeek 61 = .ok (.istore_n 2, 1) := by decide +kernel
theorem dX6_liveWeek_62 : decode cX6_liveWeek 62 = .ok (.iload_n 2, 1) := by decide +kernel
theorem dX6_liveWeek_63 : decode cX6_liveWeek 63 = .ok (.aload_n 0, 1) := by decide +kernel
theorem dX6_liveWeek_64 : decode cX6_liveWeek 64 = .ok (.getfield 33, 3) := by decide +kernel
theorem dX6_liveWeek_67 : decode cX6_liveWeek 67 = .ok (.if_icmp .ge 69, 3) := by decide +kernel
theorem dX6_liveWeek_70 : decode cX6_liveWeek 70 = .ok (.iload_n 2, 1) := by decide +kernel
theorem dX6_liveWeek_71 : decode cX6_liveWeek 71 = .ok (.aload_n 0, 1) := by decide +kernel
theorem dX6_liveWeek_72 : decode cX6_liveWeek 72 = .ok (.getfield 19, 3) := by decide +kernel
theorem dX6_liveWeek_75 : decode cX6_liveWeek 75 = .ok (.arraylength, 1) := by decide +kernel
theorem dX6_liveWeek_76 : decode cX6_liveWeek 76 = .ok (.if_icmp .ge 60, 3) := by decide +kernel
theorem dX6_liveWeek_79 : decode cX6_liveWeek 79 = .ok (.aload_n 0, 1) := by decide +kernel
theorem dX6_liveWeek_80 : decode cX6_liveWeek 80 = .ok (.getfield 19, 3) := by decide +kernel
theorem dX6_liveWeek_83 : decode cX6_liveWeek 83 = .ok (.iload_n 2, 1) := by decide +kernel
theorem dX6_liveWeek_84 : decode cX6_liveWeek 84 = .ok (.aaload, 1) := by decide +kernel
theorem dX6_liveWeek_85 : decode cX6_liveWeek 85 = .ok (.astore_n 3, 1) := by decide +kernel
theorem dX6_liveWeek_86 : decode cX6_liveWeek 86 = .ok (.aload_n 3, 1) := by decide +kernel
theorem dX6_liveWeek_87 : decode cX6_liveWeek 87 = .ok (.getfield 80, 3) := by decide +kernel
theorem dX6_liveWeek_90 : decode cX6_liveWeek 90 = .ok (.ifCond .ne 40, 3) := by decide +kernel
theorem dX6_liveWeek_93 : decode cX6_liveWeek 93 = .ok (.aload_n 0, 1) := by decide +kernel
theorem dX6_liveWeek_94 : decode cX6_liveWeek 94 = .ok (.aload_n 3, 1) := by decide +kernel
theorem dX6_liveWeek_95 : decode cX6_liveWeek 95 = .ok (.invokevirtual 121, 3) := by decide +kernel
theorem dX6_liveWeek_98 : decode cX6_liveWeek 98 = .ok (.aload_n 0, 1) := by decide +kernel
theorem dX6_liveWeek_99 : decode cX6_liveWeek 99 = .ok (.getfield 36, 3) := by decide +kernel
theorem dX6_liveWeek_102 : decode cX6_liveWeek 102 = .ok (.if_icmp .gt 28, 3) := by decide +kernel
theorem dX6_liveWeek_105 : decode cX6_liveWeek 105 = .ok (.aload_n 0, 1) := by decide +kernel
theorem dX6_liveWeek_106 : decode cX6_liveWeek 106 = .ok (.aload_n 3, 1) := by decide +kernel
theorem dX6_liveWeek_107 : decode cX6_liveWeek 107 = .ok (.invokevirtual 125, 3) := by decide +kernel
theorem dX6_liveWeek_110 : decode cX6_liveWeek 110 = .ok (.ifCond .ne 20, 3) := by decide +kernel
theorem dX6_liveWeek_113 : decode cX6_liveWeek 113 = .ok (.aload_n 0, 1) := by decide +kernel
theorem dX6_liveWeek_114 : decode cX6_liveWeek 114 = .ok (.aload_n 3, 1) := by decide +kernel
theorem dX6_liveWeek_115 : decode cX6_liveWeek 115 = .ok (.invokevirtual 129, 3) := by decide +kernel
theorem dX6_liveWeek_118 : decode cX6_liveWeek 118 = .ok (.ifCond .eq 12, 3) := by decide +kernel
theorem dX6_liveWeek_121 : decode cX6_liveWeek 121 = .ok (.aload_n 0, 1) := by decide +kernel
theorem dX6_liveWeek_122 : decode cX6_liveWeek 122 = .ok (.aload_n 3, 1) := by decide +kernel
theorem dX6_liveWeek_123 : decode cX6_liveWeek 123 = .ok (.getfield 68, 3) := by decide +kernel
theorem dX6_liveWeek_126 : decode cX6_liveWeek 126 = .ok (.iload_n 1, 1) := by decide +kernel
theorem dX6_liveWeek_127 : decode cX6_liveWeek 127 = .ok (.invokevirtual 132, 3) := by decide +kernel
theorem dX6_liveWeek_130 : decode cX6_liveWeek 130 = .ok (.iinc 2 1, 3) := by decide +kernel
theorem dX6_liveWeek_133 : decode cX6_liveWeek 133 = .ok (.goto (-71), 3) := by decide +kernel
theorem dX6_liveWeek_136 : decode cX6_liveWeek 136 = .ok (.aload_n 0, 1) := by decide +kernel
theorem dX6_liveWeek_137 : decode cX6_liveWeek 137 = .ok (.dup, 1) := by decide +kernel
theorem dX6_liveWeek_138 : decode cX6_liveWeek 138 = .ok (.getfield 36, 3) := by decide +kernel
theorem dX6_liveWeek_141 : decode cX6_liveWeek 141 = .ok (.iconst 1, 1) := by decide +kernel
theorem dX6_liveWeek_142 : decode cX6_liveWeek 142 = .ok (.iadd, 1) := by decide +kernel
theorem dX6_liveWeek_143 : decode cX6_liveWeek 143 = .ok (.putfield 36, 3) := by decide +kernel
theorem dX6_liveWeek_146 : decode cX6_liveWeek 146 = .ok (.return_, 1) := by decide +kernel
theorem dX6_pays_0 : decode cX6_pays 0 = .ok (.aload_n 0, 1) := by decide +kernel
theorem dX6_pays_1 : decode cX6_pays 1 = .ok (.aload_n 1, 1) := by decide +kernel
theorem dX6_pays_2 : decode cX6_pays 2 = .ok (.getfield 68, 3) := by decide +kernel
theorem dX6_pays_5 : decode cX6_pays 5 = .ok (.invokevirtual 136, 3) := by decide +kernel
theorem dX6_pays_8 : decode cX6_pays 8 = .ok (.astore_n 2, 1) := by decide +kernel
theorem dX6_pays_9 : decode cX6_pays 9 = .ok (.aload_n 2, 1) := by decide +kernel
theorem dX6_pays_10 : decode cX6_pays 10 = .ok (.ifnull 14, 3) := by decide +kernel
theorem dX6_pays_13 : decode cX6_pays 13 = .ok (.aload_n 2, 1) := by decide +kernel
theorem dX6_pays_14 : decode cX6_pays 14 = .ok (.invokevirtual 140, 3) := by decide +kernel
theorem dX6_pays_17 : decode cX6_pays 17 = .ok (.aload_n 1, 1) := by decide +kernel
theorem dX6_pays_18 : decode cX6_pays 18 = .ok (.getfield 74, 3) := by decide +kernel
theorem dX6_pays_21 : decode cX6_pays 21 = .ok (.if_icmp .ge 5, 3) := by decide +kernel
theorem dX6_pays_24 : decode cX6_pays 24 = .ok (.iconst 0, 1) := by decide +kernel
theorem dX6_pays_25 : decode cX6_pays 25 = .ok (.ireturn, 1) := by decide +kernel
theorem dX6_pays_26 : decode cX6_pays 26 = .ok (.aload_n 2, 1) := by decide +kernel
theorem dX6_pays_27 : decode cX6_pays 27 = .ok (.aload_n 1, 1) := by decide +kernel
theorem dX6_pays_28 : decode cX6_pays 28 = .ok (.getfield 74, 3) := by decide +kernel
theorem dX6_pays_31 : decode cX6_pays 31 = .ok (.aload_n 0, 1) := by decide +kernel
theorem dX6_pays_32 : decode cX6_pays 32 = .ok (.getfield 23, 3) := by decide +kernel
theorem dX6_pays_35 : decode cX6_pays 35 = .ok (.aload_n 0, 1) := by decide +kernel
theorem dX6_pays_36 : decode cX6_pays 36 = .ok (.getfield 39, 3) := by decide +kernel
theorem dX6_pays_39 : decode cX6_pays 39 = .ok (.iconst 1, 1) := by decide +kernel
theorem dX6_pays_40 : decode cX6_pays 40 = .ok (.aload_n 2, 1) := by decide +kernel
theorem dX6_pays_41 : decode cX6_pays 41 = .ok (.aload_n 0, 1) := by decide +kernel
theorem dX6_pays_42 : decode cX6_pays 42 = .ok (.getfield 36, 3) := by decide +kernel
theorem dX6_pays_45 : decode cX6_pays 45 = .ok (.aload_n 0, 1) := by decide +kernel
theorem dX6_pays_46 : decode cX6_pays 46 = .ok (.aload_n 1, 1) := by decide +kernel
theorem dX6_pays_47 : decode cX6_pays 47 = .ok (.getfield 68, 3) := by decide +kernel
theorem dX6_pays_50 : decode cX6_pays 50 = .ok (.invokevirtual 111, 3) := by decide +kernel
theorem dX6_pays_53 : decode cX6_pays 53 = .ok (.invokevirtual 144, 3) := by decide +kernel
theorem dX6_pays_56 : decode cX6_pays 56 = .ok (.iadd, 1) := by decide +kernel
theorem dX6_pays_57 : decode cX6_pays 57 = .ok (.invokevirtual 148, 3) := by decide +kernel
theorem dX6_pays_60 : decode cX6_pays 60 = .ok (.aload_n 1, 1) := by decide +kernel
theorem dX6_pays_61 : decode cX6_pays 61 = .ok (.iconst 1, 1) := by decide +kernel
theorem dX6_pays_62 : decode cX6_pays 62 = .ok (.putfield 80, 3) := by decide +kernel
theorem dX6_pays_65 : decode cX6_pays 65 = .ok (.aload_n 0, 1) := by decide +kernel
theorem dX6_pays_66 : decode cX6_pays 66 = .ok (.dup, 1) := by decide +kernel
theorem dX6_pays_67 : decode cX6_pays 67 = .ok (.getfield 105, 3) := by decide +kernel
theorem dX6_pays_70 : decode cX6_pays 70 = .ok (.aload_n 1, 1) := by decide +kernel
theorem dX6_pays_71 : decode cX6_pays 71 = .ok (.getfield 74, 3) := by decide +kernel
theorem dX6_pays_74 : decode cX6_pays 74 = .ok (.iadd, 1) := by decide +kernel
theorem dX6_pays_75 : decode cX6_pays 75 = .ok (.putfield 105, 3) := by decide +kernel
theorem dX6_pays_78 : decode cX6_pays 78 = .ok (.iconst 1, 1) := by decide +kernel
theorem dX6_pays_79 : decode cX6_pays 79 = .ok (.ireturn, 1) := by decide +kernel
theorem dX6_isLate_0 : decode cX6_isLate 0 = .ok (.aload_n 0, 1) := by decide +kernel
theorem dX6_isLate_1 : decode cX6_isLate 1 = .ok (.aload_n 1, 1) := by decide +kernel
theorem dX6_isLate_2 : decode cX6_isLate 2 = .ok (.getfield 68, 3) := by decide +kernel
theorem dX6_isLate_5 : decode cX6_isLate 5 = .ok (.invokevirtual 136, 3) := by decide +kernel
theorem dX6_isLate_8 : decode cX6_isLate 8 = .ok (.astore_n 2, 1) := by decide +kernel
theorem dX6_isLate_9 : decode cX6_isLate 9 = .ok (.aload_n 2, 1) := by decide +kernel
theorem dX6_isLate_10 : decode cX6_isLate 10 = .ok (.ifnull 24, 3) := by decide +kernel
theorem dX6_isLate_13 : decode cX6_isLate 13 = .ok (.aload_n 0, 1) := by decide +kernel
theorem dX6_isLate_14 : decode cX6_isLate 14 = .ok (.getfield 36, 3) := by decide +kernel
theorem dX6_isLate_17 : decode cX6_isLate 17 = .ok (.aload_n 0, 1) := by decide +kernel
theorem dX6_isLate_18 : decode cX6_isLate 18 = .ok (.aload_n 1, 1) := by decide +kernel
theorem dX6_isLate_19 : decode cX6_isLate 19 = .ok (.invokevirtual 121, 3) := by decide +kernel
theorem dX6_isLate_22 : decode cX6_isLate 22 = .ok (.aload_n 2, 1) := by decide +kernel
theorem dX6_isLate_23 : decode cX6_isLate 23 = .ok (.invokevirtual 152, 3) := by decide +kernel
theorem dX6_isLate_26 : decode cX6_isLate 26 = .ok (.iadd, 1) := by decide +kernel
theorem dX6_isLate_27 : decode cX6_isLate 27 = .ok (.if_icmp .lt 7, 3) := by decide +kernel
theorem dX6_isLate_30 : decode cX6_isLate 30 = .ok (.iconst 1, 1) := by decide +kernel
theorem dX6_isLate_31 : decode cX6_isLate 31 = .ok (.goto 4, 3) := by decide +kernel
theorem dX6_isLate_34 : decode cX6_isLate 34 = .ok (.iconst 0, 1) := by decide +kernel
theorem dX6_isLate_35 : decode cX6_isLate 35 = .ok (.ireturn, 1) := by decide +kernel
theorem dX6_shear_0 : decode cX6_shear 0 = .ok (.aload_n 0, 1) := by decide +kernel
theorem dX6_shear_1 : decode cX6_shear 1 = .ok (.iload_n 1, 1) := by decide +kernel
theorem dX6_shear_2 : decode cX6_shear 2 = .ok (.invokevirtual 136, 3) := by decide +kernel
theorem dX6_shear_5 : decode cX6_shear 5 = .ok (.astore_n 3, 1) := by decide +kernel
theorem dX6_shear_6 : decode cX6_shear 6 = .ok (.aload_n 3, 1) := by decide +kernel
theorem dX6_shear_7 : decode cX6_shear 7 = .ok (.ifnonnull 4, 3) := by decide +kernel
theorem dX6_shear_10 : decode cX6_shear 10 = .ok (.return_, 1) := by decide +kernel
theorem dX6_shear_11 : decode cX6_shear 11 = .ok (.aload_n 0, 1) := by decide +kernel
theorem dX6_shear_12 : decode cX6_shear 12 = .ok (.dup, 1) := by decide +kernel
theorem dX6_shear_13 : decode cX6_shear 13 = .ok (.getfield 108, 3) := by decide +kernel
theorem dX6_shear_16 : decode cX6_shear 16 = .ok (.aload_n 0, 1) := by decide +kernel
theorem dX6_shear_17 : decode cX6_shear 17 = .ok (.getfield 23, 3) := by decide +kernel
theorem dX6_shear_20 : decode cX6_shear 20 = .ok (.aload_n 0, 1) := by decide +kernel
theorem dX6_shear_21 : decode cX6_shear 21 = .ok (.getfield 39, 3) := by decide +kernel
theorem dX6_shear_24 : decode cX6_shear 24 = .ok (.iconst 2, 1) := by decide +kernel
theorem dX6_shear_25 : decode cX6_shear 25 = .ok (.aload_n 3, 1) := by decide +kernel
theorem dX6_shear_26 : decode cX6_shear 26 = .ok (.aload_n 0, 1) := by decide +kernel
theorem dX6_shear_27 : decode cX6_shear 27 = .ok (.getfield 36, 3) := by decide +kernel
theorem dX6_shear_30 : decode cX6_shear 30 = .ok (.aload_n 0, 1) := by decide +kernel
theorem dX6_shear_31 : decode cX6_shear 31 = .ok (.iload_n 1, 1) := by decide +kernel
theorem dX6_shear_32 : decode cX6_shear 32 = .ok (.invokevirtual 111, 3) := by decide +kernel
theorem dX6_shear_35 : decode cX6_shear 35 = .ok (.invokevirtual 144, 3) := by decide +kernel
theorem dX6_shear_38 : decode cX6_shear 38 = .ok (.iadd, 1) := by decide +kernel
theorem dX6_shear_39 : decode cX6_shear 39 = .ok (.putfield 108, 3) := by decide +kernel
theorem dX6_shear_42 : decode cX6_shear 42 = .ok (.aload_n 3, 1) := by decide +kernel
theorem dX6_shear_43 : decode cX6_shear 43 = .ok (.iconst 1, 1) := by decide +kernel
theorem dX6_shear_44 : decode cX6_shear 44 = .ok (.putfield 64, 3) := by decide +kernel
theorem dX6_shear_47 : decode cX6_shear 47 = .ok (.aload_n 3, 1) := by decide +kernel
theorem dX6_shear_48 : decode cX6_shear 48 = .ok (.iconst 0, 1) := by decide +kernel
theorem dX6_shear_49 : decode cX6_shear 49 = .ok (.putfield 55, 3) := by decide +kernel
theorem dX6_shear_52 : decode cX6_shear 52 = .ok (.iconst 0, 1) := by decide +kernel
theorem dX6_shear_53 : decode cX6_shear 53 = .ok (.istore 4, 2) := by decide +kernel
theorem dX6_shear_55 : decode cX6_shear 55 = .ok (.iload 4, 2) := by decide +kernel
theorem dX6_shear_57 : decode cX6_shear 57 = .ok (.aload_n 0, 1) := by decide +kernel
theorem dX6_shear_58 : decode cX6_shear 58 = .ok (.getfield 33, 3) := by decide +kernel
theorem dX6_shear_61 : decode cX6_shear 61 = .ok (.if_icmp .ge 57, 3) := by decide +kernel
theorem dX6_shear_64 : decode cX6_shear 64 = .ok (.iload 4, 2) := by decide +kernel
theorem dX6_shear_66 : decode cX6_shear 66 = .ok (.aload_n 0, 1) := by decide +kernel
theorem dX6_shear_67 : decode cX6_shear 67 = .ok (.getfield 19, 3) := by decide +kernel
theorem dX6_shear_70 : decode cX6_shear 70 = .ok (.arraylength, 1) := by decide +kernel
theorem dX6_shear_71 : decode cX6_shear 71 = .ok (.if_icmp .ge 47, 3) := by decide +kernel
theorem dX6_shear_74 : decode cX6_shear 74 = .ok (.aload_n 0, 1) := by decide +kernel
theorem dX6_shear_75 : decode cX6_shear 75 = .ok (.getfield 19, 3) := by decide +kernel
theorem dX6_shear_78 : decode cX6_shear 78 = .ok (.iload 4, 2) := by decide +kernel
theorem dX6_shear_80 : decode cX6_shear 80 = .ok (.aaload, 1) := by decide +kernel
theorem dX6_shear_81 : decode cX6_shear 81 = .ok (.getfield 80, 3) := by decide +kernel
theorem dX6_shear_84 : decode cX6_shear 84 = .ok (.ifCond .ne 28, 3) := by decide +kernel
theorem dX6_shear_87 : decode cX6_shear 87 = .ok (.aload_n 0, 1) := by decide +kernel
theorem dX6_shear_88 : decode cX6_shear 88 = .ok (.getfield 19, 3) := by decide +kernel
theorem dX6_shear_91 : decode cX6_shear 91 = .ok (.iload 4, 2) := by decide +kernel
theorem dX6_shear_93 : decode cX6_shear 93 = .ok (.aaload, 1) := by decide +kernel
theorem dX6_shear_94 : decode cX6_shear 94 = .ok (.getfield 68, 3) := by decide +kernel
theorem dX6_shear_97 : decode cX6_shear 97 = .ok (.iload_n 1, 1) := by decide +kernel
theorem dX6_shear_98 : decode cX6_shear 98 = .ok (.if_icmp .ne 14, 3) := by decide +kernel
theorem dX6_shear_101 : decode cX6_shear 101 = .ok (.aload_n 0, 1) := by decide +kernel
theorem dX6_shear_102 : decode cX6_shear 102 = .ok (.getfield 19, 3) := by decide +kernel
theorem dX6_shear_105 : decode cX6_shear 105 = .ok (.iload 4, 2) := by decide +kernel
theorem dX6_shear_107 : decode cX6_shear 107 = .ok (.aaload, 1) := by decide +kernel
theorem dX6_shear_108 : decode cX6_shear 108 = .ok (.iconst 2, 1) := by decide +kernel
theorem dX6_shear_109 : decode cX6_shear 109 = .ok (.putfield 80, 3) := by decide +kernel
theorem dX6_shear_112 : decode cX6_shear 112 = .ok (.iinc 4 1, 3) := by decide +kernel
theorem dX6_shear_115 : decode cX6_shear 115 = .ok (.goto (-60), 3) := by decide +kernel
theorem dX6_shear_118 : decode cX6_shear 118 = .ok (.aload_n 0, 1) := by decide +kernel
theorem dX6_shear_119 : decode cX6_shear 119 = .ok (.getfield 96, 3) := by decide +kernel
theorem dX6_shear_122 : decode cX6_shear 122 = .ok (.ifCond .ne 13, 3) := by decide +kernel
theorem dX6_shear_125 : decode cX6_shear 125 = .ok (.aload_n 0, 1) := by decide +kernel
theorem dX6_shear_126 : decode cX6_shear 126 = .ok (.iload_n 1, 1) := by decide +kernel
theorem dX6_shear_127 : decode cX6_shear 127 = .ok (.putfield 99, 3) := by decide +kernel
theorem dX6_shear_130 : decode cX6_shear 130 = .ok (.aload_n 0, 1) := by decide +kernel
theorem dX6_shear_131 : decode cX6_shear 131 = .ok (.iload_n 2, 1) := by decide +kernel
theorem dX6_shear_132 : decode cX6_shear 132 = .ok (.putfield 102, 3) := by decide +kernel
theorem dX6_shear_135 : decode cX6_shear 135 = .ok (.aload_n 0, 1) := by decide +kernel
theorem dX6_shear_136 : decode cX6_shear 136 = .ok (.dup, 1) := by decide +kernel
theorem dX6_shear_137 : decode cX6_shear 137 = .ok (.getfield 96, 3) := by decide +kernel
theorem dX6_shear_140 : decode cX6_shear 140 = .ok (.iconst 1, 1) := by decide +kernel
theorem dX6_shear_141 : decode cX6_shear 141 = .ok (.iadd, 1) := by decide +kernel
theorem dX6_shear_142 : decode cX6_shear 142 = .ok (.putfield 96, 3) := by decide +kernel
theorem dX6_shear_145 : decode cX6_shear 145 = .ok (.return_, 1) := by decide +kernel
theorem dX6_drawOil_0 : decode cX6_drawOil 0 = .ok (.lload_n 1, 1) := by decide +kernel
theorem dX6_drawOil_1 : decode cX6_drawOil 1 = .ok (.lstore_n 3, 1) := by decide +kernel
theorem dX6_drawOil_2 : decode cX6_drawOil 2 = .ok (.iconst 0, 1) := by decide +kernel
theorem dX6_drawOil_3 : decode cX6_drawOil 3 = .ok (.istore 5, 2) := by decide +kernel
theorem dX6_drawOil_5 : decode cX6_drawOil 5 = .ok (.iload 5, 2) := by decide +kernel
theorem dX6_drawOil_7 : decode cX6_drawOil 7 = .ok (.aload_n 0, 1) := by decide +kernel
theorem dX6_drawOil_8 : decode cX6_drawOil 8 = .ok (.getfield 29, 3) := by decide +kernel
theorem dX6_drawOil_11 : decode cX6_drawOil 11 = .ok (.if_icmp .ge 45, 3) := by decide +kernel
theorem dX6_drawOil_14 : decode cX6_drawOil 14 = .ok (.iload 5, 2) := by decide +kernel
theorem dX6_drawOil_16 : decode cX6_drawOil 16 = .ok (.aload_n 0, 1) := by decide +kernel
theorem dX6_drawOil_17 : decode cX6_drawOil 17 = .ok (.getfield 11, 3) := by decide +kernel
theorem dX6_drawOil_20 : decode cX6_drawOil 20 = .ok (.arraylength, 1) := by decide +kernel
theorem dX6_drawOil_21 : decode cX6_drawOil 21 = .ok (.if_icmp .ge 35, 3) := by decide +kernel
theorem dX6_drawOil_24 : decode cX6_drawOil 24 = .ok (.lload_n 3, 1) := by decide +kernel
theorem dX6_drawOil_25 : decode cX6_drawOil 25 = .ok (.ldc2_w 155, 3) := by decide +kernel
theorem dX6_drawOil_28 : decode cX6_drawOil 28 = .ok (.lmul, 1) := by decide +kernel
theorem dX6_drawOil_29 : decode cX6_drawOil 29 = .ok (.ldc2_w 157, 3) := by decide +kernel
theorem dX6_drawOil_32 : decode cX6_drawOil 32 = .ok (.lrem, 1) := by decide +kernel
theorem dX6_drawOil_33 : decode cX6_drawOil 33 = .ok (.lstore_n 3, 1) := by decide +kernel
theorem dX6_drawOil_34 : decode cX6_drawOil 34 = .ok (.aload_n 0, 1) := by decide +kernel
theorem dX6_drawOil_35 : decode cX6_drawOil 35 = .ok (.getfield 11, 3) := by decide +kernel
theorem dX6_drawOil_38 : decode cX6_drawOil 38 = .ok (.iload 5, 2) := by decide +kernel
theorem dX6_drawOil_40 : decode cX6_drawOil 40 = .ok (.aaload, 1) := by decide +kernel
theorem dX6_drawOil_41 : decode cX6_drawOil 41 = .ok (.lload_n 3, 1) := by decide +kernel
theorem dX6_drawOil_42 : decode cX6_drawOil 42 = .ok (.ldc2_w 159, 3) := by decide +kernel
theorem dX6_drawOil_45 : decode cX6_drawOil 45 = .ok (.lrem, 1) := by decide +kernel
theorem dX6_drawOil_46 : decode cX6_drawOil 46 = .ok (.l2i, 1) := by decide +kernel
theorem dX6_drawOil_47 : decode cX6_drawOil 47 = .ok (.putfield 58, 3) := by decide +kernel
theorem dX6_drawOil_50 : decode cX6_drawOil 50 = .ok (.iinc 5 1, 3) := by decide +kernel
theorem dX6_drawOil_53 : decode cX6_drawOil 53 = .ok (.goto (-48), 3) := by decide +kernel
theorem dX6_drawOil_56 : decode cX6_drawOil 56 = .ok (.lload_n 3, 1) := by decide +kernel
theorem dX6_drawOil_57 : decode cX6_drawOil 57 = .ok (.lreturn, 1) := by decide +kernel
theorem dX6_firstRing_0 : decode cX6_firstRing 0 = .ok (.iconst 0, 1) := by decide +kernel
theorem dX6_firstRing_1 : decode cX6_firstRing 1 = .ok (.istore_n 1, 1) := by decide +kernel
theorem dX6_firstRing_2 : decode cX6_firstRing 2 = .ok (.iload_n 1, 1) := by decide +kernel
theorem dX6_firstRing_3 : decode cX6_firstRing 3 = .ok (.aload_n 0, 1) := by decide +kernel
theorem dX6_firstRing_4 : decode cX6_firstRing 4 = .ok (.getfield 33, 3) := by decide +kernel
theorem dX6_firstRing_7 : decode cX6_firstRing 7 = .ok (.if_icmp .ge 74, 3) := by decide +kernel
theorem dX6_firstRing_10 : decode cX6_firstRing 10 = .ok (.iload_n 1, 1) := by decide +kernel
theorem dX6_firstRing_11 : decode cX6_firstRing 11 = .ok (.aload_n 0, 1) := by decide +kernel
theorem dX6_firstRing_12 : decode cX6_firstRing 12 = .ok (.getfield 19, 3) := by decide +kernel
theorem dX6_firstRing_15 : decode cX6_firstRing 15 = .ok (.arraylength, 1) := by decide +kernel
theorem dX6_firstRing_16 : decode cX6_firstRing 16 = .ok (.if_icmp .ge 65, 3) := by decide +kernel
theorem dX6_firstRing_19 : decode cX6_firstRing 19 = .ok (.aload_n 0, 1) := by decide +kernel
theorem dX6_firstRing_20 : decode cX6_firstRing 20 = .ok (.getfield 19, 3) := by decide +kernel
theorem dX6_firstRing_23 : decode cX6_firstRing 23 = .ok (.iload_n 1, 1) := by decide +kernel
theorem dX6_firstRing_24 : decode cX6_firstRing 24 = .ok (.aaload, 1) := by decide +kernel
theorem dX6_firstRing_25 : decode cX6_firstRing 25 = .ok (.getfield 80, 3) := by decide +kernel
theorem dX6_firstRing_28 : decode cX6_firstRing 28 = .ok (.ifCond .ne 47, 3) := by decide +kernel
theorem dX6_firstRing_31 : decode cX6_firstRing 31 = .ok (.aload_n 0, 1) := by decide +kernel
theorem dX6_firstRing_32 : decode cX6_firstRing 32 = .ok (.aload_n 0, 1) := by decide +kernel
theorem dX6_firstRing_33 : decode cX6_firstRing 33 = .ok (.getfield 19, 3) := by decide +kernel
theorem dX6_firstRing_36 : decode cX6_firstRing 36 = .ok (.iload_n 1, 1) := by decide +kernel
theorem dX6_firstRing_37 : decode cX6_firstRing 37 = .ok (.aaload, 1) := by decide +kernel
theorem dX6_firstRing_38 : decode cX6_firstRing 38 = .ok (.getfield 68, 3) := by decide +kernel
theorem dX6_firstRing_41 : decode cX6_firstRing 41 = .ok (.aload_n 0, 1) := by decide +kernel
theorem dX6_firstRing_42 : decode cX6_firstRing 42 = .ok (.getfield 19, 3) := by decide +kernel
theorem dX6_firstRing_45 : decode cX6_firstRing 45 = .ok (.iload_n 1, 1) := by decide +kernel
theorem dX6_firstRing_46 : decode cX6_firstRing 46 = .ok (.aaload, 1) := by decide +kernel
theorem dX6_firstRing_47 : decode cX6_firstRing 47 = .ok (.getfield 71, 3) := by decide +kernel
theorem dX6_firstRing_50 : decode cX6_firstRing 50 = .ok (.iconst 1, 1) := by decide +kernel
theorem dX6_firstRing_51 : decode cX6_firstRing 51 = .ok (.aload_n 0, 1) := by decide +kernel
theorem dX6_firstRing_52 : decode cX6_firstRing 52 = .ok (.getfield 19, 3) := by decide +kernel
theorem dX6_firstRing_55 : decode cX6_firstRing 55 = .ok (.iload_n 1, 1) := by decide +kernel
theorem dX6_firstRing_56 : decode cX6_firstRing 56 = .ok (.aaload, 1) := by decide +kernel
theorem dX6_firstRing_57 : decode cX6_firstRing 57 = .ok (.getfield 68, 3) := by decide +kernel
theorem dX6_firstRing_60 : decode cX6_firstRing 60 = .ok (.ishl, 1) := by decide +kernel
theorem dX6_firstRing_61 : decode cX6_firstRing 61 = .ok (.iconst 1, 1) := by decide +kernel
theorem dX6_firstRing_62 : decode cX6_firstRing 62 = .ok (.iload_n 1, 1) := by decide +kernel
theorem dX6_firstRing_63 : decode cX6_firstRing 63 = .ok (.ishl, 1) := by decide +kernel
theorem dX6_firstRing_64 : decode cX6_firstRing 64 = .ok (.iconst 1, 1) := by decide +kernel
theorem dX6_firstRing_65 : decode cX6_firstRing 65 = .ok (.invokestatic 161, 3) := by decide +kernel
theorem dX6_firstRing_68 : decode cX6_firstRing 68 = .ok (.istore_n 2, 1) := by decide +kernel
theorem dX6_firstRing_69 : decode cX6_firstRing 69 = .ok (.iload_n 2, 1) := by decide +kernel
theorem dX6_firstRing_70 : decode cX6_firstRing 70 = .ok (.ifCond .eq 5, 3) := by decide +kernel
theorem dX6_firstRing_73 : decode cX6_firstRing 73 = .ok (.iload_n 2, 1) := by decide +kernel
theorem dX6_firstRing_74 : decode cX6_firstRing 74 = .ok (.ireturn, 1) := by decide +kernel
theorem dX6_firstRing_75 : decode cX6_firstRing 75 = .ok (.iinc 1 1, 3) := by decide +kernel
theorem dX6_firstRing_78 : decode cX6_firstRing 78 = .ok (.goto (-76), 3) := by decide +kernel
theorem dX6_firstRing_81 : decode cX6_firstRing 81 = .ok (.iconst 0, 1) := by decide +kernel
theorem dX6_firstRing_82 : decode cX6_firstRing 82 = .ok (.ireturn, 1) := by decide +kernel
theorem dX6_closeRing_0 : decode cX6_closeRing 0 = .ok (.iload_n 2, 1) := by decide +kernel
theorem dX6_closeRing_1 : decode cX6_closeRing 1 = .ok (.iload_n 1, 1) := by decide +kernel
theorem dX6_closeRing_2 : decode cX6_closeRing 2 = .ok (.if_icmp .ne 6, 3) := by decide +kernel
theorem dX6_closeRing_5 : decode cX6_closeRing 5 = .ok (.iload 4, 2) := by decide +kernel
theorem dX6_closeRing_7 : decode cX6_closeRing 7 = .ok (.ireturn, 1) := by decide +kernel
theorem dX6_closeRing_8 : decode cX6_closeRing 8 = .ok (.iload 5, 2) := by decide +kernel
theorem dX6_closeRing_10 : decode cX6_closeRing 10 = .ok (.bipush 6, 2) := by decide +kernel
theorem dX6_closeRing_12 : decode cX6_closeRing 12 = .ok (.if_icmp .ge 11, 3) := by decide +kernel
theorem dX6_closeRing_15 : decode cX6_closeRing 15 = .ok (.iload_n 3, 1) := by decide +kernel
theorem dX6_closeRing_16 : decode cX6_closeRing 16 = .ok (.iload_n 2, 1) := by decide +kernel
theorem dX6_closeRing_17 : decode cX6_closeRing 17 = .ok (.ishr, 1) := by decide +kernel
theorem dX6_closeRing_18 : decode cX6_closeRing 18 = .ok (.iconst 1, 1) := by decide +kernel
theorem dX6_closeRing_19 : decode cX6_closeRing 19 = .ok (.iand, 1) := by decide +kernel
theorem dX6_closeRing_20 : decode cX6_closeRing 20 = .ok (.ifCond .eq 5, 3) := by decide +kernel
theorem dX6_closeRing_23 : decode cX6_closeRing 23 = .ok (.iconst 0, 1) := by decide +kernel
theorem dX6_closeRing_24 : decode cX6_closeRing 24 = .ok (.ireturn, 1) := by decide +kernel
theorem dX6_closeRing_25 : decode cX6_closeRing 25 = .ok (.iconst 0, 1) := by decide +kernel
theorem dX6_closeRing_26 : decode cX6_closeRing 26 = .ok (.istore 6, 2) := by decide +kernel
theorem dX6_closeRing_28 : decode cX6_closeRing 28 = .ok (.iload 6, 2) := by decide +kernel
theorem dX6_closeRing_30 : decode cX6_closeRing 30 = .ok (.aload_n 0, 1) := by decide +kernel
theorem dX6_closeRing_31 : decode cX6_closeRing 31 = .ok (.getfield 33, 3) := by decide +kernel
theorem dX6_closeRing_34 : decode cX6_closeRing 34 = .ok (.if_icmp .ge 81, 3) := by decide +kernel
theorem dX6_closeRing_37 : decode cX6_closeRing 37 = .ok (.iload 6, 2) := by decide +kernel
theorem dX6_closeRing_39 : decode cX6_closeRing 39 = .ok (.aload_n 0, 1) := by decide +kernel
theorem dX6_closeRing_40 : decode cX6_closeRing 40 = .ok (.getfield 19, 3) := by decide +kernel
theorem dX6_closeRing_43 : decode cX6_closeRing 43 = .ok (.arraylength, 1) := by decide +kernel
theorem dX6_closeRing_44 : decode cX6_closeRing 44 = .ok (.if_icmp .ge 71, 3) := by decide +kernel
theorem dX6_closeRing_47 : decode cX6_closeRing 47 = .ok (.aload_n 0, 1) := by decide +kernel
theorem dX6_closeRing_48 : decode cX6_closeRing 48 = .ok (.getfield 19, 3) := by decide +kernel
theorem dX6_closeRing_51 : decode cX6_closeRing 51 = .ok (.iload 6, 2) := by decide +kernel
theorem dX6_closeRing_53 : decode cX6_closeRing 53 = .ok (.aaload, 1) := by decide +kernel
theorem dX6_closeRing_54 : decode cX6_closeRing 54 = .ok (.astore 7, 2) := by decide +kernel
theorem dX6_closeRing_56 : decode cX6_closeRing 56 = .ok (.aload 7, 2) := by decide +kernel
theorem dX6_closeRing_58 : decode cX6_closeRing 58 = .ok (.getfield 80, 3) := by decide +kernel
theorem dX6_closeRing_61 : decode cX6_closeRing 61 = .ok (.ifCond .ne 48, 3) := by decide +kernel
theorem dX6_closeRing_64 : decode cX6_closeRing 64 = .ok (.aload 7, 2) := by decide +kernel
theorem dX6_closeRing_66 : decode cX6_closeRing 66 = .ok (.getfield 68, 3) := by decide +kernel
theorem dX6_closeRing_69 : decode cX6_closeRing 69 = .ok (.iload_n 2, 1) := by decide +kernel
theorem dX6_closeRing_70 : decode cX6_closeRing 70 = .ok (.if_icmp .ne 39, 3) := by decide +kernel
theorem dX6_closeRing_73 : decode cX6_closeRing 73 = .ok (.aload_n 0, 1) := by decide +kernel
theorem dX6_closeRing_74 : decode cX6_closeRing 74 = .ok (.iload_n 1, 1) := by decide +kernel
theorem dX6_closeRing_75 : decode cX6_closeRing 75 = .ok (.aload 7, 2) := by decide +kernel
theorem dX6_closeRing_77 : decode cX6_closeRing 77 = .ok (.getfield 71, 3) := by decide +kernel
theorem dX6_closeRing_80 : decode cX6_closeRing 80 = .ok (.iload_n 3, 1) := by decide +kernel
theorem dX6_closeRing_81 : decode cX6_closeRing 81 = .ok (.iconst 1, 1) := by decide +kernel
theorem dX6_closeRing_82 : decode cX6_closeRing 82 = .ok (.iload_n 2, 1) := by decide +kernel
theorem dX6_closeRing_83 : decode cX6_closeRing 83 = .ok (.ishl, 1) := by decide +kernel
theorem dX6_closeRing_84 : decode cX6_closeRing 84 = .ok (.ior, 1) := by decide +kernel
theorem dX6_closeRing_85 : decode cX6_closeRing 85 = .ok (.iload 4, 2) := by decide +kernel
theorem dX6_closeRing_87 : decode cX6_closeRing 87 = .ok (.iconst 1, 1) := by decide +kernel
theorem dX6_closeRing_88 : decode cX6_closeRing 88 = .ok (.iload 6, 2) := by decide +kernel
theorem dX6_closeRing_90 : decode cX6_closeRing 90 = .ok (.ishl, 1) := by decide +kernel
theorem dX6_closeRing_91 : decode cX6_closeRing 91 = .ok (.ior, 1) := by decide +kernel
theorem dX6_closeRing_92 : decode cX6_closeRing 92 = .ok (.iload 5, 2) := by decide +kernel
theorem dX6_closeRing_94 : decode cX6_closeRing 94 = .ok (.iconst 1, 1) := by decide +kernel
theorem dX6_closeRing_95 : decode cX6_closeRing 95 = .ok (.iadd, 1) := by decide +kernel
theorem dX6_closeRing_96 : decode cX6_closeRing 96 = .ok (.invokestatic 161, 3) := by decide +kernel
theorem dX6_closeRing_99 : decode cX6_closeRing 99 = .ok (.istore 8, 2) := by decide +kernel
theorem dX6_closeRing_101 : decode cX6_closeRing 101 = .ok (.iload 8, 2) := by decide +kernel
theorem dX6_closeRing_103 : decode cX6_closeRing 103 = .ok (.ifCond .eq 6, 3) := by decide +kernel
theorem dX6_closeRing_106 : decode cX6_closeRing 106 = .ok (.iload 8, 2) := by decide +kernel
theorem dX6_closeRing_108 : decode cX6_closeRing 108 = .ok (.ireturn, 1) := by decide +kernel
theorem dX6_closeRing_109 : decode cX6_closeRing 109 = .ok (.iinc 6 1, 3) := by decide +kernel
theorem dX6_closeRing_112 : decode cX6_closeRing 112 = .ok (.goto (-84), 3) := by decide +kernel
theorem dX6_closeRing_115 : decode cX6_closeRing 115 = .ok (.iconst 0, 1) := by decide +kernel
theorem dX6_closeRing_116 : decode cX6_closeRing 116 = .ok (.ireturn, 1) := by decide +kernel
theorem dX6_leastInches_0 : decode cX6_leastInches 0 = .ok (.iconst 0, 1) := by decide +kernel
theorem dX6_leastInches_1 : decode cX6_leastInches 1 = .ok (.istore_n 2, 1) := by decide +kernel
theorem dX6_leastInches_2 : decode cX6_leastInches 2 = .ok (.iconst 0, 1) := by decide +kernel
theorem dX6_leastInches_3 : decode cX6_leastInches 3 = .ok (.istore_n 3, 1) := by decide +kernel
theorem dX6_leastInches_4 : decode cX6_leastInches 4 = .ok (.iload_n 3, 1) := by decide +kernel
theorem dX6_leastInches_5 : decode cX6_leastInches 5 = .ok (.aload_n 0, 1) := by decide +kernel
theorem dX6_leastInches_6 : decode cX6_leastInches 6 = .ok (.getfield 33, 3) := by decide +kernel
theorem dX6_leastInches_9 : decode cX6_leastInches 9 = .ok (.if_icmp .ge 53, 3) := by decide +kernel
theorem dX6_leastInches_12 : decode cX6_leastInches 12 = .ok (.iload_n 3, 1) := by decide +kernel
theorem dX6_leastInches_13 : decode cX6_leastInches 13 = .ok (.aload_n 0, 1) := by decide +kernel
theorem dX6_leastInches_14 : decode cX6_leastInches 14 = .ok (.getfield 19, 3) := by decide +kernel
theorem dX6_leastInches_17 : decode cX6_leastInches 17 = .ok (.arraylength, 1) := by decide +kernel
theorem dX6_leastInches_18 : decode cX6_leastInches 18 = .ok (.if_icmp .ge 44, 3) := by decide +kernel
theorem dX6_leastInches_21 : decode cX6_leastInches 21 = .ok (.iload_n 1, 1) := by decide +kernel
theorem dX6_leastInches_22 : decode cX6_leastInches 22 = .ok (.iload_n 3, 1) := by decide +kernel
theorem dX6_leastInches_23 : decode cX6_leastInches 23 = .ok (.ishr, 1) := by decide +kernel
theorem dX6_leastInches_24 : decode cX6_leastInches 24 = .ok (.iconst 1, 1) := by decide +kernel
theorem dX6_leastInches_25 : decode cX6_leastInches 25 = .ok (.iand, 1) := by decide +kernel
theorem dX6_leastInches_26 : decode cX6_leastInches 26 = .ok (.ifCond .eq 30, 3) := by decide +kernel
theorem dX6_leastInches_29 : decode cX6_leastInches 29 = .ok (.iload_n 2, 1) := by decide +kernel
theorem dX6_leastInches_30 : decode cX6_leastInches 30 = .ok (.ifCond .eq 16, 3) := by decide +kernel
theorem dX6_leastInches_33 : decode cX6_leastInches 33 = .ok (.aload_n 0, 1) := by decide +kernel
theorem dX6_leastInches_34 : decode cX6_leastInches 34 = .ok (.getfield 19, 3) := by decide +kernel
theorem dX6_leastInches_37 : decode cX6_leastInches 37 = .ok (.iload_n 3, 1) := by decide +kernel
theorem dX6_leastInches_38 : decode cX6_leastInches 38 = .ok (.aaload, 1) := by decide +kernel
theorem dX6_leastInches_39 : decode cX6_leastInches 39 = .ok (.getfield 74, 3) := by decide +kernel
theorem dX6_leastInches_42 : decode cX6_leastInches 42 = .ok (.iload_n 2, 1) := by decide +kernel
theorem dX6_leastInches_43 : decode cX6_leastInches 43 = .ok (.if_icmp .ge 13, 3) := by decide +kernel
theorem dX6_leastInches_46 : decode cX6_leastInches 46 = .ok (.aload_n 0, 1) := by decide +kernel
theorem dX6_leastInches_47 : decode cX6_leastInches 47 = .ok (.getfield 19, 3) := by decide +kernel
theorem dX6_leastInches_50 : decode cX6_leastInches 50 = .ok (.iload_n 3, 1) := by decide +kernel
theorem dX6_leastInches_51 : decode cX6_leastInches 51 = .ok (.aaload, 1) := by decide +kernel
theorem dX6_leastInches_52 : decode cX6_leastInches 52 = .ok (.getfield 74, 3) := by decide +kernel
theorem dX6_leastInches_55 : decode cX6_leastInches 55 = .ok (.istore_n 2, 1) := by decide +kernel
theorem dX6_leastInches_56 : decode cX6_leastInches 56 = .ok (.iinc 3 1, 3) := by decide +kernel
theorem dX6_leastInches_59 : decode cX6_leastInches 59 = .ok (.goto (-55), 3) := by decide +kernel
theorem dX6_leastInches_62 : decode cX6_leastInches 62 = .ok (.iload_n 2, 1) := by decide +kernel
theorem dX6_leastInches_63 : decode cX6_leastInches 63 = .ok (.ireturn, 1) := by decide +kernel
theorem dX6_clearRing_0 : decode cX6_clearRing 0 = .ok (.aload_n 0, 1) := by decide +kernel
theorem dX6_clearRing_1 : decode cX6_clearRing 1 = .ok (.iload_n 1, 1) := by decide +kernel
theorem dX6_clearRing_2 : decode cX6_clearRing 2 = .ok (.invokevirtual 165, 3) := by decide +kernel
theorem dX6_clearRing_5 : decode cX6_clearRing 5 = .ok (.istore_n 2, 1) := by decide +kernel
theorem dX6_clearRing_6 : decode cX6_clearRing 6 = .ok (.iconst 0, 1) := by decide +kernel
theorem dX6_clearRing_7 : decode cX6_clearRing 7 = .ok (.istore_n 3, 1) := by decide +kernel
theorem dX6_clearRing_8 : decode cX6_clearRing 8 = .ok (.iconst 0, 1) := by decide +kernel
theorem dX6_clearRing_9 : decode cX6_clearRing 9 = .ok (.istore 4, 2) := by decide +kernel
theorem dX6_clearRing_11 : decode cX6_clearRing 11 = .ok (.iload 4, 2) := by decide +kernel
theorem dX6_clearRing_13 : decode cX6_clearRing 13 = .ok (.aload_n 0, 1) := by decide +kernel
theorem dX6_clearRing_14 : decode cX6_clearRing 14 = .ok (.getfield 33, 3) := by decide +kernel
theorem dX6_clearRing_17 : decode cX6_clearRing 17 = .ok (.if_icmp .ge 86, 3) := by decide +kernel
theorem dX6_clearRing_20 : decode cX6_clearRing 20 = .ok (.iload 4, 2) := by decide +kernel
theorem dX6_clearRing_22 : decode cX6_clearRing 22 = .ok (.aload_n 0, 1) := by decide +kernel
theorem dX6_clearRing_23 : decode cX6_clearRing 23 = .ok (.getfield 19, 3) := by decide +kernel
theorem dX6_clearRing_26 : decode cX6_clearRing 26 = .ok (.arraylength, 1) := by decide +kernel
theorem dX6_clearRing_27 : decode cX6_clearRing 27 = .ok (.if_icmp .ge 76, 3) := by decide +kernel
theorem dX6_clearRing_30 : decode cX6_clearRing 30 = .ok (.iload_n 1, 1) := by decide +kernel
theorem dX6_clearRing_31 : decode cX6_clearRing 31 = .ok (.iload 4, 2) := by decide +kernel
theorem dX6_clearRing_33 : decode cX6_clearRing 33 = .ok (.ishr, 1) := by decide +kernel
theorem dX6_clearRing_34 : decode cX6_clearRing 34 = .ok (.iconst 1, 1) := by decide +kernel
theorem dX6_clearRing_35 : decode cX6_clearRing 35 = .ok (.iand, 1) := by decide +kernel
theorem dX6_clearRing_36 : decode cX6_clearRing 36 = .ok (.ifCond .ne 6, 3) := by decide +kernel
theorem dX6_clearRing_39 : decode cX6_clearRing 39 = .ok (.goto 58, 3) := by decide +kernel
theorem dX6_clearRing_42 : decode cX6_clearRing 42 = .ok (.aload_n 0, 1) := by decide +kernel
theorem dX6_clearRing_43 : decode cX6_clearRing 43 = .ok (.getfield 19, 3) := by decide +kernel
theorem dX6_clearRing_46 : decode cX6_clearRing 46 = .ok (.iload 4, 2) := by decide +kernel
theorem dX6_clearRing_48 : decode cX6_clearRing 48 = .ok (.aaload, 1) := by decide +kernel
theorem dX6_clearRing_49 : decode cX6_clearRing 49 = .ok (.dup, 1) := by decide +kernel
theorem dX6_clearRing_50 : decode cX6_clearRing 50 = .ok (.getfield 74, 3) := by decide +kernel
theorem dX6_clearRing_53 : decode cX6_clearRing 53 = .ok (.iload_n 2, 1) := by decide +kernel
theorem dX6_clearRing_54 : decode cX6_clearRing 54 = .ok (.isub, 1) := by decide +kernel
theorem dX6_clearRing_55 : decode cX6_clearRing 55 = .ok (.putfield 74, 3) := by decide +kernel
theorem dX6_clearRing_58 : decode cX6_clearRing 58 = .ok (.iload_n 3, 1) := by decide +kernel
theorem dX6_clearRing_59 : decode cX6_clearRing 59 = .ok (.iload_n 2, 1) := by decide +kernel
theorem dX6_clearRing_60 : decode cX6_clearRing 60 = .ok (.iadd, 1) := by decide +kernel
theorem dX6_clearRing_61 : decode cX6_clearRing 61 = .ok (.istore_n 3, 1) := by decide +kernel
theorem dX6_clearRing_62 : decode cX6_clearRing 62 = .ok (.aload_n 0, 1) := by decide +kernel
theorem dX6_clearRing_63 : decode cX6_clearRing 63 = .ok (.getfield 19, 3) := by decide +kernel
theorem dX6_clearRing_66 : decode cX6_clearRing 66 = .ok (.iload 4, 2) := by decide +kernel
theorem dX6_clearRing_68 : decode cX6_clearRing 68 = .ok (.aaload, 1) := by decide +kernel
theorem dX6_clearRing_69 : decode cX6_clearRing 69 = .ok (.getfield 74, 3) := by decide +kernel
theorem dX6_clearRing_72 : decode cX6_clearRing 72 = .ok (.ifCond .ne 25, 3) := by decide +kernel
theorem dX6_clearRing_75 : decode cX6_clearRing 75 = .ok (.aload_n 0, 1) := by decide +kernel
theorem dX6_clearRing_76 : decode cX6_clearRing 76 = .ok (.getfield 19, 3) := by decide +kernel
theorem dX6_clearRing_79 : decode cX6_clearRing 79 = .ok (.iload 4, 2) := by decide +kernel
theorem dX6_clearRing_81 : decode cX6_clearRing 81 = .ok (.aaload, 1) := by decide +kernel
theorem dX6_clearRing_82 : decode cX6_clearRing 82 = .ok (.iconst 3, 1) := by decide +kernel
theorem dX6_clearRing_83 : decode cX6_clearRing 83 = .ok (.putfield 80, 3) := by decide +kernel
theorem dX6_clearRing_86 : decode cX6_clearRing 86 = .ok (.aload_n 0, 1) := by decide +kernel
theorem dX6_clearRing_87 : decode cX6_clearRing 87 = .ok (.aload_n 0, 1) := by decide +kernel
theorem dX6_clearRing_88 : decode cX6_clearRing 88 = .ok (.getfield 19, 3) := by decide +kernel
theorem dX6_clearRing_91 : decode cX6_clearRing 91 = .ok (.iload 4, 2) := by decide +kernel
theorem dX6_clearRing_93 : decode cX6_clearRing 93 = .ok (.aaload, 1) := by decide +kernel
theorem dX6_clearRing_94 : decode cX6_clearRing 94 = .ok (.invokevirtual 168, 3) := by decide +kernel
theorem dX6_clearRing_97 : decode cX6_clearRing 97 = .ok (.iinc 4 1, 3) := by decide +kernel
theorem dX6_clearRing_100 : decode cX6_clearRing 100 = .ok (.goto (-89), 3) := by decide +kernel
theorem dX6_clearRing_103 : decode cX6_clearRing 103 = .ok (.iload_n 3, 1) := by decide +kernel
theorem dX6_clearRing_104 : decode cX6_clearRing 104 = .ok (.ireturn, 1) := by decide +kernel
theorem dX6_unplait_0 : decode cX6_unplait 0 = .ok (.aload_n 0, 1) := by decide +kernel
theorem dX6_unplait_1 : decode cX6_unplait 1 = .ok (.aload_n 1, 1) := by decide +kernel
theorem dX6_unplait_2 : decode cX6_unplait 2 = .ok (.getfield 83, 3) := by decide +kernel
theorem dX6_unplait_5 : decode cX6_unplait 5 = .ok (.invokevirtual 86, 3) := by decide +kernel
theorem dX6_unplait_8 : decode cX6_unplait 8 = .ok (.astore_n 2, 1) := by decide +kernel
theorem dX6_unplait_9 : decode cX6_unplait 9 = .ok (.aload_n 2, 1) := by decide +kernel
theorem dX6_unplait_10 : decode cX6_unplait 10 = .ok (.ifnull 8, 3) := by decide +kernel
theorem dX6_unplait_13 : decode cX6_unplait 13 = .ok (.aload_n 2, 1) := by decide +kernel
theorem dX6_unplait_14 : decode cX6_unplait 14 = .ok (.iconst (-1), 1) := by decide +kernel
theorem dX6_unplait_15 : decode cX6_unplait 15 = .ok (.putfield 83, 3) := by decide +kernel
theorem dX6_unplait_18 : decode cX6_unplait 18 = .ok (.aload_n 1, 1) := by decide +kernel
theorem dX6_unplait_19 : decode cX6_unplait 19 = .ok (.iconst (-1), 1) := by decide +kernel
theorem dX6_unplait_20 : decode cX6_unplait 20 = .ok (.putfield 83, 3) := by decide +kernel
theorem dX6_unplait_23 : decode cX6_unplait 23 = .ok (.return_, 1) := by decide +kernel
theorem dX6_fallenNext_0 : decode cX6_fallenNext 0 = .ok (.iload_n 1, 1) := by decide +kernel
theorem dX6_fallenNext_1 : decode cX6_fallenNext 1 = .ok (.istore_n 2, 1) := by decide +kernel
theorem dX6_fallenNext_2 : decode cX6_fallenNext 2 = .ok (.iconst 0, 1) := by decide +kernel
theorem dX6_fallenNext_3 : decode cX6_fallenNext 3 = .ok (.istore_n 3, 1) := by decide +kernel
theorem dX6_fallenNext_4 : decode cX6_fallenNext 4 = .ok (.iload_n 3, 1) := by decide +kernel
theorem dX6_fallenNext_5 : decode cX6_fallenNext 5 = .ok (.aload_n 0, 1) := by decide +kernel
theorem dX6_fallenNext_6 : decode cX6_fallenNext 6 = .ok (.getfield 29, 3) := by decide +kernel
theorem dX6_fallenNext_9 : decode cX6_fallenNext 9 = .ok (.if_icmp .ge 48, 3) := by decide +kernel
theorem dX6_fallenNext_12 : decode cX6_fallenNext 12 = .ok (.iload_n 3, 1) := by decide +kernel
theorem dX6_fallenNext_13 : decode cX6_fallenNext 13 = .ok (.aload_n 0, 1) := by decide +kernel
theorem dX6_fallenNext_14 : decode cX6_fallenNext 14 = .ok (.getfield 11, 3) := by decide +kernel
theorem dX6_fallenNext_17 : decode cX6_fallenNext 17 = .ok (.arraylength, 1) := by decide +kernel
theorem dX6_fallenNext_18 : decode cX6_fallenNext 18 = .ok (.if_icmp .ge 39, 3) := by decide +kernel
theorem dX6_fallenNext_21 : decode cX6_fallenNext 21 = .ok (.aload_n 0, 1) := by decide +kernel
theorem dX6_fallenNext_22 : decode cX6_fallenNext 22 = .ok (.getfield 11, 3) := by decide +kernel
theorem dX6_fallenNext_25 : decode cX6_fallenNext 25 = .ok (.iload_n 3, 1) := by decide +kernel
theorem dX6_fallenNext_26 : decode cX6_fallenNext 26 = .ok (.aaload, 1) := by decide +kernel
theorem dX6_fallenNext_27 : decode cX6_fallenNext 27 = .ok (.invokevirtual 140, 3) := by decide +kernel
theorem dX6_fallenNext_30 : decode cX6_fallenNext 30 = .ok (.aload_n 0, 1) := by decide +kernel
theorem dX6_fallenNext_31 : decode cX6_fallenNext 31 = .ok (.iload_n 3, 1) := by decide +kernel
theorem dX6_fallenNext_32 : decode cX6_fallenNext 32 = .ok (.iload_n 1, 1) := by decide +kernel
theorem dX6_fallenNext_33 : decode cX6_fallenNext 33 = .ok (.invokevirtual 171, 3) := by decide +kernel
theorem dX6_fallenNext_36 : decode cX6_fallenNext 36 = .ok (.iadd, 1) := by decide +kernel
theorem dX6_fallenNext_37 : decode cX6_fallenNext 37 = .ok (.aload_n 0, 1) := by decide +kernel
theorem dX6_fallenNext_38 : decode cX6_fallenNext 38 = .ok (.iload_n 3, 1) := by decide +kernel
theorem dX6_fallenNext_39 : decode cX6_fallenNext 39 = .ok (.invokevirtual 111, 3) := by decide +kernel
theorem dX6_fallenNext_42 : decode cX6_fallenNext 42 = .ok (.if_icmp .ge 9, 3) := by decide +kernel
theorem dX6_fallenNext_45 : decode cX6_fallenNext 45 = .ok (.iload_n 2, 1) := by decide +kernel
theorem dX6_fallenNext_46 : decode cX6_fallenNext 46 = .ok (.iconst 1, 1) := by decide +kernel
theorem dX6_fallenNext_47 : decode cX6_fallenNext 47 = .ok (.iload_n 3, 1) := by decide +kernel
theorem dX6_fallenNext_48 : decode cX6_fallenNext 48 = .ok (.ishl, 1) := by decide +kernel
theorem dX6_fallenNext_49 : decode cX6_fallenNext 49 = .ok (.ior, 1) := by decide +kernel
theorem dX6_fallenNext_50 : decode cX6_fallenNext 50 = .ok (.istore_n 2, 1) := by decide +kernel
theorem dX6_fallenNext_51 : decode cX6_fallenNext 51 = .ok (.iinc 3 1, 3) := by decide +kernel
theorem dX6_fallenNext_54 : decode cX6_fallenNext 54 = .ok (.goto (-50), 3) := by decide +kernel
theorem dX6_fallenNext_57 : decode cX6_fallenNext 57 = .ok (.iload_n 2, 1) := by decide +kernel
theorem dX6_fallenNext_58 : decode cX6_fallenNext 58 = .ok (.ireturn, 1) := by decide +kernel
theorem dX7_become_0 : decode cX7_become 0 = .ok (.aload_n 0, 1) := by decide +kernel
theorem dX7_become_1 : decode cX7_become 1 = .ok (.aload_n 1, 1) := by decide +kernel
theorem dX7_become_2 : decode cX7_become 2 = .ok (.getfield 15, 3) := by decide +kernel
theorem dX7_become_5 : decode cX7_become 5 = .ok (.putfield 15, 3) := by decide +kernel
theorem dX7_become_8 : decode cX7_become 8 = .ok (.aload_n 0, 1) := by decide +kernel
theorem dX7_become_9 : decode cX7_become 9 = .ok (.aload_n 1, 1) := by decide +kernel
theorem dX7_become_10 : decode cX7_become 10 = .ok (.getfield 18, 3) := by decide +kernel
theorem dX7_become_13 : decode cX7_become 13 = .ok (.putfield 18, 3) := by decide +kernel
theorem dX7_become_16 : decode cX7_become 16 = .ok (.aload_n 0, 1) := by decide +kernel
theorem dX7_become_17 : decode cX7_become 17 = .ok (.aload_n 1, 1) := by decide +kernel
theorem dX7_become_18 : decode cX7_become 18 = .ok (.getfield 21, 3) := by decide +kernel
theorem dX7_become_21 : decode cX7_become 21 = .ok (.putfield 21, 3) := by decide +kernel
theorem dX7_become_24 : decode cX7_become 24 = .ok (.aload_n 0, 1) := by decide +kernel
theorem dX7_become_25 : decode cX7_become 25 = .ok (.aload_n 1, 1) := by decide +kernel
theorem dX7_become_26 : decode cX7_become 26 = .ok (.getfield 24, 3) := by decide +kernel
theorem dX7_become_29 : decode cX7_become 29 = .ok (.putfield 24, 3) := by decide +kernel
theorem dX7_become_32 : decode cX7_become 32 = .ok (.aload_n 0, 1) := by decide +kernel
theorem dX7_become_33 : decode cX7_become 33 = .ok (.aload_n 1, 1) := by decide +kernel
theorem dX7_become_34 : decode cX7_become 34 = .ok (.getfield 27, 3) := by decide +kernel
theorem dX7_become_37 : decode cX7_become 37 = .ok (.putfield 27, 3) := by decide +kernel
theorem dX7_become_40 : decode cX7_become 40 = .ok (.aload_n 0, 1) := by decide +kernel
theorem dX7_become_41 : decode cX7_become 41 = .ok (.aload_n 1, 1) := by decide +kernel
theorem dX7_become_42 : decode cX7_become 42 = .ok (.getfield 9, 3) := by decide +kernel
theorem dX7_become_45 : decode cX7_become 45 = .ok (.putfield 9, 3) := by decide +kernel
theorem dX7_become_48 : decode cX7_become 48 = .ok (.return_, 1) := by decide +kernel
theorem dJ6_bitCount_0f7a4_0 : decode cJ6_bitCount_0f7a4 0 = .ok (.iload_n 0, 1) := by decide +kernel
theorem dJ6_bitCount_0f7a4_1 : decode cJ6_bitCount_0f7a4 1 = .ok (.iload_n 0, 1) := by decide +kernel
theorem dJ6_bitCount_0f7a4_2 : decode cJ6_bitCount_0f7a4 2 = .ok (.iconst 1, 1) := by decide +kernel
theorem dJ6_bitCount_0f7a4_3 : decode cJ6_bitCount_0f7a4 3 = .ok (.iushr, 1) := by decide +kernel
theorem dJ6_bitCount_0f7a4_4 : decode cJ6_bitCount_0f7a4 4 = .ok (.ldc_w 265, 3) := by decide +kernel
theorem dJ6_bitCount_0f7a4_7 : decode cJ6_bitCount_0f7a4 7 = .ok (.iand, 1) := by decide +kernel
theorem dJ6_bitCount_0f7a4_8 : decode cJ6_bitCount_0f7a4 8 = .ok (.isub, 1) := by decide +kernel
theorem dJ6_bitCount_0f7a4_9 : decode cJ6_bitCount_0f7a4 9 = .ok (.istore_n 0, 1) := by decide +kernel
theorem dJ6_bitCount_0f7a4_10 : decode cJ6_bitCount_0f7a4 10 = .ok (.iload_n 0, 1) := by decide +kernel
theorem dJ6_bitCount_0f7a4_11 : decode cJ6_bitCount_0f7a4 11 = .ok (.ldc_w 266, 3) := by decide +kernel
theorem dJ6_bitCount_0f7a4_14 : decode cJ6_bitCount_0f7a4 14 = .ok (.iand, 1) := by decide +kernel
theorem dJ6_bitCount_0f7a4_15 : decode cJ6_bitCount_0f7a4 15 = .ok (.iload_n 0, 1) := by decide +kernel
theorem dJ6_bitCount_0f7a4_16 : decode cJ6_bitCount_0f7a4 16 = .ok (.iconst 2, 1) := by decide +kernel
theorem dJ6_bitCount_0f7a4_17 : decode cJ6_bitCount_0f7a4 17 = .ok (.iushr, 1) := by decide +kernel
theorem dJ6_bitCount_0f7a4_18 : decode cJ6_bitCount_0f7a4 18 = .ok (.ldc_w 266, 3) := by decide +kernel
theorem dJ6_bitCount_0f7a4_21 : decode cJ6_bitCount_0f7a4 21 = .ok (.iand, 1) := by decide +kernel
theorem dJ6_bitCount_0f7a4_22 : decode cJ6_bitCount_0f7a4 22 = .ok (.iadd, 1) := by decide +kernel
theorem dJ6_bitCount_0f7a4_23 : decode cJ6_bitCount_0f7a4 23 = .ok (.istore_n 0, 1) := by decide +kernel
theorem dJ6_bitCount_0f7a4_24 : decode cJ6_bitCount_0f7a4 24 = .ok (.iload_n 0, 1) := by decide +kernel
theorem dJ6_bitCount_0f7a4_25 : decode cJ6_bitCount_0f7a4 25 = .ok (.iload_n 0, 1) := by decide +kernel
theorem dJ6_bitCount_0f7a4_26 : decode cJ6_bitCount_0f7a4 26 = .ok (.iconst 4, 1) := by decide +kernel
theorem dJ6_bitCount_0f7a4_27 : decode cJ6_bitCount_0f7a4 27 = .ok (.iushr, 1) := by decide +kernel
theorem dJ6_bitCount_0f7a4_28 : decode cJ6_bitCount_0f7a4 28 = .ok (.iadd, 1) := by decide +kernel
theorem dJ6_bitCount_0f7a4_29 : decode cJ6_bitCount_0f7a4 29 = .ok (.ldc_w 267, 3) := by decide +kernel
theorem dJ6_bitCount_0f7a4_32 : decode cJ6_bitCount_0f7a4 32 = .ok (.iand, 1) := by decide +kernel
theorem dJ6_bitCount_0f7a4_33 : decode cJ6_bitCount_0f7a4 33 = .ok (.istore_n 0, 1) := by decide +kernel
theorem dJ6_bitCount_0f7a4_34 : decode cJ6_bitCount_0f7a4 34 = .ok (.iload_n 0, 1) := by decide +kernel
theorem dJ6_bitCount_0f7a4_35 : decode cJ6_bitCount_0f7a4 35 = .ok (.iload_n 0, 1) := by decide +kernel
theorem dJ6_bitCount_0f7a4_36 : decode cJ6_bitCount_0f7a4 36 = .ok (.bipush 8, 2) := by decide +kernel
theorem dJ6_bitCount_0f7a4_38 : decode cJ6_bitCount_0f7a4 38 = .ok (.iushr, 1) := by decide +kernel
theorem dJ6_bitCount_0f7a4_39 : decode cJ6_bitCount_0f7a4 39 = .ok (.iadd, 1) := by decide +kernel
theorem dJ6_bitCount_0f7a4_40 : decode cJ6_bitCount_0f7a4 40 = .ok (.istore_n 0, 1) := by decide +kernel
theorem dJ6_bitCount_0f7a4_41 : decode cJ6_bitCount_0f7a4 41 = .ok (.iload_n 0, 1) := by decide +kernel
theorem dJ6_bitCount_0f7a4_42 : decode cJ6_bitCount_0f7a4 42 = .ok (.iload_n 0, 1) := by decide +kernel
theorem dJ6_bitCount_0f7a4_43 : decode cJ6_bitCount_0f7a4 43 = .ok (.bipush 16, 2) := by decide +kernel
theorem dJ6_bitCount_0f7a4_45 : decode cJ6_bitCount_0f7a4 45 = .ok (.iushr, 1) := by decide +kernel
theorem dJ6_bitCount_0f7a4_46 : decode cJ6_bitCount_0f7a4 46 = .ok (.iadd, 1) := by decide +kernel
theorem dJ6_bitCount_0f7a4_47 : decode cJ6_bitCount_0f7a4 47 = .ok (.istore_n 0, 1) := by decide +kernel
theorem dJ6_bitCount_0f7a4_48 : decode cJ6_bitCount_0f7a4 48 = .ok (.iload_n 0, 1) := by decide +kernel
theorem dJ6_bitCount_0f7a4_49 : decode cJ6_bitCount_0f7a4 49 = .ok (.bipush 63, 2) := by decide +kernel
theorem dJ6_bitCount_0f7a4_51 : decode cJ6_bitCount_0f7a4 51 = .ok (.iand, 1) := by decide +kernel
theorem dJ6_bitCount_0f7a4_52 : decode cJ6_bitCount_0f7a4 52 = .ok (.ireturn, 1) := by decide +kernel
theorem dJ9_max_7cf53_0 : decode cJ9_max_7cf53 0 = .ok (.iload_n 0, 1) := by decide +kernel
theorem dJ9_max_7cf53_1 : decode cJ9_max_7cf53 1 = .ok (.iload_n 1, 1) := by decide +kernel
theorem dJ9_max_7cf53_2 : decode cJ9_max_7cf53 2 = .ok (.if_icmp .lt 7, 3) := by decide +kernel
theorem dJ9_max_7cf53_5 : decode cJ9_max_7cf53 5 = .ok (.iload_n 0, 1) := by decide +kernel
theorem dJ9_max_7cf53_6 : decode cJ9_max_7cf53 6 = .ok (.goto 4, 3) := by decide +kernel
theorem dJ9_max_7cf53_9 : decode cJ9_max_7cf53 9 = .ok (.iload_n 1, 1) := by decide +kernel
theorem dJ9_max_7cf53_10 : decode cJ9_max_7cf53 10 = .ok (.ireturn, 1) := by decide +kernel
theorem dJ9_min_7cf53_0 : decode cJ9_min_7cf53 0 = .ok (.iload_n 0, 1) := by decide +kernel
theorem dJ9_min_7cf53_1 : decode cJ9_min_7cf53 1 = .ok (.iload_n 1, 1) := by decide +kernel
theorem dJ9_min_7cf53_2 : decode cJ9_min_7cf53 2 = .ok (.if_icmp .gt 7, 3) := by decide +kernel
theorem dJ9_min_7cf53_5 : decode cJ9_min_7cf53 5 = .ok (.iload_n 0, 1) := by decide +kernel
theorem dJ9_min_7cf53_6 : decode cJ9_min_7cf53 6 = .ok (.goto 4, 3) := by decide +kernel
theorem dJ9_min_7cf53_9 : decode cJ9_min_7cf53 9 = .ok (.iload_n 1, 1) := by decide +kernel
theorem dJ9_min_7cf53_10 : decode cJ9_min_7cf53 10 = .ok (.ireturn, 1) := by decide +kernel
theorem dJ7_fill_53178_0 : decode cJ7_fill_53178 0 = .ok (.iconst 0, 1) := by decide +kernel
theorem dJ7_fill_53178_1 : decode cJ7_fill_53178 1 = .ok (.istore_n 2, 1) := by decide +kernel
theorem dJ7_fill_53178_2 : decode cJ7_fill_53178 2 = .ok (.aload_n 0, 1) := by decide +kernel
theorem dJ7_fill_53178_3 : decode cJ7_fill_53178 3 = .ok (.arraylength, 1) := by decide +kernel
theorem dJ7_fill_53178_4 : decode cJ7_fill_53178 4 = .ok (.istore_n 3, 1) := by decide +kernel
theorem dJ7_fill_53178_5 : decode cJ7_fill_53178 5 = .ok (.iload_n 2, 1) := by decide +kernel
theorem dJ7_fill_53178_6 : decode cJ7_fill_53178 6 = .ok (.iload_n 3, 1) := by decide +kernel
theorem dJ7_fill_53178_7 : decode cJ7_fill_53178 7 = .ok (.if_icmp .ge 13, 3) := by decide +kernel
theorem dJ7_fill_53178_10 : decode cJ7_fill_53178 10 = .ok (.aload_n 0, 1) := by decide +kernel
theorem dJ7_fill_53178_11 : decode cJ7_fill_53178 11 = .ok (.iload_n 2, 1) := by decide +kernel
theorem dJ7_fill_53178_12 : decode cJ7_fill_53178 12 = .ok (.iload_n 1, 1) := by decide +kernel
theorem dJ7_fill_53178_13 : decode cJ7_fill_53178 13 = .ok (.iastore, 1) := by decide +kernel
theorem dJ7_fill_53178_14 : decode cJ7_fill_53178 14 = .ok (.iinc 2 1, 3) := by decide +kernel
theorem dJ7_fill_53178_17 : decode cJ7_fill_53178 17 = .ok (.goto (-12), 3) := by decide +kernel
theorem dJ7_fill_53178_20 : decode cJ7_fill_53178 20 = .ok (.return_, 1) := by decide +kernel
