/-! MAKERS: traces of the constructors, printed by wip/whole/gen_make.py -/
theorem dX0_init_0 : decode cX0_init 0 = .ok (.aload_n 0, 1) := by decide +kernel
theorem dX0_init_1 : decode cX0_init 1 = .ok (.invokespecial 3, 3) := by decide +kernel
theorem dX0_init_4 : decode cX0_init 4 = .ok (.aload_n 0, 1) := by decide +kernel
theorem dX0_init_5 : decode cX0_init 5 = .ok (.bipush 6, 2) := by decide +kernel
theorem dX0_init_7 : decode cX0_init 7 = .ok (.newarray .int, 2) := by decide +kernel
theorem dX0_init_9 : decode cX0_init 9 = .ok (.putfield 9, 3) := by decide +kernel
theorem dX0_init_12 : decode cX0_init 12 = .ok (.aload_n 0, 1) := by decide +kernel
theorem dX0_init_13 : decode cX0_init 13 = .ok (.bipush 6, 2) := by decide +kernel
theorem dX0_init_15 : decode cX0_init 15 = .ok (.newarray .int, 2) := by decide +kernel
theorem dX0_init_17 : decode cX0_init 17 = .ok (.putfield 15, 3) := by decide +kernel
theorem dX0_init_20 : decode cX0_init 20 = .ok (.return_, 1) := by decide +kernel
theorem dX1_init_0 : decode cX1_init 0 = .ok (.aload_n 0, 1) := by decide +kernel
theorem dX1_init_1 : decode cX1_init 1 = .ok (.invokespecial 3, 3) := by decide +kernel
theorem dX1_init_4 : decode cX1_init 4 = .ok (.return_, 1) := by decide +kernel
theorem dX2_init_0 : decode cX2_init 0 = .ok (.aload_n 0, 1) := by decide +kernel
theorem dX2_init_1 : decode cX2_init 1 = .ok (.invokespecial 3, 3) := by decide +kernel
theorem dX2_init_4 : decode cX2_init 4 = .ok (.aload_n 0, 1) := by decide +kernel
theorem dX2_init_5 : decode cX2_init 5 = .ok (.sipush 160, 3) := by decide +kernel
theorem dX2_init_8 : decode cX2_init 8 = .ok (.newarray .int, 2) := by decide +kernel
theorem dX2_init_10 : decode cX2_init 10 = .ok (.putfield 9, 3) := by decide +kernel
theorem dX2_init_13 : decode cX2_init 13 = .ok (.aload_n 0, 1) := by decide +kernel
theorem dX2_init_14 : decode cX2_init 14 = .ok (.sipush 161, 3) := by decide +kernel
theorem dX2_init_17 : decode cX2_init 17 = .ok (.newarray .int, 2) := by decide +kernel
theorem dX2_init_19 : decode cX2_init 19 = .ok (.putfield 15, 3) := by decide +kernel
theorem dX2_init_22 : decode cX2_init 22 = .ok (.aload_n 0, 1) := by decide +kernel
theorem dX2_init_23 : decode cX2_init 23 = .ok (.sipush 161, 3) := by decide +kernel
theorem dX2_init_26 : decode cX2_init 26 = .ok (.newarray .int, 2) := by decide +kernel
theorem dX2_init_28 : decode cX2_init 28 = .ok (.putfield 18, 3) := by decide +kernel
theorem dX2_init_31 : decode cX2_init 31 = .ok (.aload_n 0, 1) := by decide +kernel
theorem dX2_init_32 : decode cX2_init 32 = .ok (.sipush 160, 3) := by decide +kernel
theorem dX2_init_35 : decode cX2_init 35 = .ok (.newarray .int, 2) := by decide +kernel
theorem dX2_init_37 : decode cX2_init 37 = .ok (.putfield 21, 3) := by decide +kernel
theorem dX2_init_40 : decode cX2_init 40 = .ok (.aload_n 0, 1) := by decide +kernel
theorem dX2_init_41 : decode cX2_init 41 = .ok (.iconst 3, 1) := by decide +kernel
theorem dX2_init_42 : decode cX2_init 42 = .ok (.newarray .int, 2) := by decide +kernel
theorem dX2_init_44 : decode cX2_init 44 = .ok (.putfield 24, 3) := by decide +kernel
theorem dX2_init_47 : decode cX2_init 47 = .ok (.return_, 1) := by decide +kernel
theorem dX3_init_0 : decode cX3_init 0 = .ok (.aload_n 0, 1) := by decide +kernel
theorem dX3_init_1 : decode cX3_init 1 = .ok (.invokespecial 3, 3) := by decide +kernel
theorem dX3_init_4 : decode cX3_init 4 = .ok (.aload_n 0, 1) := by decide +kernel
theorem dX3_init_5 : decode cX3_init 5 = .ok (.bipush 6, 2) := by decide +kernel
theorem dX3_init_7 : decode cX3_init 7 = .ok (.anewarray 9, 3) := by decide +kernel
theorem dX3_init_10 : decode cX3_init 10 = .ok (.putfield 11, 3) := by decide +kernel
theorem dX3_init_13 : decode cX3_init 13 = .ok (.aload_n 0, 1) := by decide +kernel
theorem dX3_init_14 : decode cX3_init 14 = .ok (.bipush 64, 2) := by decide +kernel
theorem dX3_init_16 : decode cX3_init 16 = .ok (.newarray .int, 2) := by decide +kernel
theorem dX3_init_18 : decode cX3_init 18 = .ok (.putfield 17, 3) := by decide +kernel
theorem dX3_init_21 : decode cX3_init 21 = .ok (.aload_n 0, 1) := by decide +kernel
theorem dX3_init_22 : decode cX3_init 22 = .ok (.bipush 6, 2) := by decide +kernel
theorem dX3_init_24 : decode cX3_init 24 = .ok (.newarray .int, 2) := by decide +kernel
theorem dX3_init_26 : decode cX3_init 26 = .ok (.putfield 21, 3) := by decide +kernel
theorem dX3_init_29 : decode cX3_init 29 = .ok (.aload_n 0, 1) := by decide +kernel
theorem dX3_init_30 : decode cX3_init 30 = .ok (.getfield 11, 3) := by decide +kernel
theorem dX3_init_33 : decode cX3_init 33 = .ok (.iconst 0, 1) := by decide +kernel
theorem dX3_init_34 : decode cX3_init 34 = .ok (.new 9, 3) := by decide +kernel
theorem dX3_init_37 : decode cX3_init 37 = .ok (.dup, 1) := by decide +kernel
theorem dX3_init_38 : decode cX3_init 38 = .ok (.iconst 3, 1) := by decide +kernel
theorem dX3_init_39 : decode cX3_init 39 = .ok (.newarray .int, 2) := by decide +kernel
theorem dX3_init_41 : decode cX3_init 41 = .ok (.dup, 1) := by decide +kernel
theorem dX3_init_42 : decode cX3_init 42 = .ok (.iconst 0, 1) := by decide +kernel
theorem dX3_init_43 : decode cX3_init 43 = .ok (.iconst 4, 1) := by decide +kernel
theorem dX3_init_44 : decode cX3_init 44 = .ok (.iastore, 1) := by decide +kernel
theorem dX3_init_45 : decode cX3_init 45 = .ok (.dup, 1) := by decide +kernel
theorem dX3_init_46 : decode cX3_init 46 = .ok (.iconst 1, 1) := by decide +kernel
theorem dX3_init_47 : decode cX3_init 47 = .ok (.bipush (-2), 2) := by decide +kernel
theorem dX3_init_49 : decode cX3_init 49 = .ok (.iastore, 1) := by decide +kernel
theorem dX3_init_50 : decode cX3_init 50 = .ok (.dup, 1) := by decide +kernel
theorem dX3_init_51 : decode cX3_init 51 = .ok (.iconst 2, 1) := by decide +kernel
theorem dX3_init_52 : decode cX3_init 52 = .ok (.bipush (-14), 2) := by decide +kernel
theorem dX3_init_54 : decode cX3_init 54 = .ok (.iastore, 1) := by decide +kernel
theorem dX3_init_55 : decode cX3_init 55 = .ok (.iconst 1, 1) := by decide +kernel
theorem dX3_init_56 : decode cX3_init 56 = .ok (.newarray .int, 2) := by decide +kernel
theorem dX3_init_58 : decode cX3_init 58 = .ok (.dup, 1) := by decide +kernel
theorem dX3_init_59 : decode cX3_init 59 = .ok (.iconst 0, 1) := by decide +kernel
theorem dX3_init_60 : decode cX3_init 60 = .ok (.iconst 2, 1) := by decide +kernel
theorem dX3_init_61 : decode cX3_init 61 = .ok (.iastore, 1) := by decide +kernel
theorem dX3_init_62 : decode cX3_init 62 = .ok (.iconst 1, 1) := by decide +kernel
theorem dX3_init_63 : decode cX3_init 63 = .ok (.newarray .int, 2) := by decide +kernel
theorem dX3_init_65 : decode cX3_init 65 = .ok (.dup, 1) := by decide +kernel
theorem dX3_init_66 : decode cX3_init 66 = .ok (.iconst 0, 1) := by decide +kernel
theorem dX3_init_67 : decode cX3_init 67 = .ok (.bipush 10, 2) := by decide +kernel
theorem dX3_init_69 : decode cX3_init 69 = .ok (.iastore, 1) := by decide +kernel
theorem dX3_init_70 : decode cX3_init 70 = .ok (.invokespecial 24, 3) := by decide +kernel
theorem dX3_init_73 : decode cX3_init 73 = .ok (.aastore, 1) := by decide +kernel
theorem dX3_init_74 : decode cX3_init 74 = .ok (.aload_n 0, 1) := by decide +kernel
theorem dX3_init_75 : decode cX3_init 75 = .ok (.iconst 1, 1) := by decide +kernel
theorem dX3_init_76 : decode cX3_init 76 = .ok (.putfield 27, 3) := by decide +kernel
theorem dX3_init_79 : decode cX3_init 79 = .ok (.return_, 1) := by decide +kernel
theorem dX4_init_0 : decode cX4_init 0 = .ok (.aload_n 0, 1) := by decide +kernel
theorem dX4_init_1 : decode cX4_init 1 = .ok (.invokespecial 3, 3) := by decide +kernel
theorem dX4_init_4 : decode cX4_init 4 = .ok (.aload_n 0, 1) := by decide +kernel
theorem dX4_init_5 : decode cX4_init 5 = .ok (.bipush 40, 2) := by decide +kernel
theorem dX4_init_7 : decode cX4_init 7 = .ok (.newarray .int, 2) := by decide +kernel
theorem dX4_init_9 : decode cX4_init 9 = .ok (.putfield 9, 3) := by decide +kernel
theorem dX4_init_12 : decode cX4_init 12 = .ok (.aload_n 0, 1) := by decide +kernel
theorem dX4_init_13 : decode cX4_init 13 = .ok (.iconst (-1), 1) := by decide +kernel
theorem dX4_init_14 : decode cX4_init 14 = .ok (.putfield 15, 3) := by decide +kernel
theorem dX4_init_17 : decode cX4_init 17 = .ok (.return_, 1) := by decide +kernel
theorem dX5_init_0 : decode cX5_init 0 = .ok (.aload_n 0, 1) := by decide +kernel
theorem dX5_init_1 : decode cX5_init 1 = .ok (.invokespecial 3, 3) := by decide +kernel
theorem dX5_init_4 : decode cX5_init 4 = .ok (.aload_n 0, 1) := by decide +kernel
theorem dX5_init_5 : decode cX5_init 5 = .ok (.aload_n 1, 1) := by decide +kernel
theorem dX5_init_6 : decode cX5_init 6 = .ok (.putfield 9, 3) := by decide +kernel
theorem dX5_init_9 : decode cX5_init 9 = .ok (.aload_n 0, 1) := by decide +kernel
theorem dX5_init_10 : decode cX5_init 10 = .ok (.aload_n 2, 1) := by decide +kernel
theorem dX5_init_11 : decode cX5_init 11 = .ok (.putfield 15, 3) := by decide +kernel
theorem dX5_init_14 : decode cX5_init 14 = .ok (.aload_n 0, 1) := by decide +kernel
theorem dX5_init_15 : decode cX5_init 15 = .ok (.aload_n 3, 1) := by decide +kernel
theorem dX5_init_16 : decode cX5_init 16 = .ok (.putfield 18, 3) := by decide +kernel
theorem dX5_init_19 : decode cX5_init 19 = .ok (.return_, 1) := by decide +kernel
theorem dX6_init_0 : decode cX6_init 0 = .ok (.aload_n 0, 1) := by decide +kernel
theorem dX6_init_1 : decode cX6_init 1 = .ok (.invokespecial 3, 3) := by decide +kernel
theorem dX6_init_4 : decode cX6_init 4 = .ok (.aload_n 0, 1) := by decide +kernel
theorem dX6_init_5 : decode cX6_init 5 = .ok (.bipush 6, 2) := by decide +kernel
theorem dX6_init_7 : decode cX6_init 7 = .ok (.anewarray 9, 3) := by decide +kernel
theorem dX6_init_10 : decode cX6_init 10 = .ok (.putfield 11, 3) := by decide +kernel
theorem dX6_init_13 : decode cX6_init 13 = .ok (.aload_n 0, 1) := by decide +kernel
theorem dX6_init_14 : decode cX6_init 14 = .ok (.bipush 8, 2) := by decide +kernel
theorem dX6_init_16 : decode cX6_init 16 = .ok (.anewarray 17, 3) := by decide +kernel
theorem dX6_init_19 : decode cX6_init 19 = .ok (.putfield 19, 3) := by decide +kernel
theorem dX6_init_22 : decode cX6_init 22 = .ok (.aload_n 0, 1) := by decide +kernel
theorem dX6_init_23 : decode cX6_init 23 = .ok (.aload_n 1, 1) := by decide +kernel
theorem dX6_init_24 : decode cX6_init 24 = .ok (.putfield 23, 3) := by decide +kernel
theorem dX6_init_27 : decode cX6_init 27 = .ok (.iconst 0, 1) := by decide +kernel
theorem dX6_init_28 : decode cX6_init 28 = .ok (.istore_n 2, 1) := by decide +kernel
theorem dX6_init_29 : decode cX6_init 29 = .ok (.iload_n 2, 1) := by decide +kernel
theorem dX6_init_30 : decode cX6_init 30 = .ok (.aload_n 0, 1) := by decide +kernel
theorem dX6_init_31 : decode cX6_init 31 = .ok (.getfield 11, 3) := by decide +kernel
theorem dX6_init_34 : decode cX6_init 34 = .ok (.arraylength, 1) := by decide +kernel
theorem dX6_init_35 : decode cX6_init 35 = .ok (.if_icmp .ge 22, 3) := by decide +kernel
theorem dX6_init_38 : decode cX6_init 38 = .ok (.aload_n 0, 1) := by decide +kernel
theorem dX6_init_39 : decode cX6_init 39 = .ok (.getfield 11, 3) := by decide +kernel
theorem dX6_init_42 : decode cX6_init 42 = .ok (.iload_n 2, 1) := by decide +kernel
theorem dX6_init_43 : decode cX6_init 43 = .ok (.new 9, 3) := by decide +kernel
theorem dX6_init_46 : decode cX6_init 46 = .ok (.dup, 1) := by decide +kernel
theorem dX6_init_47 : decode cX6_init 47 = .ok (.invokespecial 27, 3) := by decide +kernel
theorem dX6_init_50 : decode cX6_init 50 = .ok (.aastore, 1) := by decide +kernel
theorem dX6_init_51 : decode cX6_init 51 = .ok (.iinc 2 1, 3) := by decide +kernel
theorem dX6_init_54 : decode cX6_init 54 = .ok (.goto (-25), 3) := by decide +kernel
theorem dX6_init_57 : decode cX6_init 57 = .ok (.iconst 0, 1) := by decide +kernel
theorem dX6_init_58 : decode cX6_init 58 = .ok (.istore_n 2, 1) := by decide +kernel
theorem dX6_init_59 : decode cX6_init 59 = .ok (.iload_n 2, 1) := by decide +kernel
theorem dX6_init_60 : decode cX6_init 60 = .ok (.aload_n 0, 1) := by decide +kernel
theorem dX6_init_61 : decode cX6_init 61 = .ok (.getfield 19, 3) := by decide +kernel
theorem dX6_init_64 : decode cX6_init 64 = .ok (.arraylength, 1) := by decide +kernel
theorem dX6_init_65 : decode cX6_init 65 = .ok (.if_icmp .ge 22, 3) := by decide +kernel
theorem dX6_init_68 : decode cX6_init 68 = .ok (.aload_n 0, 1) := by decide +kernel
theorem dX6_init_69 : decode cX6_init 69 = .ok (.getfield 19, 3) := by decide +kernel
theorem dX6_init_72 : decode cX6_init 72 = .ok (.iload_n 2, 1) := by decide +kernel
theorem dX6_init_73 : decode cX6_init 73 = .ok (.new 17, 3) := by decide +kernel
theorem dX6_init_76 : decode cX6_init 76 = .ok (.dup, 1) := by decide +kernel
theorem dX6_init_77 : decode cX6_init 77 = .ok (.invokespecial 28, 3) := by decide +kernel
theorem dX6_init_80 : decode cX6_init 80 = .ok (.aastore, 1) := by decide +kernel
theorem dX6_init_81 : decode cX6_init 81 = .ok (.iinc 2 1, 3) := by decide +kernel
theorem dX6_init_84 : decode cX6_init 84 = .ok (.goto (-25), 3) := by decide +kernel
theorem dX6_init_87 : decode cX6_init 87 = .ok (.return_, 1) := by decide +kernel
theorem dX7_init_0 : decode cX7_init 0 = .ok (.aload_n 0, 1) := by decide +kernel
theorem dX7_init_1 : decode cX7_init 1 = .ok (.invokespecial 3, 3) := by decide +kernel
theorem dX7_init_4 : decode cX7_init 4 = .ok (.aload_n 0, 1) := by decide +kernel
theorem dX7_init_5 : decode cX7_init 5 = .ok (.iconst (-1), 1) := by decide +kernel
theorem dX7_init_6 : decode cX7_init 6 = .ok (.putfield 9, 3) := by decide +kernel
theorem dX7_init_9 : decode cX7_init 9 = .ok (.return_, 1) := by decide +kernel
theorem dX8_init_0 : decode cX8_init 0 = .ok (.aload_n 0, 1) := by decide +kernel
theorem dX8_init_1 : decode cX8_init 1 = .ok (.invokespecial 1, 3) := by decide +kernel
theorem dX8_init_4 : decode cX8_init 4 = .ok (.aload_n 0, 1) := by decide +kernel
theorem dX8_init_5 : decode cX8_init 5 = .ok (.new 7, 3) := by decide +kernel
theorem dX8_init_8 : decode cX8_init 8 = .ok (.dup, 1) := by decide +kernel
theorem dX8_init_9 : decode cX8_init 9 = .ok (.invokespecial 9, 3) := by decide +kernel
theorem dX8_init_12 : decode cX8_init 12 = .ok (.putfield 10, 3) := by decide +kernel
theorem dX8_init_15 : decode cX8_init 15 = .ok (.aload_n 0, 1) := by decide +kernel
theorem dX8_init_16 : decode cX8_init 16 = .ok (.new 16, 3) := by decide +kernel
theorem dX8_init_19 : decode cX8_init 19 = .ok (.dup, 1) := by decide +kernel
theorem dX8_init_20 : decode cX8_init 20 = .ok (.invokespecial 18, 3) := by decide +kernel
theorem dX8_init_23 : decode cX8_init 23 = .ok (.putfield 19, 3) := by decide +kernel
theorem dX8_init_26 : decode cX8_init 26 = .ok (.aload_n 0, 1) := by decide +kernel
theorem dX8_init_27 : decode cX8_init 27 = .ok (.new 23, 3) := by decide +kernel
theorem dX8_init_30 : decode cX8_init 30 = .ok (.dup, 1) := by decide +kernel
theorem dX8_init_31 : decode cX8_init 31 = .ok (.aload_n 0, 1) := by decide +kernel
theorem dX8_init_32 : decode cX8_init 32 = .ok (.getfield 10, 3) := by decide +kernel
theorem dX8_init_35 : decode cX8_init 35 = .ok (.invokespecial 25, 3) := by decide +kernel
theorem dX8_init_38 : decode cX8_init 38 = .ok (.putfield 28, 3) := by decide +kernel
theorem dX8_init_41 : decode cX8_init 41 = .ok (.aload_n 0, 1) := by decide +kernel
theorem dX8_init_42 : decode cX8_init 42 = .ok (.new 23, 3) := by decide +kernel
theorem dX8_init_45 : decode cX8_init 45 = .ok (.dup, 1) := by decide +kernel
theorem dX8_init_46 : decode cX8_init 46 = .ok (.aload_n 0, 1) := by decide +kernel
theorem dX8_init_47 : decode cX8_init 47 = .ok (.getfield 10, 3) := by decide +kernel
theorem dX8_init_50 : decode cX8_init 50 = .ok (.invokespecial 25, 3) := by decide +kernel
theorem dX8_init_53 : decode cX8_init 53 = .ok (.putfield 32, 3) := by decide +kernel
theorem dX8_init_56 : decode cX8_init 56 = .ok (.aload_n 0, 1) := by decide +kernel
theorem dX8_init_57 : decode cX8_init 57 = .ok (.new 23, 3) := by decide +kernel
theorem dX8_init_60 : decode cX8_init 60 = .ok (.dup, 1) := by decide +kernel
theorem dX8_init_61 : decode cX8_init 61 = .ok (.aload_n 0, 1) := by decide +kernel
theorem dX8_init_62 : decode cX8_init 62 = .ok (.getfield 10, 3) := by decide +kernel
theorem dX8_init_65 : decode cX8_init 65 = .ok (.invokespecial 25, 3) := by decide +kernel
theorem dX8_init_68 : decode cX8_init 68 = .ok (.putfield 35, 3) := by decide +kernel
theorem dX8_init_71 : decode cX8_init 71 = .ok (.aload_n 0, 1) := by decide +kernel
theorem dX8_init_72 : decode cX8_init 72 = .ok (.iconst 0, 1) := by decide +kernel
theorem dX8_init_73 : decode cX8_init 73 = .ok (.putfield 38, 3) := by decide +kernel
theorem dX8_init_76 : decode cX8_init 76 = .ok (.aload_n 0, 1) := by decide +kernel
theorem dX8_init_77 : decode cX8_init 77 = .ok (.iconst 4, 1) := by decide +kernel
theorem dX8_init_78 : decode cX8_init 78 = .ok (.anewarray 42, 3) := by decide +kernel
theorem dX8_init_81 : decode cX8_init 81 = .ok (.putfield 44, 3) := by decide +kernel
theorem dX8_init_84 : decode cX8_init 84 = .ok (.iconst 0, 1) := by decide +kernel
theorem dX8_init_85 : decode cX8_init 85 = .ok (.istore_n 1, 1) := by decide +kernel
theorem dX8_init_86 : decode cX8_init 86 = .ok (.iload_n 1, 1) := by decide +kernel
theorem dX8_init_87 : decode cX8_init 87 = .ok (.aload_n 0, 1) := by decide +kernel
theorem dX8_init_88 : decode cX8_init 88 = .ok (.getfield 44, 3) := by decide +kernel
theorem dX8_init_91 : decode cX8_init 91 = .ok (.arraylength, 1) := by decide +kernel
theorem dX8_init_92 : decode cX8_init 92 = .ok (.if_icmp .ge 22, 3) := by decide +kernel
theorem dX8_init_95 : decode cX8_init 95 = .ok (.aload_n 0, 1) := by decide +kernel
theorem dX8_init_96 : decode cX8_init 96 = .ok (.getfield 44, 3) := by decide +kernel
theorem dX8_init_99 : decode cX8_init 99 = .ok (.iload_n 1, 1) := by decide +kernel
theorem dX8_init_100 : decode cX8_init 100 = .ok (.new 42, 3) := by decide +kernel
theorem dX8_init_103 : decode cX8_init 103 = .ok (.dup, 1) := by decide +kernel
theorem dX8_init_104 : decode cX8_init 104 = .ok (.invokespecial 48, 3) := by decide +kernel
theorem dX8_init_107 : decode cX8_init 107 = .ok (.aastore, 1) := by decide +kernel
theorem dX8_init_108 : decode cX8_init 108 = .ok (.iinc 1 1, 3) := by decide +kernel
theorem dX8_init_111 : decode cX8_init 111 = .ok (.goto (-25), 3) := by decide +kernel
theorem dX8_init_114 : decode cX8_init 114 = .ok (.aload_n 0, 1) := by decide +kernel
theorem dX8_init_115 : decode cX8_init 115 = .ok (.new 49, 3) := by decide +kernel
theorem dX8_init_118 : decode cX8_init 118 = .ok (.dup, 1) := by decide +kernel
theorem dX8_init_119 : decode cX8_init 119 = .ok (.invokespecial 51, 3) := by decide +kernel
theorem dX8_init_122 : decode cX8_init 122 = .ok (.putfield 52, 3) := by decide +kernel
theorem dX8_init_125 : decode cX8_init 125 = .ok (.aload_n 0, 1) := by decide +kernel
theorem dX8_init_126 : decode cX8_init 126 = .ok (.new 49, 3) := by decide +kernel
theorem dX8_init_129 : decode cX8_init 129 = .ok (.dup, 1) := by decide +kernel
theorem dX8_init_130 : decode cX8_init 130 = .ok (.invokespecial 51, 3) := by decide +kernel
theorem dX8_init_133 : decode cX8_init 133 = .ok (.putfield 56, 3) := by decide +kernel
theorem dX8_init_136 : decode cX8_init 136 = .ok (.aload_n 0, 1) := by decide +kernel
theorem dX8_init_137 : decode cX8_init 137 = .ok (.new 59, 3) := by decide +kernel
theorem dX8_init_140 : decode cX8_init 140 = .ok (.dup, 1) := by decide +kernel
theorem dX8_init_141 : decode cX8_init 141 = .ok (.invokespecial 61, 3) := by decide +kernel
theorem dX8_init_144 : decode cX8_init 144 = .ok (.putfield 62, 3) := by decide +kernel
theorem dX8_init_147 : decode cX8_init 147 = .ok (.return_, 1) := by decide +kernel
theorem dX9_init_0 : decode cX9_init 0 = .ok (.aload_n 0, 1) := by decide +kernel
theorem dX9_init_1 : decode cX9_init 1 = .ok (.invokespecial 1, 3) := by decide +kernel
theorem dX9_init_4 : decode cX9_init 4 = .ok (.aload_n 0, 1) := by decide +kernel
theorem dX9_init_5 : decode cX9_init 5 = .ok (.bipush 6, 2) := by decide +kernel
theorem dX9_init_7 : decode cX9_init 7 = .ok (.newarray .int, 2) := by decide +kernel
theorem dX9_init_9 : decode cX9_init 9 = .ok (.putfield 7, 3) := by decide +kernel
theorem dX9_init_12 : decode cX9_init 12 = .ok (.aload_n 0, 1) := by decide +kernel
theorem dX9_init_13 : decode cX9_init 13 = .ok (.bipush 6, 2) := by decide +kernel
theorem dX9_init_15 : decode cX9_init 15 = .ok (.newarray .int, 2) := by decide +kernel
theorem dX9_init_17 : decode cX9_init 17 = .ok (.putfield 13, 3) := by decide +kernel
theorem dX9_init_20 : decode cX9_init 20 = .ok (.aload_n 0, 1) := by decide +kernel
theorem dX9_init_21 : decode cX9_init 21 = .ok (.bipush 24, 2) := by decide +kernel
theorem dX9_init_23 : decode cX9_init 23 = .ok (.newarray .int, 2) := by decide +kernel
theorem dX9_init_25 : decode cX9_init 25 = .ok (.putfield 16, 3) := by decide +kernel
theorem dX9_init_28 : decode cX9_init 28 = .ok (.aload_n 0, 1) := by decide +kernel
theorem dX9_init_29 : decode cX9_init 29 = .ok (.bipush 48, 2) := by decide +kernel
theorem dX9_init_31 : decode cX9_init 31 = .ok (.newarray .int, 2) := by decide +kernel
theorem dX9_init_33 : decode cX9_init 33 = .ok (.putfield 19, 3) := by decide +kernel
theorem dX9_init_36 : decode cX9_init 36 = .ok (.aload_n 0, 1) := by decide +kernel
theorem dX9_init_37 : decode cX9_init 37 = .ok (.sipush 160, 3) := by decide +kernel
theorem dX9_init_40 : decode cX9_init 40 = .ok (.newarray .int, 2) := by decide +kernel
theorem dX9_init_42 : decode cX9_init 42 = .ok (.putfield 22, 3) := by decide +kernel
theorem dX9_init_45 : decode cX9_init 45 = .ok (.aload_n 0, 1) := by decide +kernel
theorem dX9_init_46 : decode cX9_init 46 = .ok (.sipush 1200, 3) := by decide +kernel
theorem dX9_init_49 : decode cX9_init 49 = .ok (.newarray .int, 2) := by decide +kernel
theorem dX9_init_51 : decode cX9_init 51 = .ok (.putfield 25, 3) := by decide +kernel
theorem dX9_init_54 : decode cX9_init 54 = .ok (.aload_n 0, 1) := by decide +kernel
theorem dX9_init_55 : decode cX9_init 55 = .ok (.bipush 24, 2) := by decide +kernel
theorem dX9_init_57 : decode cX9_init 57 = .ok (.newarray .int, 2) := by decide +kernel
theorem dX9_init_59 : decode cX9_init 59 = .ok (.putfield 28, 3) := by decide +kernel
theorem dX9_init_62 : decode cX9_init 62 = .ok (.aload_n 0, 1) := by decide +kernel
theorem dX9_init_63 : decode cX9_init 63 = .ok (.bipush 72, 2) := by decide +kernel
theorem dX9_init_65 : decode cX9_init 65 = .ok (.newarray .int, 2) := by decide +kernel
theorem dX9_init_67 : decode cX9_init 67 = .ok (.putfield 31, 3) := by decide +kernel
theorem dX9_init_70 : decode cX9_init 70 = .ok (.aload_n 0, 1) := by decide +kernel
theorem dX9_init_71 : decode cX9_init 71 = .ok (.iconst 4, 1) := by decide +kernel
theorem dX9_init_72 : decode cX9_init 72 = .ok (.newarray .int, 2) := by decide +kernel
theorem dX9_init_74 : decode cX9_init 74 = .ok (.dup, 1) := by decide +kernel
theorem dX9_init_75 : decode cX9_init 75 = .ok (.iconst 0, 1) := by decide +kernel
theorem dX9_init_76 : decode cX9_init 76 = .ok (.iconst (-1), 1) := by decide +kernel
theorem dX9_init_77 : decode cX9_init 77 = .ok (.iastore, 1) := by decide +kernel
theorem dX9_init_78 : decode cX9_init 78 = .ok (.dup, 1) := by decide +kernel
theorem dX9_init_79 : decode cX9_init 79 = .ok (.iconst 1, 1) := by decide +kernel
theorem dX9_init_80 : decode cX9_init 80 = .ok (.iconst (-1), 1) := by decide +kernel
theorem dX9_init_81 : decode cX9_init 81 = .ok (.iastore, 1) := by decide +kernel
theorem dX9_init_82 : decode cX9_init 82 = .ok (.dup, 1) := by decide +kernel
theorem dX9_init_83 : decode cX9_init 83 = .ok (.iconst 2, 1) := by decide +kernel
theorem dX9_init_84 : decode cX9_init 84 = .ok (.iconst (-1), 1) := by decide +kernel
theorem dX9_init_85 : decode cX9_init 85 = .ok (.iastore, 1) := by decide +kernel
theorem dX9_init_86 : decode cX9_init 86 = .ok (.dup, 1) := by decide +kernel
theorem dX9_init_87 : decode cX9_init 87 = .ok (.iconst 3, 1) := by decide +kernel
theorem dX9_init_88 : decode cX9_init 88 = .ok (.iconst (-1), 1) := by decide +kernel
theorem dX9_init_89 : decode cX9_init 89 = .ok (.iastore, 1) := by decide +kernel
theorem dX9_init_90 : decode cX9_init 90 = .ok (.putfield 34, 3) := by decide +kernel
theorem dX9_init_93 : decode cX9_init 93 = .ok (.aload_n 0, 1) := by decide +kernel
theorem dX9_init_94 : decode cX9_init 94 = .ok (.iconst 4, 1) := by decide +kernel
theorem dX9_init_95 : decode cX9_init 95 = .ok (.newarray .int, 2) := by decide +kernel
theorem dX9_init_97 : decode cX9_init 97 = .ok (.putfield 37, 3) := by decide +kernel
theorem dX9_init_100 : decode cX9_init 100 = .ok (.aload_n 0, 1) := by decide +kernel
theorem dX9_init_101 : decode cX9_init 101 = .ok (.sipush 160, 3) := by decide +kernel
theorem dX9_init_104 : decode cX9_init 104 = .ok (.newarray .int, 2) := by decide +kernel
theorem dX9_init_106 : decode cX9_init 106 = .ok (.putfield 40, 3) := by decide +kernel
theorem dX9_init_109 : decode cX9_init 109 = .ok (.aload_n 0, 1) := by decide +kernel
theorem dX9_init_110 : decode cX9_init 110 = .ok (.bipush 37, 2) := by decide +kernel
theorem dX9_init_112 : decode cX9_init 112 = .ok (.newarray .int, 2) := by decide +kernel
theorem dX9_init_114 : decode cX9_init 114 = .ok (.dup, 1) := by decide +kernel
theorem dX9_init_115 : decode cX9_init 115 = .ok (.iconst 0, 1) := by decide +kernel
theorem dX9_init_116 : decode cX9_init 116 = .ok (.bipush 103, 2) := by decide +kernel
theorem dX9_init_118 : decode cX9_init 118 = .ok (.iastore, 1) := by decide +kernel
theorem dX9_init_119 : decode cX9_init 119 = .ok (.dup, 1) := by decide +kernel
theorem dX9_init_120 : decode cX9_init 120 = .ok (.iconst 1, 1) := by decide +kernel
theorem dX9_init_121 : decode cX9_init 121 = .ok (.bipush 114, 2) := by decide +kernel
theorem dX9_init_123 : decode cX9_init 123 = .ok (.iastore, 1) := by decide +kernel
theorem dX9_init_124 : decode cX9_init 124 = .ok (.dup, 1) := by decide +kernel
theorem dX9_init_125 : decode cX9_init 125 = .ok (.iconst 2, 1) := by decide +kernel
theorem dX9_init_126 : decode cX9_init 126 = .ok (.bipush 111, 2) := by decide +kernel
theorem dX9_init_128 : decode cX9_init 128 = .ok (.iastore, 1) := by decide +kernel
theorem dX9_init_129 : decode cX9_init 129 = .ok (.dup, 1) := by decide +kernel
theorem dX9_init_130 : decode cX9_init 130 = .ok (.iconst 3, 1) := by decide +kernel
theorem dX9_init_131 : decode cX9_init 131 = .ok (.bipush 119, 2) := by decide +kernel
theorem dX9_init_133 : decode cX9_init 133 = .ok (.iastore, 1) := by decide +kernel
theorem dX9_init_134 : decode cX9_init 134 = .ok (.dup, 1) := by decide +kernel
theorem dX9_init_135 : decode cX9_init 135 = .ok (.iconst 4, 1) := by decide +kernel
theorem dX9_init_136 : decode cX9_init 136 = .ok (.bipush 115, 2) := by decide +kernel
theorem dX9_init_138 : decode cX9_init 138 = .ok (.iastore, 1) := by decide +kernel
theorem dX9_init_139 : decode cX9_init 139 = .ok (.dup, 1) := by decide +kernel
theorem dX9_init_140 : decode cX9_init 140 = .ok (.iconst 5, 1) := by decide +kernel
theorem dX9_init_141 : decode cX9_init 141 = .ok (.bipush 32, 2) := by decide +kernel
theorem dX9_init_143 : decode cX9_init 143 = .ok (.iastore, 1) := by decide +kernel
theorem dX9_init_144 : decode cX9_init 144 = .ok (.dup, 1) := by decide +kernel
theorem dX9_init_145 : decode cX9_init 145 = .ok (.bipush 6, 2) := by decide +kernel
theorem dX9_init_147 : decode cX9_init 147 = .ok (.bipush 52, 2) := by decide +kernel
theorem dX9_init_149 : decode cX9_init 149 = .ok (.iastore, 1) := by decide +kernel
theorem dX9_init_150 : decode cX9_init 150 = .ok (.dup, 1) := by decide +kernel
theorem dX9_init_151 : decode cX9_init 151 = .ok (.bipush 7, 2) := by decide +kernel
theorem dX9_init_153 : decode cX9_init 153 = .ok (.bipush 32, 2) := by decide +kernel
theorem dX9_init_155 : decode cX9_init 155 = .ok (.iastore, 1) := by decide +kernel
theorem dX9_init_156 : decode cX9_init 156 = .ok (.dup, 1) := by decide +kernel
theorem dX9_init_157 : decode cX9_init 157 = .ok (.bipush 8, 2) := by decide +kernel
theorem dX9_init_159 : decode cX9_init 159 = .ok (.bipush 43, 2) := by decide +kernel
theorem dX9_init_161 : decode cX9_init 161 = .ok (.iastore, 1) := by decide +kernel
theorem dX9_init_162 : decode cX9_init 162 = .ok (.dup, 1) := by decide +kernel
theorem dX9_init_163 : decode cX9_init 163 = .ok (.bipush 9, 2) := by decide +kernel
theorem dX9_init_165 : decode cX9_init 165 = .ok (.bipush 32, 2) := by decide +kernel
theorem dX9_init_167 : decode cX9_init 167 = .ok (.iastore, 1) := by decide +kernel
theorem dX9_init_168 : decode cX9_init 168 = .ok (.dup, 1) := by decide +kernel
theorem dX9_init_169 : decode cX9_init 169 = .ok (.bipush 10, 2) := by decide +kernel
theorem dX9_init_171 : decode cX9_init 171 = .ok (.bipush 111, 2) := by decide +kernel
theorem dX9_init_173 : decode cX9_init 173 = .ok (.iastore, 1) := by decide +kernel
theorem dX9_init_174 : decode cX9_init 174 = .ok (.dup, 1) := by decide +kernel
theorem dX9_init_175 : decode cX9_init 175 = .ok (.bipush 11, 2) := by decide +kernel
theorem dX9_init_177 : decode cX9_init 177 = .ok (.bipush 105, 2) := by decide +kernel
theorem dX9_init_179 : decode cX9_init 179 = .ok (.iastore, 1) := by decide +kernel
theorem dX9_init_180 : decode cX9_init 180 = .ok (.dup, 1) := by decide +kernel
theorem dX9_init_181 : decode cX9_init 181 = .ok (.bipush 12, 2) := by decide +kernel
theorem dX9_init_183 : decode cX9_init 183 = .ok (.bipush 108, 2) := by decide +kernel
theorem dX9_init_185 : decode cX9_init 185 = .ok (.iastore, 1) := by decide +kernel
theorem dX9_init_186 : decode cX9_init 186 = .ok (.dup, 1) := by decide +kernel
theorem dX9_init_187 : decode cX9_init 187 = .ok (.bipush 13, 2) := by decide +kernel
theorem dX9_init_189 : decode cX9_init 189 = .ok (.bipush 32, 2) := by decide +kernel
theorem dX9_init_191 : decode cX9_init 191 = .ok (.iastore, 1) := by decide +kernel
theorem dX9_init_192 : decode cX9_init 192 = .ok (.dup, 1) := by decide +kernel
theorem dX9_init_193 : decode cX9_init 193 = .ok (.bipush 14, 2) := by decide +kernel
theorem dX9_init_195 : decode cX9_init 195 = .ok (.bipush 59, 2) := by decide +kernel
theorem dX9_init_197 : decode cX9_init 197 = .ok (.iastore, 1) := by decide +kernel
theorem dX9_init_198 : decode cX9_init 198 = .ok (.dup, 1) := by decide +kernel
theorem dX9_init_199 : decode cX9_init 199 = .ok (.bipush 15, 2) := by decide +kernel
theorem dX9_init_201 : decode cX9_init 201 = .ok (.bipush 32, 2) := by decide +kernel
theorem dX9_init_203 : decode cX9_init 203 = .ok (.iastore, 1) := by decide +kernel
theorem dX9_init_204 : decode cX9_init 204 = .ok (.dup, 1) := by decide +kernel
theorem dX9_init_205 : decode cX9_init 205 = .ok (.bipush 16, 2) := by decide +kernel
theorem dX9_init_207 : decode cX9_init 207 = .ok (.bipush 116, 2) := by decide +kernel
theorem dX9_init_209 : decode cX9_init 209 = .ok (.iastore, 1) := by decide +kernel
theorem dX9_init_210 : decode cX9_init 210 = .ok (.dup, 1) := by decide +kernel
theorem dX9_init_211 : decode cX9_init 211 = .ok (.bipush 17, 2) := by decide +kernel
theorem dX9_init_213 : decode cX9_init 213 = .ok (.bipush 114, 2) := by decide +kernel
theorem dX9_init_215 : decode cX9_init 215 = .ok (.iastore, 1) := by decide +kernel
theorem dX9_init_216 : decode cX9_init 216 = .ok (.dup, 1) := by decide +kernel
theorem dX9_init_217 : decode cX9_init 217 = .ok (.bipush 18, 2) := by decide +kernel
theorem dX9_init_219 : decode cX9_init 219 = .ok (.bipush 105, 2) := by decide +kernel
theorem dX9_init_221 : decode cX9_init 221 = .ok (.iastore, 1) := by decide +kernel
theorem dX9_init_222 : decode cX9_init 222 = .ok (.dup, 1) := by decide +kernel
theorem dX9_init_223 : decode cX9_init 223 = .ok (.bipush 19, 2) := by decide +kernel
theorem dX9_init_225 : decode cX9_init 225 = .ok (.bipush 109, 2) := by decide +kernel
theorem dX9_init_227 : decode cX9_init 227 = .ok (.iastore, 1) := by decide +kernel
theorem dX9_init_228 : decode cX9_init 228 = .ok (.dup, 1) := by decide +kernel
theorem dX9_init_229 : decode cX9_init 229 = .ok (.bipush 20, 2) := by decide +kernel
theorem dX9_init_231 : decode cX9_init 231 = .ok (.bipush 115, 2) := by decide +kernel
theorem dX9_init_233 : decode cX9_init 233 = .ok (.iastore, 1) := by decide +kernel
theorem dX9_init_234 : decode cX9_init 234 = .ok (.dup, 1) := by decide +kernel
theorem dX9_init_235 : decode cX9_init 235 = .ok (.bipush 21, 2) := by decide +kernel
theorem dX9_init_237 : decode cX9_init 237 = .ok (.bipush 32, 2) := by decide +kernel
theorem dX9_init_239 : decode cX9_init 239 = .ok (.iastore, 1) := by decide +kernel
theorem dX9_init_240 : decode cX9_init 240 = .ok (.dup, 1) := by decide +kernel
theorem dX9_init_241 : decode cX9_init 241 = .ok (.bipush 22, 2) := by decide +kernel
theorem dX9_init_243 : decode cX9_init 243 = .ok (.bipush 50, 2) := by decide +kernel
theorem dX9_init_245 : decode cX9_init 245 = .ok (.iastore, 1) := by decide +kernel
theorem dX9_init_246 : decode cX9_init 246 = .ok (.dup, 1) := by decide +kernel
theorem dX9_init_247 : decode cX9_init 247 = .ok (.bipush 23, 2) := by decide +kernel
theorem dX9_init_249 : decode cX9_init 249 = .ok (.bipush 32, 2) := by decide +kernel
theorem dX9_init_251 : decode cX9_init 251 = .ok (.iastore, 1) := by decide +kernel
theorem dX9_init_252 : decode cX9_init 252 = .ok (.dup, 1) := by decide +kernel
theorem dX9_init_253 : decode cX9_init 253 = .ok (.bipush 24, 2) := by decide +kernel
theorem dX9_init_255 : decode cX9_init 255 = .ok (.bipush 59, 2) := by decide +kernel
theorem dX9_init_257 : decode cX9_init 257 = .ok (.iastore, 1) := by decide +kernel
theorem dX9_init_258 : decode cX9_init 258 = .ok (.dup, 1) := by decide +kernel
theorem dX9_init_259 : decode cX9_init 259 = .ok (.bipush 25, 2) := by decide +kernel
theorem dX9_init_261 : decode cX9_init 261 = .ok (.bipush 32, 2) := by decide +kernel
theorem dX9_init_263 : decode cX9_init 263 = .ok (.iastore, 1) := by decide +kernel
theorem dX9_init_264 : decode cX9_init 264 = .ok (.dup, 1) := by decide +kernel
theorem dX9_init_265 : decode cX9_init 265 = .ok (.bipush 26, 2) := by decide +kernel
theorem dX9_init_267 : decode cX9_init 267 = .ok (.bipush 115, 2) := by decide +kernel
theorem dX9_init_269 : decode cX9_init 269 = .ok (.iastore, 1) := by decide +kernel
theorem dX9_init_270 : decode cX9_init 270 = .ok (.dup, 1) := by decide +kernel
theorem dX9_init_271 : decode cX9_init 271 = .ok (.bipush 27, 2) := by decide +kernel
theorem dX9_init_273 : decode cX9_init 273 = .ok (.bipush 104, 2) := by decide +kernel
theorem dX9_init_275 : decode cX9_init 275 = .ok (.iastore, 1) := by decide +kernel
theorem dX9_init_276 : decode cX9_init 276 = .ok (.dup, 1) := by decide +kernel
theorem dX9_init_277 : decode cX9_init 277 = .ok (.bipush 28, 2) := by decide +kernel
theorem dX9_init_279 : decode cX9_init 279 = .ok (.bipush 97, 2) := by decide +kernel
theorem dX9_init_281 : decode cX9_init 281 = .ok (.iastore, 1) := by decide +kernel
theorem dX9_init_282 : decode cX9_init 282 = .ok (.dup, 1) := by decide +kernel
theorem dX9_init_283 : decode cX9_init 283 = .ok (.bipush 29, 2) := by decide +kernel
theorem dX9_init_285 : decode cX9_init 285 = .ok (.bipush 109, 2) := by decide +kernel
theorem dX9_init_287 : decode cX9_init 287 = .ok (.iastore, 1) := by decide +kernel
theorem dX9_init_288 : decode cX9_init 288 = .ok (.dup, 1) := by decide +kernel
theorem dX9_init_289 : decode cX9_init 289 = .ok (.bipush 30, 2) := by decide +kernel
theorem dX9_init_291 : decode cX9_init 291 = .ok (.bipush 101, 2) := by decide +kernel
theorem dX9_init_293 : decode cX9_init 293 = .ok (.iastore, 1) := by decide +kernel
theorem dX9_init_294 : decode cX9_init 294 = .ok (.dup, 1) := by decide +kernel
theorem dX9_init_295 : decode cX9_init 295 = .ok (.bipush 31, 2) := by decide +kernel
theorem dX9_init_297 : decode cX9_init 297 = .ok (.bipush 115, 2) := by decide +kernel
theorem dX9_init_299 : decode cX9_init 299 = .ok (.iastore, 1) := by decide +kernel
theorem dX9_init_300 : decode cX9_init 300 = .ok (.dup, 1) := by decide +kernel
theorem dX9_init_301 : decode cX9_init 301 = .ok (.bipush 32, 2) := by decide +kernel
theorem dX9_init_303 : decode cX9_init 303 = .ok (.bipush 32, 2) := by decide +kernel
theorem dX9_init_305 : decode cX9_init 305 = .ok (.iastore, 1) := by decide +kernel
theorem dX9_init_306 : decode cX9_init 306 = .ok (.dup, 1) := by decide +kernel
theorem dX9_init_307 : decode cX9_init 307 = .ok (.bipush 33, 2) := by decide +kernel
theorem dX9_init_309 : decode cX9_init 309 = .ok (.bipush 49, 2) := by decide +kernel
theorem dX9_init_311 : decode cX9_init 311 = .ok (.iastore, 1) := by decide +kernel
theorem dX9_init_312 : decode cX9_init 312 = .ok (.dup, 1) := by decide +kernel
theorem dX9_init_313 : decode cX9_init 313 = .ok (.bipush 34, 2) := by decide +kernel
theorem dX9_init_315 : decode cX9_init 315 = .ok (.bipush 48, 2) := by decide +kernel
theorem dX9_init_317 : decode cX9_init 317 = .ok (.iastore, 1) := by decide +kernel
theorem dX9_init_318 : decode cX9_init 318 = .ok (.dup, 1) := by decide +kernel
theorem dX9_init_319 : decode cX9_init 319 = .ok (.bipush 35, 2) := by decide +kernel
theorem dX9_init_321 : decode cX9_init 321 = .ok (.bipush 32, 2) := by decide +kernel
theorem dX9_init_323 : decode cX9_init 323 = .ok (.iastore, 1) := by decide +kernel
theorem dX9_init_324 : decode cX9_init 324 = .ok (.dup, 1) := by decide +kernel
theorem dX9_init_325 : decode cX9_init 325 = .ok (.bipush 36, 2) := by decide +kernel
theorem dX9_init_327 : decode cX9_init 327 = .ok (.bipush 59, 2) := by decide +kernel
theorem dX9_init_329 : decode cX9_init 329 = .ok (.iastore, 1) := by decide +kernel
theorem dX9_init_330 : decode cX9_init 330 = .ok (.putfield 43, 3) := by decide +kernel
theorem dX9_init_333 : decode cX9_init 333 = .ok (.aload_n 0, 1) := by decide +kernel
theorem dX9_init_334 : decode cX9_init 334 = .ok (.bipush 96, 2) := by decide +kernel
theorem dX9_init_336 : decode cX9_init 336 = .ok (.newarray .int, 2) := by decide +kernel
theorem dX9_init_338 : decode cX9_init 338 = .ok (.dup, 1) := by decide +kernel
theorem dX9_init_339 : decode cX9_init 339 = .ok (.iconst 0, 1) := by decide +kernel
theorem dX9_init_340 : decode cX9_init 340 = .ok (.bipush 103, 2) := by decide +kernel
theorem dX9_init_342 : decode cX9_init 342 = .ok (.iastore, 1) := by decide +kernel
theorem dX9_init_343 : decode cX9_init 343 = .ok (.dup, 1) := by decide +kernel
theorem dX9_init_344 : decode cX9_init 344 = .ok (.iconst 1, 1) := by decide +kernel
theorem dX9_init_345 : decode cX9_init 345 = .ok (.bipush 114, 2) := by decide +kernel
theorem dX9_init_347 : decode cX9_init 347 = .ok (.iastore, 1) := by decide +kernel
theorem dX9_init_348 : decode cX9_init 348 = .ok (.dup, 1) := by decide +kernel
theorem dX9_init_349 : decode cX9_init 349 = .ok (.iconst 2, 1) := by decide +kernel
theorem dX9_init_350 : decode cX9_init 350 = .ok (.bipush 111, 2) := by decide +kernel
theorem dX9_init_352 : decode cX9_init 352 = .ok (.iastore, 1) := by decide +kernel
theorem dX9_init_353 : decode cX9_init 353 = .ok (.dup, 1) := by decide +kernel
theorem dX9_init_354 : decode cX9_init 354 = .ok (.iconst 3, 1) := by decide +kernel
theorem dX9_init_355 : decode cX9_init 355 = .ok (.bipush 119, 2) := by decide +kernel
theorem dX9_init_357 : decode cX9_init 357 = .ok (.iastore, 1) := by decide +kernel
theorem dX9_init_358 : decode cX9_init 358 = .ok (.dup, 1) := by decide +kernel
theorem dX9_init_359 : decode cX9_init 359 = .ok (.iconst 4, 1) := by decide +kernel
theorem dX9_init_360 : decode cX9_init 360 = .ok (.bipush 115, 2) := by decide +kernel
theorem dX9_init_362 : decode cX9_init 362 = .ok (.iastore, 1) := by decide +kernel
theorem dX9_init_363 : decode cX9_init 363 = .ok (.dup, 1) := by decide +kernel
theorem dX9_init_364 : decode cX9_init 364 = .ok (.iconst 5, 1) := by decide +kernel
theorem dX9_init_365 : decode cX9_init 365 = .ok (.bipush 32, 2) := by decide +kernel
theorem dX9_init_367 : decode cX9_init 367 = .ok (.iastore, 1) := by decide +kernel
theorem dX9_init_368 : decode cX9_init 368 = .ok (.dup, 1) := by decide +kernel
theorem dX9_init_369 : decode cX9_init 369 = .ok (.bipush 6, 2) := by decide +kernel
theorem dX9_init_371 : decode cX9_init 371 = .ok (.bipush 32, 2) := by decide +kernel
theorem dX9_init_373 : decode cX9_init 373 = .ok (.iastore, 1) := by decide +kernel
theorem dX9_init_374 : decode cX9_init 374 = .ok (.dup, 1) := by decide +kernel
theorem dX9_init_375 : decode cX9_init 375 = .ok (.bipush 7, 2) := by decide +kernel
theorem dX9_init_377 : decode cX9_init 377 = .ok (.bipush 32, 2) := by decide +kernel
theorem dX9_init_379 : decode cX9_init 379 = .ok (.iastore, 1) := by decide +kernel
theorem dX9_init_380 : decode cX9_init 380 = .ok (.dup, 1) := by decide +kernel
theorem dX9_init_381 : decode cX9_init 381 = .ok (.bipush 8, 2) := by decide +kernel
theorem dX9_init_383 : decode cX9_init 383 = .ok (.bipush 116, 2) := by decide +kernel
theorem dX9_init_385 : decode cX9_init 385 = .ok (.iastore, 1) := by decide +kernel
theorem dX9_init_386 : decode cX9_init 386 = .ok (.dup, 1) := by decide +kernel
theorem dX9_init_387 : decode cX9_init 387 = .ok (.bipush 9, 2) := by decide +kernel
theorem dX9_init_389 : decode cX9_init 389 = .ok (.bipush 114, 2) := by decide +kernel
theorem dX9_init_391 : decode cX9_init 391 = .ok (.iastore, 1) := by decide +kernel
theorem dX9_init_392 : decode cX9_init 392 = .ok (.dup, 1) := by decide +kernel
theorem dX9_init_393 : decode cX9_init 393 = .ok (.bipush 10, 2) := by decide +kernel
theorem dX9_init_395 : decode cX9_init 395 = .ok (.bipush 105, 2) := by decide +kernel
theorem dX9_init_397 : decode cX9_init 397 = .ok (.iastore, 1) := by decide +kernel
theorem dX9_init_398 : decode cX9_init 398 = .ok (.dup, 1) := by decide +kernel
theorem dX9_init_399 : decode cX9_init 399 = .ok (.bipush 11, 2) := by decide +kernel
theorem dX9_init_401 : decode cX9_init 401 = .ok (.bipush 109, 2) := by decide +kernel
theorem dX9_init_403 : decode cX9_init 403 = .ok (.iastore, 1) := by decide +kernel
theorem dX9_init_404 : decode cX9_init 404 = .ok (.dup, 1) := by decide +kernel
theorem dX9_init_405 : decode cX9_init 405 = .ok (.bipush 12, 2) := by decide +kernel
theorem dX9_init_407 : decode cX9_init 407 = .ok (.bipush 115, 2) := by decide +kernel
theorem dX9_init_409 : decode cX9_init 409 = .ok (.iastore, 1) := by decide +kernel
theorem dX9_init_410 : decode cX9_init 410 = .ok (.dup, 1) := by decide +kernel
theorem dX9_init_411 : decode cX9_init 411 = .ok (.bipush 13, 2) := by decide +kernel
theorem dX9_init_413 : decode cX9_init 413 = .ok (.bipush 32, 2) := by decide +kernel
theorem dX9_init_415 : decode cX9_init 415 = .ok (.iastore, 1) := by decide +kernel
theorem dX9_init_416 : decode cX9_init 416 = .ok (.dup, 1) := by decide +kernel
theorem dX9_init_417 : decode cX9_init 417 = .ok (.bipush 14, 2) := by decide +kernel
theorem dX9_init_419 : decode cX9_init 419 = .ok (.bipush 32, 2) := by decide +kernel
theorem dX9_init_421 : decode cX9_init 421 = .ok (.iastore, 1) := by decide +kernel
theorem dX9_init_422 : decode cX9_init 422 = .ok (.dup, 1) := by decide +kernel
theorem dX9_init_423 : decode cX9_init 423 = .ok (.bipush 15, 2) := by decide +kernel
theorem dX9_init_425 : decode cX9_init 425 = .ok (.bipush 32, 2) := by decide +kernel
theorem dX9_init_427 : decode cX9_init 427 = .ok (.iastore, 1) := by decide +kernel
theorem dX9_init_428 : decode cX9_init 428 = .ok (.dup, 1) := by decide +kernel
theorem dX9_init_429 : decode cX9_init 429 = .ok (.bipush 16, 2) := by decide +kernel
theorem dX9_init_431 : decode cX9_init 431 = .ok (.bipush 115, 2) := by decide +kernel
theorem dX9_init_433 : decode cX9_init 433 = .ok (.iastore, 1) := by decide +kernel
theorem dX9_init_434 : decode cX9_init 434 = .ok (.dup, 1) := by decide +kernel
theorem dX9_init_435 : decode cX9_init 435 = .ok (.bipush 17, 2) := by decide +kernel
theorem dX9_init_437 : decode cX9_init 437 = .ok (.bipush 104, 2) := by decide +kernel
theorem dX9_init_439 : decode cX9_init 439 = .ok (.iastore, 1) := by decide +kernel
theorem dX9_init_440 : decode cX9_init 440 = .ok (.dup, 1) := by decide +kernel
theorem dX9_init_441 : decode cX9_init 441 = .ok (.bipush 18, 2) := by decide +kernel
theorem dX9_init_443 : decode cX9_init 443 = .ok (.bipush 97, 2) := by decide +kernel
theorem dX9_init_445 : decode cX9_init 445 = .ok (.iastore, 1) := by decide +kernel
theorem dX9_init_446 : decode cX9_init 446 = .ok (.dup, 1) := by decide +kernel
theorem dX9_init_447 : decode cX9_init 447 = .ok (.bipush 19, 2) := by decide +kernel
theorem dX9_init_449 : decode cX9_init 449 = .ok (.bipush 109, 2) := by decide +kernel
theorem dX9_init_451 : decode cX9_init 451 = .ok (.iastore, 1) := by decide +kernel
theorem dX9_init_452 : decode cX9_init 452 = .ok (.dup, 1) := by decide +kernel
theorem dX9_init_453 : decode cX9_init 453 = .ok (.bipush 20, 2) := by decide +kernel
theorem dX9_init_455 : decode cX9_init 455 = .ok (.bipush 101, 2) := by decide +kernel
theorem dX9_init_457 : decode cX9_init 457 = .ok (.iastore, 1) := by decide +kernel
theorem dX9_init_458 : decode cX9_init 458 = .ok (.dup, 1) := by decide +kernel
theorem dX9_init_459 : decode cX9_init 459 = .ok (.bipush 21, 2) := by decide +kernel
theorem dX9_init_461 : decode cX9_init 461 = .ok (.bipush 115, 2) := by decide +kernel
theorem dX9_init_463 : decode cX9_init 463 = .ok (.iastore, 1) := by decide +kernel
theorem dX9_init_464 : decode cX9_init 464 = .ok (.dup, 1) := by decide +kernel
theorem dX9_init_465 : decode cX9_init 465 = .ok (.bipush 22, 2) := by decide +kernel
theorem dX9_init_467 : decode cX9_init 467 = .ok (.bipush 32, 2) := by decide +kernel
theorem dX9_init_469 : decode cX9_init 469 = .ok (.iastore, 1) := by decide +kernel
theorem dX9_init_470 : decode cX9_init 470 = .ok (.dup, 1) := by decide +kernel
theorem dX9_init_471 : decode cX9_init 471 = .ok (.bipush 23, 2) := by decide +kernel
theorem dX9_init_473 : decode cX9_init 473 = .ok (.bipush 32, 2) := by decide +kernel
theorem dX9_init_475 : decode cX9_init 475 = .ok (.iastore, 1) := by decide +kernel
theorem dX9_init_476 : decode cX9_init 476 = .ok (.dup, 1) := by decide +kernel
theorem dX9_init_477 : decode cX9_init 477 = .ok (.bipush 24, 2) := by decide +kernel
theorem dX9_init_479 : decode cX9_init 479 = .ok (.bipush 98, 2) := by decide +kernel
theorem dX9_init_481 : decode cX9_init 481 = .ok (.iastore, 1) := by decide +kernel
theorem dX9_init_482 : decode cX9_init 482 = .ok (.dup, 1) := by decide +kernel
theorem dX9_init_483 : decode cX9_init 483 = .ok (.bipush 25, 2) := by decide +kernel
theorem dX9_init_485 : decode cX9_init 485 = .ok (.bipush 101, 2) := by decide +kernel
theorem dX9_init_487 : decode cX9_init 487 = .ok (.iastore, 1) := by decide +kernel
theorem dX9_init_488 : decode cX9_init 488 = .ok (.dup, 1) := by decide +kernel
theorem dX9_init_489 : decode cX9_init 489 = .ok (.bipush 26, 2) := by decide +kernel
theorem dX9_init_491 : decode cX9_init 491 = .ok (.bipush 97, 2) := by decide +kernel
theorem dX9_init_493 : decode cX9_init 493 = .ok (.iastore, 1) := by decide +kernel
theorem dX9_init_494 : decode cX9_init 494 = .ok (.dup, 1) := by decide +kernel
theorem dX9_init_495 : decode cX9_init 495 = .ok (.bipush 27, 2) := by decide +kernel
theorem dX9_init_497 : decode cX9_init 497 = .ok (.bipush 114, 2) := by decide +kernel
theorem dX9_init_499 : decode cX9_init 499 = .ok (.iastore, 1) := by decide +kernel
theorem dX9_init_500 : decode cX9_init 500 = .ok (.dup, 1) := by decide +kernel
theorem dX9_init_501 : decode cX9_init 501 = .ok (.bipush 28, 2) := by decide +kernel
theorem dX9_init_503 : decode cX9_init 503 = .ok (.bipush 100, 2) := by decide +kernel
theorem dX9_init_505 : decode cX9_init 505 = .ok (.iastore, 1) := by decide +kernel
theorem dX9_init_506 : decode cX9_init 506 = .ok (.dup, 1) := by decide +kernel
theorem dX9_init_507 : decode cX9_init 507 = .ok (.bipush 29, 2) := by decide +kernel
theorem dX9_init_509 : decode cX9_init 509 = .ok (.bipush 32, 2) := by decide +kernel
theorem dX9_init_511 : decode cX9_init 511 = .ok (.iastore, 1) := by decide +kernel
theorem dX9_init_512 : decode cX9_init 512 = .ok (.dup, 1) := by decide +kernel
theorem dX9_init_513 : decode cX9_init 513 = .ok (.bipush 30, 2) := by decide +kernel
theorem dX9_init_515 : decode cX9_init 515 = .ok (.bipush 32, 2) := by decide +kernel
theorem dX9_init_517 : decode cX9_init 517 = .ok (.iastore, 1) := by decide +kernel
theorem dX9_init_518 : decode cX9_init 518 = .ok (.dup, 1) := by decide +kernel
theorem dX9_init_519 : decode cX9_init 519 = .ok (.bipush 31, 2) := by decide +kernel
theorem dX9_init_521 : decode cX9_init 521 = .ok (.bipush 32, 2) := by decide +kernel
theorem dX9_init_523 : decode cX9_init 523 = .ok (.iastore, 1) := by decide +kernel
theorem dX9_init_524 : decode cX9_init 524 = .ok (.dup, 1) := by decide +kernel
theorem dX9_init_525 : decode cX9_init 525 = .ok (.bipush 32, 2) := by decide +kernel
theorem dX9_init_527 : decode cX9_init 527 = .ok (.bipush 111, 2) := by decide +kernel
theorem dX9_init_529 : decode cX9_init 529 = .ok (.iastore, 1) := by decide +kernel
theorem dX9_init_530 : decode cX9_init 530 = .ok (.dup, 1) := by decide +kernel
theorem dX9_init_531 : decode cX9_init 531 = .ok (.bipush 33, 2) := by decide +kernel
theorem dX9_init_533 : decode cX9_init 533 = .ok (.bipush 105, 2) := by decide +kernel
theorem dX9_init_535 : decode cX9_init 535 = .ok (.iastore, 1) := by decide +kernel
theorem dX9_init_536 : decode cX9_init 536 = .ok (.dup, 1) := by decide +kernel
theorem dX9_init_537 : decode cX9_init 537 = .ok (.bipush 34, 2) := by decide +kernel
theorem dX9_init_539 : decode cX9_init 539 = .ok (.bipush 108, 2) := by decide +kernel
theorem dX9_init_541 : decode cX9_init 541 = .ok (.iastore, 1) := by decide +kernel
theorem dX9_init_542 : decode cX9_init 542 = .ok (.dup, 1) := by decide +kernel
theorem dX9_init_543 : decode cX9_init 543 = .ok (.bipush 35, 2) := by decide +kernel
theorem dX9_init_545 : decode cX9_init 545 = .ok (.bipush 32, 2) := by decide +kernel
theorem dX9_init_547 : decode cX9_init 547 = .ok (.iastore, 1) := by decide +kernel
theorem dX9_init_548 : decode cX9_init 548 = .ok (.dup, 1) := by decide +kernel
theorem dX9_init_549 : decode cX9_init 549 = .ok (.bipush 36, 2) := by decide +kernel
theorem dX9_init_551 : decode cX9_init 551 = .ok (.bipush 32, 2) := by decide +kernel
theorem dX9_init_553 : decode cX9_init 553 = .ok (.iastore, 1) := by decide +kernel
theorem dX9_init_554 : decode cX9_init 554 = .ok (.dup, 1) := by decide +kernel
theorem dX9_init_555 : decode cX9_init 555 = .ok (.bipush 37, 2) := by decide +kernel
theorem dX9_init_557 : decode cX9_init 557 = .ok (.bipush 32, 2) := by decide +kernel
theorem dX9_init_559 : decode cX9_init 559 = .ok (.iastore, 1) := by decide +kernel
theorem dX9_init_560 : decode cX9_init 560 = .ok (.dup, 1) := by decide +kernel
theorem dX9_init_561 : decode cX9_init 561 = .ok (.bipush 38, 2) := by decide +kernel
theorem dX9_init_563 : decode cX9_init 563 = .ok (.bipush 32, 2) := by decide +kernel
theorem dX9_init_565 : decode cX9_init 565 = .ok (.iastore, 1) := by decide +kernel
theorem dX9_init_566 : decode cX9_init 566 = .ok (.dup, 1) := by decide +kernel
theorem dX9_init_567 : decode cX9_init 567 = .ok (.bipush 39, 2) := by decide +kernel
theorem dX9_init_569 : decode cX9_init 569 = .ok (.bipush 32, 2) := by decide +kernel
theorem dX9_init_571 : decode cX9_init 571 = .ok (.iastore, 1) := by decide +kernel
theorem dX9_init_572 : decode cX9_init 572 = .ok (.dup, 1) := by decide +kernel
theorem dX9_init_573 : decode cX9_init 573 = .ok (.bipush 40, 2) := by decide +kernel
theorem dX9_init_575 : decode cX9_init 575 = .ok (.bipush 109, 2) := by decide +kernel
theorem dX9_init_577 : decode cX9_init 577 = .ok (.iastore, 1) := by decide +kernel
theorem dX9_init_578 : decode cX9_init 578 = .ok (.dup, 1) := by decide +kernel
theorem dX9_init_579 : decode cX9_init 579 = .ok (.bipush 41, 2) := by decide +kernel
theorem dX9_init_581 : decode cX9_init 581 = .ok (.bipush 111, 2) := by decide +kernel
theorem dX9_init_583 : decode cX9_init 583 = .ok (.iastore, 1) := by decide +kernel
theorem dX9_init_584 : decode cX9_init 584 = .ok (.dup, 1) := by decide +kernel
theorem dX9_init_585 : decode cX9_init 585 = .ok (.bipush 42, 2) := by decide +kernel
theorem dX9_init_587 : decode cX9_init 587 = .ok (.bipush 114, 2) := by decide +kernel
theorem dX9_init_589 : decode cX9_init 589 = .ok (.iastore, 1) := by decide +kernel
theorem dX9_init_590 : decode cX9_init 590 = .ok (.dup, 1) := by decide +kernel
theorem dX9_init_591 : decode cX9_init 591 = .ok (.bipush 43, 2) := by decide +kernel
theorem dX9_init_593 : decode cX9_init 593 = .ok (.bipush 101, 2) := by decide +kernel
theorem dX9_init_595 : decode cX9_init 595 = .ok (.iastore, 1) := by decide +kernel
theorem dX9_init_596 : decode cX9_init 596 = .ok (.dup, 1) := by decide +kernel
theorem dX9_init_597 : decode cX9_init 597 = .ok (.bipush 44, 2) := by decide +kernel
theorem dX9_init_599 : decode cX9_init 599 = .ok (.bipush 32, 2) := by decide +kernel
theorem dX9_init_601 : decode cX9_init 601 = .ok (.iastore, 1) := by decide +kernel
theorem dX9_init_602 : decode cX9_init 602 = .ok (.dup, 1) := by decide +kernel
theorem dX9_init_603 : decode cX9_init 603 = .ok (.bipush 45, 2) := by decide +kernel
theorem dX9_init_605 : decode cX9_init 605 = .ok (.bipush 32, 2) := by decide +kernel
theorem dX9_init_607 : decode cX9_init 607 = .ok (.iastore, 1) := by decide +kernel
theorem dX9_init_608 : decode cX9_init 608 = .ok (.dup, 1) := by decide +kernel
theorem dX9_init_609 : decode cX9_init 609 = .ok (.bipush 46, 2) := by decide +kernel
theorem dX9_init_611 : decode cX9_init 611 = .ok (.bipush 32, 2) := by decide +kernel
theorem dX9_init_613 : decode cX9_init 613 = .ok (.iastore, 1) := by decide +kernel
theorem dX9_init_614 : decode cX9_init 614 = .ok (.dup, 1) := by decide +kernel
theorem dX9_init_615 : decode cX9_init 615 = .ok (.bipush 47, 2) := by decide +kernel
theorem dX9_init_617 : decode cX9_init 617 = .ok (.bipush 32, 2) := by decide +kernel
theorem dX9_init_619 : decode cX9_init 619 = .ok (.iastore, 1) := by decide +kernel
theorem dX9_init_620 : decode cX9_init 620 = .ok (.dup, 1) := by decide +kernel
theorem dX9_init_621 : decode cX9_init 621 = .ok (.bipush 48, 2) := by decide +kernel
theorem dX9_init_623 : decode cX9_init 623 = .ok (.bipush 119, 2) := by decide +kernel
theorem dX9_init_625 : decode cX9_init 625 = .ok (.iastore, 1) := by decide +kernel
theorem dX9_init_626 : decode cX9_init 626 = .ok (.dup, 1) := by decide +kernel
theorem dX9_init_627 : decode cX9_init 627 = .ok (.bipush 49, 2) := by decide +kernel
theorem dX9_init_629 : decode cX9_init 629 = .ok (.bipush 101, 2) := by decide +kernel
theorem dX9_init_631 : decode cX9_init 631 = .ok (.iastore, 1) := by decide +kernel
theorem dX9_init_632 : decode cX9_init 632 = .ok (.dup, 1) := by decide +kernel
theorem dX9_init_633 : decode cX9_init 633 = .ok (.bipush 50, 2) := by decide +kernel
theorem dX9_init_635 : decode cX9_init 635 = .ok (.bipush 101, 2) := by decide +kernel
theorem dX9_init_637 : decode cX9_init 637 = .ok (.iastore, 1) := by decide +kernel
theorem dX9_init_638 : decode cX9_init 638 = .ok (.dup, 1) := by decide +kernel
theorem dX9_init_639 : decode cX9_init 639 = .ok (.bipush 51, 2) := by decide +kernel
theorem dX9_init_641 : decode cX9_init 641 = .ok (.bipush 107, 2) := by decide +kernel
theorem dX9_init_643 : decode cX9_init 643 = .ok (.iastore, 1) := by decide +kernel
theorem dX9_init_644 : decode cX9_init 644 = .ok (.dup, 1) := by decide +kernel
theorem dX9_init_645 : decode cX9_init 645 = .ok (.bipush 52, 2) := by decide +kernel
theorem dX9_init_647 : decode cX9_init 647 = .ok (.bipush 32, 2) := by decide +kernel
theorem dX9_init_649 : decode cX9_init 649 = .ok (.iastore, 1) := by decide +kernel
theorem dX9_init_650 : decode cX9_init 650 = .ok (.dup, 1) := by decide +kernel
theorem dX9_init_651 : decode cX9_init 651 = .ok (.bipush 53, 2) := by decide +kernel
theorem dX9_init_653 : decode cX9_init 653 = .ok (.bipush 32, 2) := by decide +kernel
theorem dX9_init_655 : decode cX9_init 655 = .ok (.iastore, 1) := by decide +kernel
theorem dX9_init_656 : decode cX9_init 656 = .ok (.dup, 1) := by decide +kernel
theorem dX9_init_657 : decode cX9_init 657 = .ok (.bipush 54, 2) := by decide +kernel
theorem dX9_init_659 : decode cX9_init 659 = .ok (.bipush 32, 2) := by decide +kernel
theorem dX9_init_661 : decode cX9_init 661 = .ok (.iastore, 1) := by decide +kernel
theorem dX9_init_662 : decode cX9_init 662 = .ok (.dup, 1) := by decide +kernel
theorem dX9_init_663 : decode cX9_init 663 = .ok (.bipush 55, 2) := by decide +kernel
theorem dX9_init_665 : decode cX9_init 665 = .ok (.bipush 32, 2) := by decide +kernel
theorem dX9_init_667 : decode cX9_init 667 = .ok (.iastore, 1) := by decide +kernel
theorem dX9_init_668 : decode cX9_init 668 = .ok (.dup, 1) := by decide +kernel
theorem dX9_init_669 : decode cX9_init 669 = .ok (.bipush 56, 2) := by decide +kernel
theorem dX9_init_671 : decode cX9_init 671 = .ok (.bipush 111, 2) := by decide +kernel
theorem dX9_init_673 : decode cX9_init 673 = .ok (.iastore, 1) := by decide +kernel
theorem dX9_init_674 : decode cX9_init 674 = .ok (.dup, 1) := by decide +kernel
theorem dX9_init_675 : decode cX9_init 675 = .ok (.bipush 57, 2) := by decide +kernel
theorem dX9_init_677 : decode cX9_init 677 = .ok (.bipush 119, 2) := by decide +kernel
theorem dX9_init_679 : decode cX9_init 679 = .ok (.iastore, 1) := by decide +kernel
theorem dX9_init_680 : decode cX9_init 680 = .ok (.dup, 1) := by decide +kernel
theorem dX9_init_681 : decode cX9_init 681 = .ok (.bipush 58, 2) := by decide +kernel
theorem dX9_init_683 : decode cX9_init 683 = .ok (.bipush 101, 2) := by decide +kernel
theorem dX9_init_685 : decode cX9_init 685 = .ok (.iastore, 1) := by decide +kernel
theorem dX9_init_686 : decode cX9_init 686 = .ok (.dup, 1) := by decide +kernel
theorem dX9_init_687 : decode cX9_init 687 = .ok (.bipush 59, 2) := by decide +kernel
theorem dX9_init_689 : decode cX9_init 689 = .ok (.bipush 100, 2) := by decide +kernel
theorem dX9_init_691 : decode cX9_init 691 = .ok (.iastore, 1) := by decide +kernel
theorem dX9_init_692 : decode cX9_init 692 = .ok (.dup, 1) := by decide +kernel
theorem dX9_init_693 : decode cX9_init 693 = .ok (.bipush 60, 2) := by decide +kernel
theorem dX9_init_695 : decode cX9_init 695 = .ok (.bipush 32, 2) := by decide +kernel
theorem dX9_init_697 : decode cX9_init 697 = .ok (.iastore, 1) := by decide +kernel
theorem dX9_init_698 : decode cX9_init 698 = .ok (.dup, 1) := by decide +kernel
theorem dX9_init_699 : decode cX9_init 699 = .ok (.bipush 61, 2) := by decide +kernel
theorem dX9_init_701 : decode cX9_init 701 = .ok (.bipush 32, 2) := by decide +kernel
theorem dX9_init_703 : decode cX9_init 703 = .ok (.iastore, 1) := by decide +kernel
theorem dX9_init_704 : decode cX9_init 704 = .ok (.dup, 1) := by decide +kernel
theorem dX9_init_705 : decode cX9_init 705 = .ok (.bipush 62, 2) := by decide +kernel
theorem dX9_init_707 : decode cX9_init 707 = .ok (.bipush 32, 2) := by decide +kernel
theorem dX9_init_709 : decode cX9_init 709 = .ok (.iastore, 1) := by decide +kernel
theorem dX9_init_710 : decode cX9_init 710 = .ok (.dup, 1) := by decide +kernel
theorem dX9_init_711 : decode cX9_init 711 = .ok (.bipush 63, 2) := by decide +kernel
theorem dX9_init_713 : decode cX9_init 713 = .ok (.bipush 32, 2) := by decide +kernel
theorem dX9_init_715 : decode cX9_init 715 = .ok (.iastore, 1) := by decide +kernel
theorem dX9_init_716 : decode cX9_init 716 = .ok (.dup, 1) := by decide +kernel
theorem dX9_init_717 : decode cX9_init 717 = .ok (.bipush 64, 2) := by decide +kernel
theorem dX9_init_719 : decode cX9_init 719 = .ok (.bipush 114, 2) := by decide +kernel
theorem dX9_init_721 : decode cX9_init 721 = .ok (.iastore, 1) := by decide +kernel
theorem dX9_init_722 : decode cX9_init 722 = .ok (.dup, 1) := by decide +kernel
theorem dX9_init_723 : decode cX9_init 723 = .ok (.bipush 65, 2) := by decide +kernel
theorem dX9_init_725 : decode cX9_init 725 = .ok (.bipush 97, 2) := by decide +kernel
theorem dX9_init_727 : decode cX9_init 727 = .ok (.iastore, 1) := by decide +kernel
theorem dX9_init_728 : decode cX9_init 728 = .ok (.dup, 1) := by decide +kernel
theorem dX9_init_729 : decode cX9_init 729 = .ok (.bipush 66, 2) := by decide +kernel
theorem dX9_init_731 : decode cX9_init 731 = .ok (.bipush 110, 2) := by decide +kernel
theorem dX9_init_733 : decode cX9_init 733 = .ok (.iastore, 1) := by decide +kernel
theorem dX9_init_734 : decode cX9_init 734 = .ok (.dup, 1) := by decide +kernel
theorem dX9_init_735 : decode cX9_init 735 = .ok (.bipush 67, 2) := by decide +kernel
theorem dX9_init_737 : decode cX9_init 737 = .ok (.bipush 107, 2) := by decide +kernel
theorem dX9_init_739 : decode cX9_init 739 = .ok (.iastore, 1) := by decide +kernel
theorem dX9_init_740 : decode cX9_init 740 = .ok (.dup, 1) := by decide +kernel
theorem dX9_init_741 : decode cX9_init 741 = .ok (.bipush 68, 2) := by decide +kernel
theorem dX9_init_743 : decode cX9_init 743 = .ok (.bipush 32, 2) := by decide +kernel
theorem dX9_init_745 : decode cX9_init 745 = .ok (.iastore, 1) := by decide +kernel
theorem dX9_init_746 : decode cX9_init 746 = .ok (.dup, 1) := by decide +kernel
theorem dX9_init_747 : decode cX9_init 747 = .ok (.bipush 69, 2) := by decide +kernel
theorem dX9_init_749 : decode cX9_init 749 = .ok (.bipush 32, 2) := by decide +kernel
theorem dX9_init_751 : decode cX9_init 751 = .ok (.iastore, 1) := by decide +kernel
theorem dX9_init_752 : decode cX9_init 752 = .ok (.dup, 1) := by decide +kernel
theorem dX9_init_753 : decode cX9_init 753 = .ok (.bipush 70, 2) := by decide +kernel
theorem dX9_init_755 : decode cX9_init 755 = .ok (.bipush 32, 2) := by decide +kernel
theorem dX9_init_757 : decode cX9_init 757 = .ok (.iastore, 1) := by decide +kernel
theorem dX9_init_758 : decode cX9_init 758 = .ok (.dup, 1) := by decide +kernel
theorem dX9_init_759 : decode cX9_init 759 = .ok (.bipush 71, 2) := by decide +kernel
theorem dX9_init_761 : decode cX9_init 761 = .ok (.bipush 32, 2) := by decide +kernel
theorem dX9_init_763 : decode cX9_init 763 = .ok (.iastore, 1) := by decide +kernel
theorem dX9_init_764 : decode cX9_init 764 = .ok (.dup, 1) := by decide +kernel
theorem dX9_init_765 : decode cX9_init 765 = .ok (.bipush 72, 2) := by decide +kernel
theorem dX9_init_767 : decode cX9_init 767 = .ok (.bipush 111, 2) := by decide +kernel
theorem dX9_init_769 : decode cX9_init 769 = .ok (.iastore, 1) := by decide +kernel
theorem dX9_init_770 : decode cX9_init 770 = .ok (.dup, 1) := by decide +kernel
theorem dX9_init_771 : decode cX9_init 771 = .ok (.bipush 73, 2) := by decide +kernel
theorem dX9_init_773 : decode cX9_init 773 = .ok (.bipush 114, 2) := by decide +kernel
theorem dX9_init_775 : decode cX9_init 775 = .ok (.iastore, 1) := by decide +kernel
theorem dX9_init_776 : decode cX9_init 776 = .ok (.dup, 1) := by decide +kernel
theorem dX9_init_777 : decode cX9_init 777 = .ok (.bipush 74, 2) := by decide +kernel
theorem dX9_init_779 : decode cX9_init 779 = .ok (.bipush 32, 2) := by decide +kernel
theorem dX9_init_781 : decode cX9_init 781 = .ok (.iastore, 1) := by decide +kernel
theorem dX9_init_782 : decode cX9_init 782 = .ok (.dup, 1) := by decide +kernel
theorem dX9_init_783 : decode cX9_init 783 = .ok (.bipush 75, 2) := by decide +kernel
theorem dX9_init_785 : decode cX9_init 785 = .ok (.bipush 32, 2) := by decide +kernel
theorem dX9_init_787 : decode cX9_init 787 = .ok (.iastore, 1) := by decide +kernel
theorem dX9_init_788 : decode cX9_init 788 = .ok (.dup, 1) := by decide +kernel
theorem dX9_init_789 : decode cX9_init 789 = .ok (.bipush 76, 2) := by decide +kernel
theorem dX9_init_791 : decode cX9_init 791 = .ok (.bipush 32, 2) := by decide +kernel
theorem dX9_init_793 : decode cX9_init 793 = .ok (.iastore, 1) := by decide +kernel
theorem dX9_init_794 : decode cX9_init 794 = .ok (.dup, 1) := by decide +kernel
theorem dX9_init_795 : decode cX9_init 795 = .ok (.bipush 77, 2) := by decide +kernel
theorem dX9_init_797 : decode cX9_init 797 = .ok (.bipush 32, 2) := by decide +kernel
theorem dX9_init_799 : decode cX9_init 799 = .ok (.iastore, 1) := by decide +kernel
theorem dX9_init_800 : decode cX9_init 800 = .ok (.dup, 1) := by decide +kernel
theorem dX9_init_801 : decode cX9_init 801 = .ok (.bipush 78, 2) := by decide +kernel
theorem dX9_init_803 : decode cX9_init 803 = .ok (.bipush 32, 2) := by decide +kernel
theorem dX9_init_805 : decode cX9_init 805 = .ok (.iastore, 1) := by decide +kernel
theorem dX9_init_806 : decode cX9_init 806 = .ok (.dup, 1) := by decide +kernel
theorem dX9_init_807 : decode cX9_init 807 = .ok (.bipush 79, 2) := by decide +kernel
theorem dX9_init_809 : decode cX9_init 809 = .ok (.bipush 32, 2) := by decide +kernel
theorem dX9_init_811 : decode cX9_init 811 = .ok (.iastore, 1) := by decide +kernel
theorem dX9_init_812 : decode cX9_init 812 = .ok (.dup, 1) := by decide +kernel
theorem dX9_init_813 : decode cX9_init 813 = .ok (.bipush 80, 2) := by decide +kernel
theorem dX9_init_815 : decode cX9_init 815 = .ok (.bipush 97, 2) := by decide +kernel
theorem dX9_init_817 : decode cX9_init 817 = .ok (.iastore, 1) := by decide +kernel
theorem dX9_init_818 : decode cX9_init 818 = .ok (.dup, 1) := by decide +kernel
theorem dX9_init_819 : decode cX9_init 819 = .ok (.bipush 81, 2) := by decide +kernel
theorem dX9_init_821 : decode cX9_init 821 = .ok (.bipush 110, 2) := by decide +kernel
theorem dX9_init_823 : decode cX9_init 823 = .ok (.iastore, 1) := by decide +kernel
theorem dX9_init_824 : decode cX9_init 824 = .ok (.dup, 1) := by decide +kernel
theorem dX9_init_825 : decode cX9_init 825 = .ok (.bipush 82, 2) := by decide +kernel
theorem dX9_init_827 : decode cX9_init 827 = .ok (.bipush 100, 2) := by decide +kernel
theorem dX9_init_829 : decode cX9_init 829 = .ok (.iastore, 1) := by decide +kernel
theorem dX9_init_830 : decode cX9_init 830 = .ok (.dup, 1) := by decide +kernel
theorem dX9_init_831 : decode cX9_init 831 = .ok (.bipush 83, 2) := by decide +kernel
theorem dX9_init_833 : decode cX9_init 833 = .ok (.bipush 32, 2) := by decide +kernel
theorem dX9_init_835 : decode cX9_init 835 = .ok (.iastore, 1) := by decide +kernel
theorem dX9_init_836 : decode cX9_init 836 = .ok (.dup, 1) := by decide +kernel
theorem dX9_init_837 : decode cX9_init 837 = .ok (.bipush 84, 2) := by decide +kernel
theorem dX9_init_839 : decode cX9_init 839 = .ok (.bipush 32, 2) := by decide +kernel
theorem dX9_init_841 : decode cX9_init 841 = .ok (.iastore, 1) := by decide +kernel
theorem dX9_init_842 : decode cX9_init 842 = .ok (.dup, 1) := by decide +kernel
theorem dX9_init_843 : decode cX9_init 843 = .ok (.bipush 85, 2) := by decide +kernel
theorem dX9_init_845 : decode cX9_init 845 = .ok (.bipush 32, 2) := by decide +kernel
theorem dX9_init_847 : decode cX9_init 847 = .ok (.iastore, 1) := by decide +kernel
theorem dX9_init_848 : decode cX9_init 848 = .ok (.dup, 1) := by decide +kernel
theorem dX9_init_849 : decode cX9_init 849 = .ok (.bipush 86, 2) := by decide +kernel
theorem dX9_init_851 : decode cX9_init 851 = .ok (.bipush 32, 2) := by decide +kernel
theorem dX9_init_853 : decode cX9_init 853 = .ok (.iastore, 1) := by decide +kernel
theorem dX9_init_854 : decode cX9_init 854 = .ok (.dup, 1) := by decide +kernel
theorem dX9_init_855 : decode cX9_init 855 = .ok (.bipush 87, 2) := by decide +kernel
theorem dX9_init_857 : decode cX9_init 857 = .ok (.bipush 32, 2) := by decide +kernel
theorem dX9_init_859 : decode cX9_init 859 = .ok (.iastore, 1) := by decide +kernel
theorem dX9_init_860 : decode cX9_init 860 = .ok (.dup, 1) := by decide +kernel
theorem dX9_init_861 : decode cX9_init 861 = .ok (.bipush 88, 2) := by decide +kernel
theorem dX9_init_863 : decode cX9_init 863 = .ok (.bipush 110, 2) := by decide +kernel
theorem dX9_init_865 : decode cX9_init 865 = .ok (.iastore, 1) := by decide +kernel
theorem dX9_init_866 : decode cX9_init 866 = .ok (.dup, 1) := by decide +kernel
theorem dX9_init_867 : decode cX9_init 867 = .ok (.bipush 89, 2) := by decide +kernel
theorem dX9_init_869 : decode cX9_init 869 = .ok (.bipush 111, 2) := by decide +kernel
theorem dX9_init_871 : decode cX9_init 871 = .ok (.iastore, 1) := by decide +kernel
theorem dX9_init_872 : decode cX9_init 872 = .ok (.dup, 1) := by decide +kernel
theorem dX9_init_873 : decode cX9_init 873 = .ok (.bipush 90, 2) := by decide +kernel
theorem dX9_init_875 : decode cX9_init 875 = .ok (.bipush 116, 2) := by decide +kernel
theorem dX9_init_877 : decode cX9_init 877 = .ok (.iastore, 1) := by decide +kernel
theorem dX9_init_878 : decode cX9_init 878 = .ok (.dup, 1) := by decide +kernel
theorem dX9_init_879 : decode cX9_init 879 = .ok (.bipush 91, 2) := by decide +kernel
theorem dX9_init_881 : decode cX9_init 881 = .ok (.bipush 32, 2) := by decide +kernel
theorem dX9_init_883 : decode cX9_init 883 = .ok (.iastore, 1) := by decide +kernel
theorem dX9_init_884 : decode cX9_init 884 = .ok (.dup, 1) := by decide +kernel
theorem dX9_init_885 : decode cX9_init 885 = .ok (.bipush 92, 2) := by decide +kernel
theorem dX9_init_887 : decode cX9_init 887 = .ok (.bipush 32, 2) := by decide +kernel
theorem dX9_init_889 : decode cX9_init 889 = .ok (.iastore, 1) := by decide +kernel
theorem dX9_init_890 : decode cX9_init 890 = .ok (.dup, 1) := by decide +kernel
theorem dX9_init_891 : decode cX9_init 891 = .ok (.bipush 93, 2) := by decide +kernel
theorem dX9_init_893 : decode cX9_init 893 = .ok (.bipush 32, 2) := by decide +kernel
theorem dX9_init_895 : decode cX9_init 895 = .ok (.iastore, 1) := by decide +kernel
theorem dX9_init_896 : decode cX9_init 896 = .ok (.dup, 1) := by decide +kernel
theorem dX9_init_897 : decode cX9_init 897 = .ok (.bipush 94, 2) := by decide +kernel
theorem dX9_init_899 : decode cX9_init 899 = .ok (.bipush 32, 2) := by decide +kernel
theorem dX9_init_901 : decode cX9_init 901 = .ok (.iastore, 1) := by decide +kernel
theorem dX9_init_902 : decode cX9_init 902 = .ok (.dup, 1) := by decide +kernel
theorem dX9_init_903 : decode cX9_init 903 = .ok (.bipush 95, 2) := by decide +kernel
theorem dX9_init_905 : decode cX9_init 905 = .ok (.bipush 32, 2) := by decide +kernel
theorem dX9_init_907 : decode cX9_init 907 = .ok (.iastore, 1) := by decide +kernel
theorem dX9_init_908 : decode cX9_init 908 = .ok (.putfield 46, 3) := by decide +kernel
theorem dX9_init_911 : decode cX9_init 911 = .ok (.aload_n 0, 1) := by decide +kernel
theorem dX9_init_912 : decode cX9_init 912 = .ok (.sipush 200, 3) := by decide +kernel
theorem dX9_init_915 : decode cX9_init 915 = .ok (.newarray .int, 2) := by decide +kernel
theorem dX9_init_917 : decode cX9_init 917 = .ok (.putfield 49, 3) := by decide +kernel
theorem dX9_init_920 : decode cX9_init 920 = .ok (.aload_n 0, 1) := by decide +kernel
theorem dX9_init_921 : decode cX9_init 921 = .ok (.sipush 200, 3) := by decide +kernel
theorem dX9_init_924 : decode cX9_init 924 = .ok (.newarray .int, 2) := by decide +kernel
theorem dX9_init_926 : decode cX9_init 926 = .ok (.putfield 52, 3) := by decide +kernel
theorem dX9_init_929 : decode cX9_init 929 = .ok (.aload_n 0, 1) := by decide +kernel
theorem dX9_init_930 : decode cX9_init 930 = .ok (.bipush 6, 2) := by decide +kernel
theorem dX9_init_932 : decode cX9_init 932 = .ok (.newarray .int, 2) := by decide +kernel
theorem dX9_init_934 : decode cX9_init 934 = .ok (.putfield 55, 3) := by decide +kernel
theorem dX9_init_937 : decode cX9_init 937 = .ok (.aload_n 0, 1) := by decide +kernel
theorem dX9_init_938 : decode cX9_init 938 = .ok (.bipush 72, 2) := by decide +kernel
theorem dX9_init_940 : decode cX9_init 940 = .ok (.newarray .int, 2) := by decide +kernel
theorem dX9_init_942 : decode cX9_init 942 = .ok (.putfield 58, 3) := by decide +kernel
theorem dX9_init_945 : decode cX9_init 945 = .ok (.aload_n 0, 1) := by decide +kernel
theorem dX9_init_946 : decode cX9_init 946 = .ok (.bipush 72, 2) := by decide +kernel
theorem dX9_init_948 : decode cX9_init 948 = .ok (.newarray .int, 2) := by decide +kernel
theorem dX9_init_950 : decode cX9_init 950 = .ok (.putfield 61, 3) := by decide +kernel
theorem dX9_init_953 : decode cX9_init 953 = .ok (.aload_n 0, 1) := by decide +kernel
theorem dX9_init_954 : decode cX9_init 954 = .ok (.bipush 8, 2) := by decide +kernel
theorem dX9_init_956 : decode cX9_init 956 = .ok (.newarray .int, 2) := by decide +kernel
theorem dX9_init_958 : decode cX9_init 958 = .ok (.putfield 64, 3) := by decide +kernel
theorem dX9_init_961 : decode cX9_init 961 = .ok (.aload_n 0, 1) := by decide +kernel
theorem dX9_init_962 : decode cX9_init 962 = .ok (.bipush 6, 2) := by decide +kernel
theorem dX9_init_964 : decode cX9_init 964 = .ok (.newarray .int, 2) := by decide +kernel
theorem dX9_init_966 : decode cX9_init 966 = .ok (.putfield 67, 3) := by decide +kernel
theorem dX9_init_969 : decode cX9_init 969 = .ok (.aload_n 0, 1) := by decide +kernel
theorem dX9_init_970 : decode cX9_init 970 = .ok (.bipush 6, 2) := by decide +kernel
theorem dX9_init_972 : decode cX9_init 972 = .ok (.newarray .int, 2) := by decide +kernel
theorem dX9_init_974 : decode cX9_init 974 = .ok (.putfield 70, 3) := by decide +kernel
theorem dX9_init_977 : decode cX9_init 977 = .ok (.iconst 0, 1) := by decide +kernel
theorem dX9_init_978 : decode cX9_init 978 = .ok (.istore_n 1, 1) := by decide +kernel
theorem dX9_init_979 : decode cX9_init 979 = .ok (.iload_n 1, 1) := by decide +kernel
theorem dX9_init_980 : decode cX9_init 980 = .ok (.bipush 37, 2) := by decide +kernel
theorem dX9_init_982 : decode cX9_init 982 = .ok (.if_icmp .ge 21, 3) := by decide +kernel
theorem dX9_init_985 : decode cX9_init 985 = .ok (.aload_n 0, 1) := by decide +kernel
theorem dX9_init_986 : decode cX9_init 986 = .ok (.getfield 22, 3) := by decide +kernel
theorem dX9_init_989 : decode cX9_init 989 = .ok (.iload_n 1, 1) := by decide +kernel
theorem dX9_init_990 : decode cX9_init 990 = .ok (.aload_n 0, 1) := by decide +kernel
theorem dX9_init_991 : decode cX9_init 991 = .ok (.getfield 43, 3) := by decide +kernel
theorem dX9_init_994 : decode cX9_init 994 = .ok (.iload_n 1, 1) := by decide +kernel
theorem dX9_init_995 : decode cX9_init 995 = .ok (.iaload, 1) := by decide +kernel
theorem dX9_init_996 : decode cX9_init 996 = .ok (.iastore, 1) := by decide +kernel
theorem dX9_init_997 : decode cX9_init 997 = .ok (.iinc 1 1, 3) := by decide +kernel
theorem dX9_init_1000 : decode cX9_init 1000 = .ok (.goto (-21), 3) := by decide +kernel
theorem dX9_init_1003 : decode cX9_init 1003 = .ok (.aload_n 0, 1) := by decide +kernel
theorem dX9_init_1004 : decode cX9_init 1004 = .ok (.bipush 37, 2) := by decide +kernel
theorem dX9_init_1006 : decode cX9_init 1006 = .ok (.putfield 73, 3) := by decide +kernel
theorem dX9_init_1009 : decode cX9_init 1009 = .ok (.aload_n 0, 1) := by decide +kernel
theorem dX9_init_1010 : decode cX9_init 1010 = .ok (.invokevirtual 77, 3) := by decide +kernel
theorem dX9_init_1013 : decode cX9_init 1013 = .ok (.pop, 1) := by decide +kernel
theorem dX9_init_1014 : decode cX9_init 1014 = .ok (.return_, 1) := by decide +kernel
theorem ob_i : Cond.instanceMethod objectInit ∈ TB := tb_in 104 (by decide +kernel) rfl
theorem ob_c : Cond.code objectInit ⟨#[0xb1]⟩ 1 none ∈ TB := tb_in 105 (by decide +kernel) rfl
theorem ai_tb : Cond.arrayClass .int ∈ TB := tb_in 129 (by decide +kernel) rfl
theorem ob_X0 : Cond.methodLink RX0 3 objectInit ∈ TB := tb_in 339 (by decide +kernel) rfl
theorem ob_X1 : Cond.methodLink RX1 3 objectInit ∈ TB := tb_in 193 (by decide +kernel) rfl
theorem ob_X2 : Cond.methodLink RX2 3 objectInit ∈ TB := tb_in 149 (by decide +kernel) rfl
theorem ob_X3 : Cond.methodLink RX3 3 objectInit ∈ TB := tb_in 111 (by decide +kernel) rfl
theorem ob_X4 : Cond.methodLink RX4 3 objectInit ∈ TB := tb_in 318 (by decide +kernel) rfl
theorem ob_X5 : Cond.methodLink RX5 3 objectInit ∈ TB := tb_in 118 (by decide +kernel) rfl
theorem ob_X6 : Cond.methodLink RX6 3 objectInit ∈ TB := tb_in 184 (by decide +kernel) rfl
theorem ob_X7 : Cond.methodLink RX7 3 objectInit ∈ TB := tb_in 234 (by decide +kernel) rfl
theorem ob_X8 : Cond.methodLink RX8 1 objectInit ∈ TB := tb_in 103 (by decide +kernel) rfl
theorem ob_X9 : Cond.methodLink RX9 1 objectInit ∈ TB := tb_in 993 (by decide +kernel) rfl
def mixE (ac : Nat → ClassId) (z k0 : Nat) (w : Nat → va_E) : Nat → va_E := fun q => if q < k0 then w q else Ec ac z s0 q
section
variable {p : Program} {l : Launch} {e : Env} {R : Room} {s : State} {m : MethodId} {args : Array Value} {below : List Frame} {meth : Method} {c : Code} {H : Heap} {locs : List Loc} {cells slots : Nat} {Q : State → Prop}
variable {cc : ByteArray} {nL : Nat} {own : String} {ret : Option FieldType} {D : va_G} {ac : Nat → ClassId} {z n idx a : Nat} {w : Nat → va_E} {A : Nat → Prop} {S : SP} {pc : Nat} {ls : Array Slot} {K : Nat} {aK aV : Nat → Nat}
theorem a_obj (C : CX cc nL own ret D ac p m c s args meth S A) (h1 : Cond.methodLink own idx objectInit ∈ TB) (hsz : ls.size = nL) (hR : 1 ≤ R.frames ∧ 12 ≤ R.locals) (hd : decode cc pc = .ok (.invokespecial idx, 3))
    (kk : W p l e R s m args below meth c H locs cells slots Q (F0 m (pc + 3) ls [])) : W p l e R s m args below meth c H locs cells slots Q (F0 m pc ls [.ref a]) := by
  obtain ⟨⟨hx, hb, hml, ho, hts⟩, hr, hlk, hK, -, -⟩ := C
  exact W.objInit hx hb ho (hts _ h1) (hts _ ob_i) (hts _ ob_c) rfl (hsz.trans hml.symm) rfl hd hR.1 hR.2 kk
theorem aRoom {K K' mc ms maxL cells slots c2 s2 : Nat} (h1 : K' + 1 ≤ K) (h2 : maxL ≤ 21) (h3 : cells + c2 ≤ mc) (h4 : slots + s2 ≤ ms) : K' + 1 ≤ (rma K mc ms).frames ∧ 8 + (maxL + 11) + 40 * K' ≤ (rma K mc ms).locals ∧ cells + c2 ≤ (rma K mc ms).cells ∧ slots + s2 ≤ (rma K mc ms).slots :=
  ⟨h1, by show 8 + (maxL + 11) + 40 * K' ≤ 40 * K; omega, h3, h4⟩
theorem aRoom0 {K mc ms : Nat} (h1 : 1 ≤ K) : 1 ≤ (rma K mc ms).frames ∧ 12 ≤ (rma K mc ms).locals := ⟨h1, by show 12 ≤ 40 * K; omega⟩
theorem fm_X0_9 : Cond.fieldLink RX0 9 (TX0 0).1 (TX0 0).2.1 (TX0 0).2.2.1 ∈ TB := tb_in 340 (by decide +kernel) rfl
theorem fm_X0_15 : Cond.fieldLink RX0 15 (TX0 1).1 (TX0 1).2.1 (TX0 1).2.2.1 ∈ TB := tb_in 341 (by decide +kernel) rfl
theorem fm_X2_9 : Cond.fieldLink RX2 9 (TX2 0).1 (TX2 0).2.1 (TX2 0).2.2.1 ∈ TB := tb_in 150 (by decide +kernel) rfl
theorem fm_X2_15 : Cond.fieldLink RX2 15 (TX2 2).1 (TX2 2).2.1 (TX2 2).2.2.1 ∈ TB := tb_in 153 (by decide +kernel) rfl
theorem fm_X2_18 : Cond.fieldLink RX2 18 (TX2 3).1 (TX2 3).2.1 (TX2 3).2.2.1 ∈ TB := tb_in 154 (by decide +kernel) rfl
theorem fm_X2_21 : Cond.fieldLink RX2 21 (TX2 6).1 (TX2 6).2.1 (TX2 6).2.2.1 ∈ TB := tb_in 157 (by decide +kernel) rfl
theorem fm_X2_24 : Cond.fieldLink RX2 24 (TX2 8).1 (TX2 8).2.1 (TX2 8).2.2.1 ∈ TB := tb_in 159 (by decide +kernel) rfl
theorem fm_X3_11 : Cond.fieldLink RX3 11 (TX3 0).1 (TX3 0).2.1 (TX3 0).2.2.1 ∈ TB := tb_in 130 (by decide +kernel) rfl
theorem fm_X3_17 : Cond.fieldLink RX3 17 (TX3 2).1 (TX3 2).2.1 (TX3 2).2.2.1 ∈ TB := tb_in 133 (by decide +kernel) rfl
theorem fm_X3_21 : Cond.fieldLink RX3 21 (TX3 3).1 (TX3 3).2.1 (TX3 3).2.2.1 ∈ TB := tb_in 134 (by decide +kernel) rfl
theorem fm_X3_27 : Cond.fieldLink RX3 27 (TX3 1).1 (TX3 1).2.1 (TX3 1).2.2.1 ∈ TB := tb_in 131 (by decide +kernel) rfl
theorem fm_X4_9 : Cond.fieldLink RX4 9 (TX4 0).1 (TX4 0).2.1 (TX4 0).2.2.1 ∈ TB := tb_in 319 (by decide +kernel) rfl
theorem fm_X4_15 : Cond.fieldLink RX4 15 (TX4 1).1 (TX4 1).2.1 (TX4 1).2.2.1 ∈ TB := tb_in 321 (by decide +kernel) rfl
theorem fm_X5_9 : Cond.fieldLink RX5 9 (TX5 0).1 (TX5 0).2.1 (TX5 0).2.2.1 ∈ TB := tb_in 119 (by decide +kernel) rfl
theorem fm_X5_15 : Cond.fieldLink RX5 15 (TX5 1).1 (TX5 1).2.1 (TX5 1).2.2.1 ∈ TB := tb_in 120 (by decide +kernel) rfl
theorem fm_X5_18 : Cond.fieldLink RX5 18 (TX5 2).1 (TX5 2).2.1 (TX5 2).2.2.1 ∈ TB := tb_in 121 (by decide +kernel) rfl
theorem fm_X6_11 : Cond.fieldLink RX6 11 (TX6 1).1 (TX6 1).2.1 (TX6 1).2.2.1 ∈ TB := tb_in 267 (by decide +kernel) rfl
theorem fm_X6_19 : Cond.fieldLink RX6 19 (TX6 2).1 (TX6 2).2.1 (TX6 2).2.2.1 ∈ TB := tb_in 268 (by decide +kernel) rfl
theorem fm_X6_23 : Cond.fieldLink RX6 23 (TX6 0).1 (TX6 0).2.1 (TX6 0).2.2.1 ∈ TB := tb_in 266 (by decide +kernel) rfl
theorem fm_X7_9 : Cond.fieldLink RX7 9 (TX7 5).1 (TX7 5).2.1 (TX7 5).2.2.1 ∈ TB := tb_in 250 (by decide +kernel) rfl
theorem fm_X8_10 : Cond.fieldLink RX8 10 (TX8 0).1 (TX8 0).2.1 (TX8 0).2.2.1 ∈ TB := tb_in 359 (by decide +kernel) rfl
theorem fm_X8_19 : Cond.fieldLink RX8 19 (TX8 1).1 (TX8 1).2.1 (TX8 1).2.2.1 ∈ TB := tb_in 360 (by decide +kernel) rfl
theorem fm_X8_28 : Cond.fieldLink RX8 28 (TX8 2).1 (TX8 2).2.1 (TX8 2).2.2.1 ∈ TB := tb_in 361 (by decide +kernel) rfl
theorem fm_X8_32 : Cond.fieldLink RX8 32 (TX8 3).1 (TX8 3).2.1 (TX8 3).2.2.1 ∈ TB := tb_in 362 (by decide +kernel) rfl
theorem fm_X8_35 : Cond.fieldLink RX8 35 (TX8 4).1 (TX8 4).2.1 (TX8 4).2.2.1 ∈ TB := tb_in 363 (by decide +kernel) rfl
theorem fm_X8_38 : Cond.fieldLink RX8 38 (TX8 5).1 (TX8 5).2.1 (TX8 5).2.2.1 ∈ TB := tb_in 364 (by decide +kernel) rfl
theorem fm_X8_44 : Cond.fieldLink RX8 44 (TX8 6).1 (TX8 6).2.1 (TX8 6).2.2.1 ∈ TB := tb_in 365 (by decide +kernel) rfl
theorem fm_X8_52 : Cond.fieldLink RX8 52 (TX8 7).1 (TX8 7).2.1 (TX8 7).2.2.1 ∈ TB := tb_in 366 (by decide +kernel) rfl
theorem fm_X8_56 : Cond.fieldLink RX8 56 (TX8 8).1 (TX8 8).2.1 (TX8 8).2.2.1 ∈ TB := tb_in 367 (by decide +kernel) rfl
theorem fm_X8_62 : Cond.fieldLink RX8 62 (TX8 9).1 (TX8 9).2.1 (TX8 9).2.2.1 ∈ TB := tb_in 368 (by decide +kernel) rfl
theorem cl_X3_9 : Cond.classLink RX3 9 RX5 ∈ TB ∧ Cond.instantiable RX5 3 ∈ TB ∧ Cond.initialized RX5 ∈ TB := ⟨tb_in 112 (by decide +kernel) rfl, tb_in 114 (by decide +kernel) rfl, tb_in 82 (by decide +kernel) rfl⟩
theorem cl_X6_9 : Cond.classLink RX6 9 RX1 ∈ TB ∧ Cond.instantiable RX1 6 ∈ TB ∧ Cond.initialized RX1 ∈ TB := ⟨tb_in 185 (by decide +kernel) rfl, tb_in 189 (by decide +kernel) rfl, tb_in 85 (by decide +kernel) rfl⟩
theorem cl_X6_17 : Cond.classLink RX6 17 RX7 ∈ TB ∧ Cond.instantiable RX7 6 ∈ TB ∧ Cond.initialized RX7 ∈ TB := ⟨tb_in 187 (by decide +kernel) rfl, tb_in 230 (by decide +kernel) rfl, tb_in 86 (by decide +kernel) rfl⟩
theorem cl_X8_7 : Cond.classLink RX8 7 RX3 ∈ TB ∧ Cond.instantiable RX3 4 ∈ TB ∧ Cond.initialized RX3 ∈ TB := ⟨tb_in 106 (by decide +kernel) rfl, tb_in 107 (by decide +kernel) rfl, tb_in 81 (by decide +kernel) rfl⟩
theorem cl_X8_16 : Cond.classLink RX8 16 RX2 ∈ TB ∧ Cond.instantiable RX2 9 ∈ TB ∧ Cond.initialized RX2 ∈ TB := ⟨tb_in 144 (by decide +kernel) rfl, tb_in 145 (by decide +kernel) rfl, tb_in 83 (by decide +kernel) rfl⟩
theorem cl_X8_23 : Cond.classLink RX8 23 RX6 ∈ TB ∧ Cond.instantiable RX6 12 ∈ TB ∧ Cond.initialized RX6 ∈ TB := ⟨tb_in 179 (by decide +kernel) rfl, tb_in 180 (by decide +kernel) rfl, tb_in 84 (by decide +kernel) rfl⟩
theorem cl_X8_42 : Cond.classLink RX8 42 RX4 ∈ TB ∧ Cond.instantiable RX4 3 ∈ TB ∧ Cond.initialized RX4 ∈ TB := ⟨tb_in 312 (by decide +kernel) rfl, tb_in 314 (by decide +kernel) rfl, tb_in 87 (by decide +kernel) rfl⟩
theorem cl_X8_49 : Cond.classLink RX8 49 RX1 ∈ TB ∧ Cond.instantiable RX1 6 ∈ TB ∧ Cond.initialized RX1 ∈ TB := ⟨tb_in 332 (by decide +kernel) rfl, tb_in 189 (by decide +kernel) rfl, tb_in 85 (by decide +kernel) rfl⟩
theorem cl_X8_59 : Cond.classLink RX8 59 RX0 ∈ TB ∧ Cond.instantiable RX0 5 ∈ TB ∧ Cond.initialized RX0 ∈ TB := ⟨tb_in 334 (by decide +kernel) rfl, tb_in 335 (by decide +kernel) rfl, tb_in 88 (by decide +kernel) rfl⟩
theorem mi_X3_24 : MI RX3 24 yX5_init cX5_init 4 3 := ⟨tb_in 117 (by decide +kernel) rfl, tb_in 116 (by decide +kernel) rfl, tb_in 82 (by decide +kernel) rfl, ⟨by decide, by decide, by decide +kernel⟩, rfl, Or.inl (tb_in 115 (by decide +kernel) rfl)⟩
theorem mi_X6_27 : MI RX6 27 yX1_init cX1_init 1 0 := ⟨tb_in 192 (by decide +kernel) rfl, tb_in 191 (by decide +kernel) rfl, tb_in 85 (by decide +kernel) rfl, ⟨by decide, by decide, by decide +kernel⟩, rfl, Or.inr (by simp [nestL])⟩
theorem mi_X6_28 : MI RX6 28 yX7_init cX7_init 1 0 := ⟨tb_in 233 (by decide +kernel) rfl, tb_in 232 (by decide +kernel) rfl, tb_in 86 (by decide +kernel) rfl, ⟨by decide, by decide, by decide +kernel⟩, rfl, Or.inr (by simp [nestL])⟩
theorem mi_X8_9 : MI RX8 9 yX3_init cX3_init 1 0 := ⟨tb_in 110 (by decide +kernel) rfl, tb_in 109 (by decide +kernel) rfl, tb_in 81 (by decide +kernel) rfl, ⟨by decide, by decide, by decide +kernel⟩, rfl, Or.inl (tb_in 108 (by decide +kernel) rfl)⟩
theorem mi_X8_18 : MI RX8 18 yX2_init cX2_init 1 0 := ⟨tb_in 148 (by decide +kernel) rfl, tb_in 147 (by decide +kernel) rfl, tb_in 83 (by decide +kernel) rfl, ⟨by decide, by decide, by decide +kernel⟩, rfl, Or.inr (by simp [nestL])⟩
theorem mi_X8_25 : MI RX8 25 yX6_init cX6_init 3 1 := ⟨tb_in 183 (by decide +kernel) rfl, tb_in 182 (by decide +kernel) rfl, tb_in 84 (by decide +kernel) rfl, ⟨by decide, by decide, by decide +kernel⟩, rfl, Or.inl (tb_in 181 (by decide +kernel) rfl)⟩
theorem mi_X8_48 : MI RX8 48 yX4_init cX4_init 1 0 := ⟨tb_in 317 (by decide +kernel) rfl, tb_in 316 (by decide +kernel) rfl, tb_in 87 (by decide +kernel) rfl, ⟨by decide, by decide, by decide +kernel⟩, rfl, Or.inr (by simp [nestL])⟩
theorem mi_X8_51 : MI RX8 51 yX1_init cX1_init 1 0 := ⟨tb_in 192 (by decide +kernel) rfl, tb_in 191 (by decide +kernel) rfl, tb_in 85 (by decide +kernel) rfl, ⟨by decide, by decide, by decide +kernel⟩, rfl, Or.inr (by simp [nestL])⟩
theorem mi_X8_61 : MI RX8 61 yX0_init cX0_init 1 0 := ⟨tb_in 338 (by decide +kernel) rfl, tb_in 337 (by decide +kernel) rfl, tb_in 88 (by decide +kernel) rfl, ⟨by decide, by decide, by decide +kernel⟩, rfl, Or.inr (by simp [nestL])⟩
theorem a_X1 {K : Nat} (hK : 1 ≤ K) {k : Nat} (hA : ∀ q, A q → S.1 ≤ q) : MA l D z ac S A yX1_init cX1_init 1 none K 0 0 [.ref (z + k)] n w none n w := by
  refine MA.of hA (plainFor_of_name (by decide)) (Nat.le_of_ble_eq_true rfl) ?_
  intro p e s m below meth c args C hin hW ls hl
  replace hl : lv_has ls 1 [(0, .ref (z + k))] := hl
  have hS : va_S A s.heap s.heap [] := va_S.rf
  have hx := C.1.1
  have hb := C.1.2.1
  refine lv_aload_n (pc := 0) hx hb dX1_init_0 rfl (lv_at hl 0 rfl) ?_
  refine a_obj (pc := 1) C ob_X1 hl.1 (aRoom0 hK) dX1_init_1 ?_
  exact a_vret (pc := 4) C hW hS dX1_init_4 rfl rfl rfl (fun q hq a H h => h)
theorem a_X7 {K : Nat} (hK : 1 ≤ K) {k : Nat} (hA : ∀ q, A q → S.1 ≤ q) (hk : k < n) (hAk : A (z + k)) {f0 f1 f2 f3 f4 f5 : Value} (he : w k = .inr (7, [f0, f1, f2, f3, f4, f5])) : MA l D z ac S A yX7_init cX7_init 1 none K 0 0 [.ref (z + k)] n w none n (va_up w k (.inr (7, [f0, f1, f2, f3, f4, .int (-1)]))) := by
  refine MA.of hA (plainFor_of_name (by decide)) (Nat.le_of_ble_eq_true rfl) ?_
  intro p e s m below meth c args C hin hW ls hl
  replace hl : lv_has ls 1 [(0, .ref (z + k))] := hl
  have hS : va_S A s.heap s.heap [] := va_S.rf
  have hx := C.1.1
  have hb := C.1.2.1
  refine lv_aload_n (pc := 0) hx hb dX7_init_0 rfl (lv_at hl 0 rfl) ?_
  refine a_obj (pc := 1) C ob_X7 hl.1 (aRoom0 hK) dX7_init_1 ?_
  refine lv_aload_n (pc := 4) hx hb dX7_init_4 rfl (lv_at hl 0 rfl) ?_
  refine lv_iconst (pc := 5) (v := -1) hx hb dX7_init_5 (by decide) ?_
  refine a_put (pc := 6) (k := k) (ci := 7) C hW hS tyX7 hk he hAk rfl lays_X7 tyX7_ok nmX7 5 (by decide) fm_X7_9 rfl (x := .int (-1)) rfl rfl (by simp) dX7_init_6 (fun H locs hW hS => ?_)
  exact a_vret (pc := 9) C hW hS dX7_init_9 rfl rfl rfl (fun q hq a H h => h)
theorem a_X5 {K : Nat} (hK : 1 ≤ K) {k a1 a2 a3 : Nat} (hA : ∀ q, A q → S.1 ≤ q) (hk : k < n) (hAk : A (z + k)) {f0 f1 f2 : Value} (he : w k = .inr (5, [f0, f1, f2])) : MA l D z ac S A yX5_init cX5_init 4 none K 0 0 [.ref (z + k), .ref (z + a1), .ref (z + a2), .ref (z + a3)] n w none n (va_up w k (.inr (5, [.ref (z + a1), .ref (z + a2), .ref (z + a3)]))) := by
  refine MA.of hA (plainFor_of_name (by decide)) (Nat.le_of_ble_eq_true rfl) ?_
  intro p e s m below meth c args C hin hW ls hl
  replace hl : lv_has ls 4 [(0, .ref (z + k)), (1, .ref (z + a1)), (2, .ref (z + a2)), (3, .ref (z + a3))] := hl
  have hS : va_S A s.heap s.heap [] := va_S.rf
  have hx := C.1.1
  have hb := C.1.2.1
  refine lv_aload_n (pc := 0) hx hb dX5_init_0 rfl (lv_at hl 0 rfl) ?_
  refine a_obj (pc := 1) C ob_X5 hl.1 (aRoom0 hK) dX5_init_1 ?_
  refine lv_aload_n (pc := 4) hx hb dX5_init_4 rfl (lv_at hl 0 rfl) ?_
  refine lv_aload_n (pc := 5) hx hb dX5_init_5 rfl (lv_at hl 1 rfl) ?_
  refine a_putF (pc := 6) (k := k) (ci := 5) C hW hS tyX5 hk he hAk rfl lays_X5 tyX5_ok nmX5 0 (by decide) fm_X5_9 rfl hin rfl (x := .ref (z + a1)) rfl rfl (by simp) dX5_init_6 (fun H locs hW hS => ?_)
  refine lv_aload_n (pc := 9) hx hb dX5_init_9 rfl (lv_at hl 0 rfl) ?_
  refine lv_aload_n (pc := 10) hx hb dX5_init_10 rfl (lv_at hl 2 rfl) ?_
  refine a_putF (pc := 11) (k := k) (ci := 5) (fs := [.ref (z + a1), f1, f2]) C hW hS tyX5 hk (by simp [va_up]) hAk rfl lays_X5 tyX5_ok nmX5 1 (by decide) fm_X5_15 rfl hin rfl (x := .ref (z + a2)) rfl rfl (by simp) dX5_init_11 (fun H locs hW hS => ?_)
  refine lv_aload_n (pc := 14) hx hb dX5_init_14 rfl (lv_at hl 0 rfl) ?_
  refine lv_aload_n (pc := 15) hx hb dX5_init_15 rfl (lv_at hl 3 rfl) ?_
  refine a_putF (pc := 16) (k := k) (ci := 5) (fs := [.ref (z + a1), .ref (z + a2), f2]) C hW hS tyX5 hk (by simp [va_up]) hAk rfl lays_X5 tyX5_ok nmX5 2 (by decide) fm_X5_18 rfl hin rfl (x := .ref (z + a3)) rfl rfl (by simp) dX5_init_16 (fun H locs hW hS => ?_)
  refine a_vret (pc := 19) C hW hS dX5_init_19 rfl rfl rfl (fun q hq a H h => ?_)
  by_cases hqk : q = k
  · subst hqk
    simp [va_up] at h ⊢
    exact h
  · simp [va_up, hqk] at h ⊢
    exact h
theorem a_X0_77 {K : Nat} (hK : 2 ≤ K) (he : w 77 = .inr (0, [.null, .null, .int 0, .int 0, .int 0])) : MA l D z ac (z, aK, aV) (Ac z) yX0_init cX0_init 1 none K 2 12 [.ref (z + 77)] 78 w none 80 (mixE ac z 77 w) := by
  refine MA.of (fun q hq => hq.1) (plainFor_of_name (by decide)) (Nat.le_of_ble_eq_true rfl) ?_
  intro p e s m below meth c args C hin hW ls hl
  replace hl : lv_has ls 1 [(0, .ref (z + 77))] := hl
  have hS : va_S (Ac z) s.heap s.heap [] := va_S.rf
  have hx := C.1.1
  have hb := C.1.2.1
  have hK1 : 1 ≤ K := by omega
  replace hW : Wg D z 78 (va_up w 77 (.inr (0, [.null, .null, .int 0, .int 0, .int 0]))) s.heap := ⟨hW.1, fun q hq => by
    unfold va_up
    by_cases h : q = 77
    · subst h
      rw [if_pos rfl, ← he]
      exact hW.2 _ hq
    · rw [if_neg h]
      exact hW.2 _ hq⟩
  refine lv_aload_n (pc := 0) hx hb dX0_init_0 rfl (lv_at hl 0 rfl) ?_
  refine a_obj (pc := 1) C ob_X0 hl.1 (aRoom0 hK1) dX0_init_1 ?_
  refine lv_aload_n (pc := 4) hx hb dX0_init_4 rfl (lv_at hl 0 rfl) ?_
  refine lv_bipush (pc := 5) (v := 6) hx hb dX0_init_5 (by decide) ?_
  refine a_newa (pc := 7) (n := 78) (n1 := 79) (N := 6) C hW hS ai_tb (by decide) (by decide) (by decide) rfl (Nat.le_of_ble_eq_true rfl) (Nat.le_of_ble_eq_true rfl) dX0_init_7 (fun H hW hS => ?_)
  refine a_putF (pc := 9) (k := 77) (ci := 0) C hW hS tyX0 (by decide) rfl ⟨Nat.le_add_right _ _, Nat.add_lt_add_left (by decide) _⟩ rfl lays_X0 tyX0_ok nmX0 0 (by decide) fm_X0_9 rfl hin rfl (x := .ref (z + 78)) rfl rfl (Nat.le_of_ble_eq_true rfl) dX0_init_9 (fun H locs hW hS => ?_)
  refine lv_aload_n (pc := 12) hx hb dX0_init_12 rfl (lv_at hl 0 rfl) ?_
  refine lv_bipush (pc := 13) (v := 6) hx hb dX0_init_13 (by decide) ?_
  refine a_newa (pc := 15) (n := 79) (n1 := 80) (N := 6) C hW hS ai_tb (by decide) (by decide) (by decide) rfl (Nat.le_of_ble_eq_true rfl) (Nat.le_of_ble_eq_true rfl) dX0_init_15 (fun H hW hS => ?_)
  refine a_putF (pc := 17) (k := 77) (ci := 0) C hW hS tyX0 (by decide) rfl ⟨Nat.le_add_right _ _, Nat.add_lt_add_left (by decide) _⟩ rfl lays_X0 tyX0_ok nmX0 1 (by decide) fm_X0_15 rfl hin rfl (x := .ref (z + 79)) rfl rfl (Nat.le_of_ble_eq_true rfl) dX0_init_17 (fun H locs hW hS => ?_)
  refine a_vret (pc := 20) C hW hS dX0_init_20 rfl rfl rfl (fun q hq a H => ?_)
  have hc : q < 77 ∨ q = 77 ∨ q = 78 ∨ q = 79 := by omega
  rcases hc with hc | rfl | rfl | rfl
  · have e1 : mixE ac z 77 w q = w q := if_pos hc
    rw [e1]
    intro h
    simp (disch := omega) only [va_up_ne] at h
    exact h
  · exact id
  · refine at_ints (cA := ac 0) (N := 6) ?_ a H
    decide +kernel
  · refine at_ints (cA := ac 0) (N := 6) ?_ a H
    decide +kernel

theorem a_X2_9 {K : Nat} (hK : 2 ≤ K) (he : w 9 = .inr (2, [.null, .int 0, .null, .null, .int 0, .int 0, .null, .int 0, .null])) : MA l D z ac (z, aK, aV) (Ac z) yX2_init cX2_init 1 none K 5 645 [.ref (z + 9)] 10 w none 15 (mixE ac z 9 w) := by
  refine MA.of (fun q hq => hq.1) (plainFor_of_name (by decide)) (Nat.le_of_ble_eq_true rfl) ?_
  intro p e s m below meth c args C hin hW ls hl
  replace hl : lv_has ls 1 [(0, .ref (z + 9))] := hl
  have hS : va_S (Ac z) s.heap s.heap [] := va_S.rf
  have hx := C.1.1
  have hb := C.1.2.1
  have hK1 : 1 ≤ K := by omega
  replace hW : Wg D z 10 (va_up w 9 (.inr (2, [.null, .int 0, .null, .null, .int 0, .int 0, .null, .int 0, .null]))) s.heap := ⟨hW.1, fun q hq => by
    unfold va_up
    by_cases h : q = 9
    · subst h
      rw [if_pos rfl, ← he]
      exact hW.2 _ hq
    · rw [if_neg h]
      exact hW.2 _ hq⟩
  refine lv_aload_n (pc := 0) hx hb dX2_init_0 rfl (lv_at hl 0 rfl) ?_
  refine a_obj (pc := 1) C ob_X2 hl.1 (aRoom0 hK1) dX2_init_1 ?_
  refine lv_aload_n (pc := 4) hx hb dX2_init_4 rfl (lv_at hl 0 rfl) ?_
  refine lv_sipush (pc := 5) (v := 160) hx hb dX2_init_5 (by decide) ?_
  refine a_newa (pc := 8) (n := 10) (n1 := 11) (N := 160) C hW hS ai_tb (by decide) (by decide) (by decide) rfl (Nat.le_of_ble_eq_true rfl) (Nat.le_of_ble_eq_true rfl) dX2_init_8 (fun H hW hS => ?_)
  refine a_putF (pc := 10) (k := 9) (ci := 2) C hW hS tyX2 (by decide) rfl ⟨Nat.le_add_right _ _, Nat.add_lt_add_left (by decide) _⟩ rfl lays_X2 tyX2_ok nmX2 0 (by decide) fm_X2_9 rfl hin rfl (x := .ref (z + 10)) rfl rfl (Nat.le_of_ble_eq_true rfl) dX2_init_10 (fun H locs hW hS => ?_)
  refine lv_aload_n (pc := 13) hx hb dX2_init_13 rfl (lv_at hl 0 rfl) ?_
  refine lv_sipush (pc := 14) (v := 161) hx hb dX2_init_14 (by decide) ?_
  refine a_newa (pc := 17) (n := 11) (n1 := 12) (N := 161) C hW hS ai_tb (by decide) (by decide) (by decide) rfl (Nat.le_of_ble_eq_true rfl) (Nat.le_of_ble_eq_true rfl) dX2_init_17 (fun H hW hS => ?_)
  refine a_putF (pc := 19) (k := 9) (ci := 2) C hW hS tyX2 (by decide) rfl ⟨Nat.le_add_right _ _, Nat.add_lt_add_left (by decide) _⟩ rfl lays_X2 tyX2_ok nmX2 2 (by decide) fm_X2_15 rfl hin rfl (x := .ref (z + 11)) rfl rfl (Nat.le_of_ble_eq_true rfl) dX2_init_19 (fun H locs hW hS => ?_)
  refine lv_aload_n (pc := 22) hx hb dX2_init_22 rfl (lv_at hl 0 rfl) ?_
  refine lv_sipush (pc := 23) (v := 161) hx hb dX2_init_23 (by decide) ?_
  refine a_newa (pc := 26) (n := 12) (n1 := 13) (N := 161) C hW hS ai_tb (by decide) (by decide) (by decide) rfl (Nat.le_of_ble_eq_true rfl) (Nat.le_of_ble_eq_true rfl) dX2_init_26 (fun H hW hS => ?_)
  refine a_putF (pc := 28) (k := 9) (ci := 2) C hW hS tyX2 (by decide) rfl ⟨Nat.le_add_right _ _, Nat.add_lt_add_left (by decide) _⟩ rfl lays_X2 tyX2_ok nmX2 3 (by decide) fm_X2_18 rfl hin rfl (x := .ref (z + 12)) rfl rfl (Nat.le_of_ble_eq_true rfl) dX2_init_28 (fun H locs hW hS => ?_)
  refine lv_aload_n (pc := 31) hx hb dX2_init_31 rfl (lv_at hl 0 rfl) ?_
  refine lv_sipush (pc := 32) (v := 160) hx hb dX2_init_32 (by decide) ?_
  refine a_newa (pc := 35) (n := 13) (n1 := 14) (N := 160) C hW hS ai_tb (by decide) (by decide) (by decide) rfl (Nat.le_of_ble_eq_true rfl) (Nat.le_of_ble_eq_true rfl) dX2_init_35 (fun H hW hS => ?_)
  refine a_putF (pc := 37) (k := 9) (ci := 2) C hW hS tyX2 (by decide) rfl ⟨Nat.le_add_right _ _, Nat.add_lt_add_left (by decide) _⟩ rfl lays_X2 tyX2_ok nmX2 6 (by decide) fm_X2_21 rfl hin rfl (x := .ref (z + 13)) rfl rfl (Nat.le_of_ble_eq_true rfl) dX2_init_37 (fun H locs hW hS => ?_)
  refine lv_aload_n (pc := 40) hx hb dX2_init_40 rfl (lv_at hl 0 rfl) ?_
  refine lv_iconst (pc := 41) (v := 3) hx hb dX2_init_41 (by decide) ?_
  refine a_newa (pc := 42) (n := 14) (n1 := 15) (N := 3) C hW hS ai_tb (by decide) (by decide) (by decide) rfl (Nat.le_of_ble_eq_true rfl) (Nat.le_of_ble_eq_true rfl) dX2_init_42 (fun H hW hS => ?_)
  refine a_putF (pc := 44) (k := 9) (ci := 2) C hW hS tyX2 (by decide) rfl ⟨Nat.le_add_right _ _, Nat.add_lt_add_left (by decide) _⟩ rfl lays_X2 tyX2_ok nmX2 8 (by decide) fm_X2_24 rfl hin rfl (x := .ref (z + 14)) rfl rfl (Nat.le_of_ble_eq_true rfl) dX2_init_44 (fun H locs hW hS => ?_)
  refine a_vret (pc := 47) C hW hS dX2_init_47 rfl rfl rfl (fun q hq a H => ?_)
  have hc : q < 9 ∨ q = 9 ∨ q = 10 ∨ q = 11 ∨ q = 12 ∨ q = 13 ∨ q = 14 := by omega
  rcases hc with hc | rfl | rfl | rfl | rfl | rfl | rfl
  · have e1 : mixE ac z 9 w q = w q := if_pos hc
    rw [e1]
    intro h
    simp (disch := omega) only [va_up_ne] at h
    exact h
  · exact id
  · refine at_ints (cA := ac 0) (N := 160) ?_ a H
    decide +kernel
  · refine at_ints (cA := ac 0) (N := 161) ?_ a H
    decide +kernel
  · refine at_ints (cA := ac 0) (N := 161) ?_ a H
    decide +kernel
  · refine at_ints (cA := ac 0) (N := 160) ?_ a H
    decide +kernel
  · refine at_ints (cA := ac 0) (N := 3) ?_ a H
    decide +kernel

theorem a_X3_1 {K : Nat} (hK : 2 ≤ K) (he : w 1 = .inr (3, [.null, .int 0, .null, .null])) : MA l D z ac (z, aK, aV) (Ac z) yX3_init cX3_init 1 none K 7 84 [.ref (z + 1)] 2 w none 9 (mixE ac z 1 w) := by
  refine MA.of (fun q hq => hq.1) (plainFor_of_name (by decide)) (Nat.le_of_ble_eq_true rfl) ?_
  intro p e s m below meth c args C hin hW ls hl
  replace hl : lv_has ls 1 [(0, .ref (z + 1))] := hl
  have hS : va_S (Ac z) s.heap s.heap [] := va_S.rf
  have hx := C.1.1
  have hb := C.1.2.1
  have hK1 : 1 ≤ K := by omega
  replace hW : Wg D z 2 (va_up w 1 (.inr (3, [.null, .int 0, .null, .null]))) s.heap := ⟨hW.1, fun q hq => by
    unfold va_up
    by_cases h : q = 1
    · subst h
      rw [if_pos rfl, ← he]
      exact hW.2 _ hq
    · rw [if_neg h]
      exact hW.2 _ hq⟩
  refine lv_aload_n (pc := 0) hx hb dX3_init_0 rfl (lv_at hl 0 rfl) ?_
  refine a_obj (pc := 1) C ob_X3 hl.1 (aRoom0 hK1) dX3_init_1 ?_
  refine lv_aload_n (pc := 4) hx hb dX3_init_4 rfl (lv_at hl 0 rfl) ?_
  refine lv_bipush (pc := 5) (v := 6) hx hb dX3_init_5 (by decide) ?_
  refine a_anewa (pc := 7) (n := 2) (n1 := 3) (N := 6) C hW hS 4 rfl (by decide) cl_X3_9.1 (by decide) (by decide) (by decide) rfl (Nat.le_of_ble_eq_true rfl) (Nat.le_of_ble_eq_true rfl) dX3_init_7 (fun H hW hS => ?_)
  refine a_putF (pc := 10) (k := 1) (ci := 3) C hW hS tyX3 (by decide) rfl ⟨Nat.le_add_right _ _, Nat.add_lt_add_left (by decide) _⟩ rfl lays_X3 tyX3_ok nmX3 0 (by decide) fm_X3_11 rfl hin rfl (x := .ref (z + 2)) rfl rfl (Nat.le_of_ble_eq_true rfl) dX3_init_10 (fun H locs hW hS => ?_)
  refine lv_aload_n (pc := 13) hx hb dX3_init_13 rfl (lv_at hl 0 rfl) ?_
  refine lv_bipush (pc := 14) (v := 64) hx hb dX3_init_14 (by decide) ?_
  refine a_newa (pc := 16) (n := 3) (n1 := 4) (N := 64) C hW hS ai_tb (by decide) (by decide) (by decide) rfl (Nat.le_of_ble_eq_true rfl) (Nat.le_of_ble_eq_true rfl) dX3_init_16 (fun H hW hS => ?_)
  refine a_putF (pc := 18) (k := 1) (ci := 3) C hW hS tyX3 (by decide) rfl ⟨Nat.le_add_right _ _, Nat.add_lt_add_left (by decide) _⟩ rfl lays_X3 tyX3_ok nmX3 2 (by decide) fm_X3_17 rfl hin rfl (x := .ref (z + 3)) rfl rfl (Nat.le_of_ble_eq_true rfl) dX3_init_18 (fun H locs hW hS => ?_)
  refine lv_aload_n (pc := 21) hx hb dX3_init_21 rfl (lv_at hl 0 rfl) ?_
  refine lv_bipush (pc := 22) (v := 6) hx hb dX3_init_22 (by decide) ?_
  refine a_newa (pc := 24) (n := 4) (n1 := 5) (N := 6) C hW hS ai_tb (by decide) (by decide) (by decide) rfl (Nat.le_of_ble_eq_true rfl) (Nat.le_of_ble_eq_true rfl) dX3_init_24 (fun H hW hS => ?_)
  refine a_putF (pc := 26) (k := 1) (ci := 3) C hW hS tyX3 (by decide) rfl ⟨Nat.le_add_right _ _, Nat.add_lt_add_left (by decide) _⟩ rfl lays_X3 tyX3_ok nmX3 3 (by decide) fm_X3_21 rfl hin rfl (x := .ref (z + 4)) rfl rfl (Nat.le_of_ble_eq_true rfl) dX3_init_26 (fun H locs hW hS => ?_)
  refine lv_aload_n (pc := 29) hx hb dX3_init_29 rfl (lv_at hl 0 rfl) ?_
  refine a_get (pc := 30) (k := 1) (ci := 3) C hW (by decide) rfl rfl lays_X3 0 (by decide) fm_X3_11 (x := .ref (z + 2)) rfl dX3_init_30 ?_
  refine lv_iconst (pc := 33) (v := 0) hx hb dX3_init_33 (by decide) ?_
  refine a_new (pc := 34) (ci := 5) (n := 5) (n1 := 6) C hW hS tyX5 rfl lays_X5 tyX5_ok [.null, .null, .null] (fun j hj => by match j, hj with | 0, _ => rfl | 1, _ => rfl | 2, _ => rfl) cl_X3_9 rfl (Nat.le_of_ble_eq_true rfl) (Nat.le_of_ble_eq_true rfl) dX3_init_34 (fun H hW hS => ?_)
  refine lv_dup (pc := 37) hx hb dX3_init_37 rfl ?_
  refine lv_iconst (pc := 38) (v := 3) hx hb dX3_init_38 (by decide) ?_
  refine a_newa (pc := 39) (n := 6) (n1 := 7) (N := 3) C hW hS ai_tb (by decide) (by decide) (by decide) rfl (Nat.le_of_ble_eq_true rfl) (Nat.le_of_ble_eq_true rfl) dX3_init_39 (fun H hW hS => ?_)
  refine lv_dup (pc := 41) hx hb dX3_init_41 rfl ?_
  refine lv_iconst (pc := 42) (v := 0) hx hb dX3_init_42 (by decide) ?_
  refine lv_iconst (pc := 43) (v := 4) hx hb dX3_init_43 (by decide) ?_
  refine a_iast (pc := 44) (k := 6) (i := 0) (j := 0) C hW hS (by decide) rfl ⟨Nat.le_add_right _ _, Nat.add_lt_add_left (by decide) _⟩ (by decide) (inb_in (by decide)) dX3_init_44 (fun H locs hW hS => ?_)
  refine lv_dup (pc := 45) hx hb dX3_init_45 rfl ?_
  refine lv_iconst (pc := 46) (v := 1) hx hb dX3_init_46 (by decide) ?_
  refine lv_bipush (pc := 47) (v := -2) hx hb dX3_init_47 (by decide) ?_
  refine a_iast (pc := 49) (k := 6) (i := 1) (j := 1) C hW hS (by decide) rfl ⟨Nat.le_add_right _ _, Nat.add_lt_add_left (by decide) _⟩ (by decide) (inb_in (by decide)) dX3_init_49 (fun H locs hW hS => ?_)
  refine lv_dup (pc := 50) hx hb dX3_init_50 rfl ?_
  refine lv_iconst (pc := 51) (v := 2) hx hb dX3_init_51 (by decide) ?_
  refine lv_bipush (pc := 52) (v := -14) hx hb dX3_init_52 (by decide) ?_
  refine a_iast (pc := 54) (k := 6) (i := 2) (j := 2) C hW hS (by decide) rfl ⟨Nat.le_add_right _ _, Nat.add_lt_add_left (by decide) _⟩ (by decide) (inb_in (by decide)) dX3_init_54 (fun H locs hW hS => ?_)
  refine lv_iconst (pc := 55) (v := 1) hx hb dX3_init_55 (by decide) ?_
  refine a_newa (pc := 56) (n := 7) (n1 := 8) (N := 1) C hW hS ai_tb (by decide) (by decide) (by decide) rfl (Nat.le_of_ble_eq_true rfl) (Nat.le_of_ble_eq_true rfl) dX3_init_56 (fun H hW hS => ?_)
  refine lv_dup (pc := 58) hx hb dX3_init_58 rfl ?_
  refine lv_iconst (pc := 59) (v := 0) hx hb dX3_init_59 (by decide) ?_
  refine lv_iconst (pc := 60) (v := 2) hx hb dX3_init_60 (by decide) ?_
  refine a_iast (pc := 61) (k := 7) (i := 0) (j := 0) C hW hS (by decide) rfl ⟨Nat.le_add_right _ _, Nat.add_lt_add_left (by decide) _⟩ (by decide) (inb_in (by decide)) dX3_init_61 (fun H locs hW hS => ?_)
  refine lv_iconst (pc := 62) (v := 1) hx hb dX3_init_62 (by decide) ?_
  refine a_newa (pc := 63) (n := 8) (n1 := 9) (N := 1) C hW hS ai_tb (by decide) (by decide) (by decide) rfl (Nat.le_of_ble_eq_true rfl) (Nat.le_of_ble_eq_true rfl) dX3_init_63 (fun H hW hS => ?_)
  refine lv_dup (pc := 65) hx hb dX3_init_65 rfl ?_
  refine lv_iconst (pc := 66) (v := 0) hx hb dX3_init_66 (by decide) ?_
  refine lv_bipush (pc := 67) (v := 10) hx hb dX3_init_67 (by decide) ?_
  refine a_iast (pc := 69) (k := 8) (i := 0) (j := 0) C hW hS (by decide) rfl ⟨Nat.le_add_right _ _, Nat.add_lt_add_left (by decide) _⟩ (by decide) (inb_in (by decide)) dX3_init_69 (fun H locs hW hS => ?_)
  refine a_call (pc := 70) (k := 5) (rest := [.ref (z + 5), .int 0, .ref (z + 2)]) C hW hS (a_X5 (K := K - 1) (by omega) (k := 5) (fun q hq => hq.1) (by decide) ⟨Nat.le_add_right _ _, Nat.add_lt_add_left (by decide) _⟩ rfl) mi_X3_24 (aRoom (by omega) (by decide) (Nat.le_of_ble_eq_true rfl) (Nat.le_of_ble_eq_true rfl)) rfl rfl (Nat.le_of_ble_eq_true rfl) hl.1 dX3_init_70 (fun H locs hW hS => ?_)
  refine a_aast (pc := 73) (k := 2) (q0 := 5) (ci := 5) (i := 0) (j := 0) C hW hS 4 (by decide) rfl ⟨Nat.le_add_right _ _, Nat.add_lt_add_left (by decide) _⟩ rfl (by decide) rfl rfl (by decide) (inb_in (by decide)) dX3_init_73 (fun H locs hW hS => ?_)
  refine lv_aload_n (pc := 74) hx hb dX3_init_74 rfl (lv_at hl 0 rfl) ?_
  refine lv_iconst (pc := 75) (v := 1) hx hb dX3_init_75 (by decide) ?_
  refine a_put (pc := 76) (k := 1) (ci := 3) C hW hS tyX3 (by decide) rfl ⟨Nat.le_add_right _ _, Nat.add_lt_add_left (by decide) _⟩ rfl lays_X3 tyX3_ok nmX3 1 (by decide) fm_X3_27 rfl (x := .int 1) rfl rfl (Nat.le_of_ble_eq_true rfl) dX3_init_76 (fun H locs hW hS => ?_)
  refine a_vret (pc := 79) C hW hS dX3_init_79 rfl rfl rfl (fun q hq a H => ?_)
  have hc : q < 1 ∨ q = 1 ∨ q = 2 ∨ q = 3 ∨ q = 4 ∨ q = 5 ∨ q = 6 ∨ q = 7 ∨ q = 8 := by omega
  rcases hc with hc | rfl | rfl | rfl | rfl | rfl | rfl | rfl | rfl
  · have e1 : mixE ac z 1 w q = w q := if_pos hc
    rw [e1]
    intro h
    simp (disch := omega) only [va_up_ne] at h
    exact h
  · exact id
  · refine at_refs (cA := ac 4) (N := 6) ?_ a H
    intro i hi
    have hi2 : i = 0 ∨ i = 1 ∨ i = 2 ∨ i = 3 ∨ i = 4 ∨ i = 5 := by omega
    rcases hi2 with rfl | rfl | rfl | rfl | rfl | rfl <;> rfl
  · refine at_ints (cA := ac 0) (N := 64) ?_ a H
    decide +kernel
  · refine at_ints (cA := ac 0) (N := 6) ?_ a H
    decide +kernel
  · exact id
  · refine at_ints (cA := ac 0) (N := 3) ?_ a H
    decide +kernel
  · refine at_ints (cA := ac 0) (N := 1) ?_ a H
    decide +kernel
  · refine at_ints (cA := ac 0) (N := 1) ?_ a H
    decide +kernel

theorem a_X4_67 {K : Nat} (hK : 2 ≤ K) (he : w 67 = .inr (4, [.null, .int 0, .int 0])) : MA l D z ac (z, aK, aV) (Ac z) yX4_init cX4_init 1 none K 1 40 [.ref (z + 67)] 68 w none 69 (mixE ac z 67 w) := by
  refine MA.of (fun q hq => hq.1) (plainFor_of_name (by decide)) (Nat.le_of_ble_eq_true rfl) ?_
  intro p e s m below meth c args C hin hW ls hl
  replace hl : lv_has ls 1 [(0, .ref (z + 67))] := hl
  have hS : va_S (Ac z) s.heap s.heap [] := va_S.rf
  have hx := C.1.1
  have hb := C.1.2.1
  have hK1 : 1 ≤ K := by omega
  replace hW : Wg D z 68 (va_up w 67 (.inr (4, [.null, .int 0, .int 0]))) s.heap := ⟨hW.1, fun q hq => by
    unfold va_up
    by_cases h : q = 67
    · subst h
      rw [if_pos rfl, ← he]
      exact hW.2 _ hq
    · rw [if_neg h]
      exact hW.2 _ hq⟩
  refine lv_aload_n (pc := 0) hx hb dX4_init_0 rfl (lv_at hl 0 rfl) ?_
  refine a_obj (pc := 1) C ob_X4 hl.1 (aRoom0 hK1) dX4_init_1 ?_
  refine lv_aload_n (pc := 4) hx hb dX4_init_4 rfl (lv_at hl 0 rfl) ?_
  refine lv_bipush (pc := 5) (v := 40) hx hb dX4_init_5 (by decide) ?_
  refine a_newa (pc := 7) (n := 68) (n1 := 69) (N := 40) C hW hS ai_tb (by decide) (by decide) (by decide) rfl (Nat.le_of_ble_eq_true rfl) (Nat.le_of_ble_eq_true rfl) dX4_init_7 (fun H hW hS => ?_)
  refine a_putF (pc := 9) (k := 67) (ci := 4) C hW hS tyX4 (by decide) rfl ⟨Nat.le_add_right _ _, Nat.add_lt_add_left (by decide) _⟩ rfl lays_X4 tyX4_ok nmX4 0 (by decide) fm_X4_9 rfl hin rfl (x := .ref (z + 68)) rfl rfl (Nat.le_of_ble_eq_true rfl) dX4_init_9 (fun H locs hW hS => ?_)
  refine lv_aload_n (pc := 12) hx hb dX4_init_12 rfl (lv_at hl 0 rfl) ?_
  refine lv_iconst (pc := 13) (v := -1) hx hb dX4_init_13 (by decide) ?_
  refine a_put (pc := 14) (k := 67) (ci := 4) C hW hS tyX4 (by decide) rfl ⟨Nat.le_add_right _ _, Nat.add_lt_add_left (by decide) _⟩ rfl lays_X4 tyX4_ok nmX4 1 (by decide) fm_X4_15 rfl (x := .int (-1)) rfl rfl (Nat.le_of_ble_eq_true rfl) dX4_init_14 (fun H locs hW hS => ?_)
  refine a_vret (pc := 17) C hW hS dX4_init_17 rfl rfl rfl (fun q hq a H => ?_)
  have hc : q < 67 ∨ q = 67 ∨ q = 68 := by omega
  rcases hc with hc | rfl | rfl
  · have e1 : mixE ac z 67 w q = w q := if_pos hc
    rw [e1]
    intro h
    simp (disch := omega) only [va_up_ne] at h
    exact h
  · exact id
  · refine at_ints (cA := ac 0) (N := 40) ?_ a H
    decide +kernel

theorem a_X4_69 {K : Nat} (hK : 2 ≤ K) (he : w 69 = .inr (4, [.null, .int 0, .int 0])) : MA l D z ac (z, aK, aV) (Ac z) yX4_init cX4_init 1 none K 1 40 [.ref (z + 69)] 70 w none 71 (mixE ac z 69 w) := by
  refine MA.of (fun q hq => hq.1) (plainFor_of_name (by decide)) (Nat.le_of_ble_eq_true rfl) ?_
  intro p e s m below meth c args C hin hW ls hl
  replace hl : lv_has ls 1 [(0, .ref (z + 69))] := hl
  have hS : va_S (Ac z) s.heap s.heap [] := va_S.rf
  have hx := C.1.1
  have hb := C.1.2.1
  have hK1 : 1 ≤ K := by omega
  replace hW : Wg D z 70 (va_up w 69 (.inr (4, [.null, .int 0, .int 0]))) s.heap := ⟨hW.1, fun q hq => by
    unfold va_up
    by_cases h : q = 69
    · subst h
      rw [if_pos rfl, ← he]
      exact hW.2 _ hq
    · rw [if_neg h]
      exact hW.2 _ hq⟩
  refine lv_aload_n (pc := 0) hx hb dX4_init_0 rfl (lv_at hl 0 rfl) ?_
  refine a_obj (pc := 1) C ob_X4 hl.1 (aRoom0 hK1) dX4_init_1 ?_
  refine lv_aload_n (pc := 4) hx hb dX4_init_4 rfl (lv_at hl 0 rfl) ?_
  refine lv_bipush (pc := 5) (v := 40) hx hb dX4_init_5 (by decide) ?_
  refine a_newa (pc := 7) (n := 70) (n1 := 71) (N := 40) C hW hS ai_tb (by decide) (by decide) (by decide) rfl (Nat.le_of_ble_eq_true rfl) (Nat.le_of_ble_eq_true rfl) dX4_init_7 (fun H hW hS => ?_)
  refine a_putF (pc := 9) (k := 69) (ci := 4) C hW hS tyX4 (by decide) rfl ⟨Nat.le_add_right _ _, Nat.add_lt_add_left (by decide) _⟩ rfl lays_X4 tyX4_ok nmX4 0 (by decide) fm_X4_9 rfl hin rfl (x := .ref (z + 70)) rfl rfl (Nat.le_of_ble_eq_true rfl) dX4_init_9 (fun H locs hW hS => ?_)
  refine lv_aload_n (pc := 12) hx hb dX4_init_12 rfl (lv_at hl 0 rfl) ?_
  refine lv_iconst (pc := 13) (v := -1) hx hb dX4_init_13 (by decide) ?_
  refine a_put (pc := 14) (k := 69) (ci := 4) C hW hS tyX4 (by decide) rfl ⟨Nat.le_add_right _ _, Nat.add_lt_add_left (by decide) _⟩ rfl lays_X4 tyX4_ok nmX4 1 (by decide) fm_X4_15 rfl (x := .int (-1)) rfl rfl (Nat.le_of_ble_eq_true rfl) dX4_init_14 (fun H locs hW hS => ?_)
  refine a_vret (pc := 17) C hW hS dX4_init_17 rfl rfl rfl (fun q hq a H => ?_)
  have hc : q < 69 ∨ q = 69 ∨ q = 70 := by omega
  rcases hc with hc | rfl | rfl
  · have e1 : mixE ac z 69 w q = w q := if_pos hc
    rw [e1]
    intro h
    simp (disch := omega) only [va_up_ne] at h
    exact h
  · exact id
  · refine at_ints (cA := ac 0) (N := 40) ?_ a H
    decide +kernel

theorem a_X4_71 {K : Nat} (hK : 2 ≤ K) (he : w 71 = .inr (4, [.null, .int 0, .int 0])) : MA l D z ac (z, aK, aV) (Ac z) yX4_init cX4_init 1 none K 1 40 [.ref (z + 71)] 72 w none 73 (mixE ac z 71 w) := by
  refine MA.of (fun q hq => hq.1) (plainFor_of_name (by decide)) (Nat.le_of_ble_eq_true rfl) ?_
  intro p e s m below meth c args C hin hW ls hl
  replace hl : lv_has ls 1 [(0, .ref (z + 71))] := hl
  have hS : va_S (Ac z) s.heap s.heap [] := va_S.rf
  have hx := C.1.1
  have hb := C.1.2.1
  have hK1 : 1 ≤ K := by omega
  replace hW : Wg D z 72 (va_up w 71 (.inr (4, [.null, .int 0, .int 0]))) s.heap := ⟨hW.1, fun q hq => by
    unfold va_up
    by_cases h : q = 71
    · subst h
      rw [if_pos rfl, ← he]
      exact hW.2 _ hq
    · rw [if_neg h]
      exact hW.2 _ hq⟩
  refine lv_aload_n (pc := 0) hx hb dX4_init_0 rfl (lv_at hl 0 rfl) ?_
  refine a_obj (pc := 1) C ob_X4 hl.1 (aRoom0 hK1) dX4_init_1 ?_
  refine lv_aload_n (pc := 4) hx hb dX4_init_4 rfl (lv_at hl 0 rfl) ?_
  refine lv_bipush (pc := 5) (v := 40) hx hb dX4_init_5 (by decide) ?_
  refine a_newa (pc := 7) (n := 72) (n1 := 73) (N := 40) C hW hS ai_tb (by decide) (by decide) (by decide) rfl (Nat.le_of_ble_eq_true rfl) (Nat.le_of_ble_eq_true rfl) dX4_init_7 (fun H hW hS => ?_)
  refine a_putF (pc := 9) (k := 71) (ci := 4) C hW hS tyX4 (by decide) rfl ⟨Nat.le_add_right _ _, Nat.add_lt_add_left (by decide) _⟩ rfl lays_X4 tyX4_ok nmX4 0 (by decide) fm_X4_9 rfl hin rfl (x := .ref (z + 72)) rfl rfl (Nat.le_of_ble_eq_true rfl) dX4_init_9 (fun H locs hW hS => ?_)
  refine lv_aload_n (pc := 12) hx hb dX4_init_12 rfl (lv_at hl 0 rfl) ?_
  refine lv_iconst (pc := 13) (v := -1) hx hb dX4_init_13 (by decide) ?_
  refine a_put (pc := 14) (k := 71) (ci := 4) C hW hS tyX4 (by decide) rfl ⟨Nat.le_add_right _ _, Nat.add_lt_add_left (by decide) _⟩ rfl lays_X4 tyX4_ok nmX4 1 (by decide) fm_X4_15 rfl (x := .int (-1)) rfl rfl (Nat.le_of_ble_eq_true rfl) dX4_init_14 (fun H locs hW hS => ?_)
  refine a_vret (pc := 17) C hW hS dX4_init_17 rfl rfl rfl (fun q hq a H => ?_)
  have hc : q < 71 ∨ q = 71 ∨ q = 72 := by omega
  rcases hc with hc | rfl | rfl
  · have e1 : mixE ac z 71 w q = w q := if_pos hc
    rw [e1]
    intro h
    simp (disch := omega) only [va_up_ne] at h
    exact h
  · exact id
  · refine at_ints (cA := ac 0) (N := 40) ?_ a H
    decide +kernel

theorem a_X4_73 {K : Nat} (hK : 2 ≤ K) (he : w 73 = .inr (4, [.null, .int 0, .int 0])) : MA l D z ac (z, aK, aV) (Ac z) yX4_init cX4_init 1 none K 1 40 [.ref (z + 73)] 74 w none 75 (mixE ac z 73 w) := by
  refine MA.of (fun q hq => hq.1) (plainFor_of_name (by decide)) (Nat.le_of_ble_eq_true rfl) ?_
  intro p e s m below meth c args C hin hW ls hl
  replace hl : lv_has ls 1 [(0, .ref (z + 73))] := hl
  have hS : va_S (Ac z) s.heap s.heap [] := va_S.rf
  have hx := C.1.1
  have hb := C.1.2.1
  have hK1 : 1 ≤ K := by omega
  replace hW : Wg D z 74 (va_up w 73 (.inr (4, [.null, .int 0, .int 0]))) s.heap := ⟨hW.1, fun q hq => by
    unfold va_up
    by_cases h : q = 73
    · subst h
      rw [if_pos rfl, ← he]
      exact hW.2 _ hq
    · rw [if_neg h]
      exact hW.2 _ hq⟩
  refine lv_aload_n (pc := 0) hx hb dX4_init_0 rfl (lv_at hl 0 rfl) ?_
  refine a_obj (pc := 1) C ob_X4 hl.1 (aRoom0 hK1) dX4_init_1 ?_
  refine lv_aload_n (pc := 4) hx hb dX4_init_4 rfl (lv_at hl 0 rfl) ?_
  refine lv_bipush (pc := 5) (v := 40) hx hb dX4_init_5 (by decide) ?_
  refine a_newa (pc := 7) (n := 74) (n1 := 75) (N := 40) C hW hS ai_tb (by decide) (by decide) (by decide) rfl (Nat.le_of_ble_eq_true rfl) (Nat.le_of_ble_eq_true rfl) dX4_init_7 (fun H hW hS => ?_)
  refine a_putF (pc := 9) (k := 73) (ci := 4) C hW hS tyX4 (by decide) rfl ⟨Nat.le_add_right _ _, Nat.add_lt_add_left (by decide) _⟩ rfl lays_X4 tyX4_ok nmX4 0 (by decide) fm_X4_9 rfl hin rfl (x := .ref (z + 74)) rfl rfl (Nat.le_of_ble_eq_true rfl) dX4_init_9 (fun H locs hW hS => ?_)
  refine lv_aload_n (pc := 12) hx hb dX4_init_12 rfl (lv_at hl 0 rfl) ?_
  refine lv_iconst (pc := 13) (v := -1) hx hb dX4_init_13 (by decide) ?_
  refine a_put (pc := 14) (k := 73) (ci := 4) C hW hS tyX4 (by decide) rfl ⟨Nat.le_add_right _ _, Nat.add_lt_add_left (by decide) _⟩ rfl lays_X4 tyX4_ok nmX4 1 (by decide) fm_X4_15 rfl (x := .int (-1)) rfl rfl (Nat.le_of_ble_eq_true rfl) dX4_init_14 (fun H locs hW hS => ?_)
  refine a_vret (pc := 17) C hW hS dX4_init_17 rfl rfl rfl (fun q hq a H => ?_)
  have hc : q < 73 ∨ q = 73 ∨ q = 74 := by omega
  rcases hc with hc | rfl | rfl
  · have e1 : mixE ac z 73 w q = w q := if_pos hc
    rw [e1]
    intro h
    simp (disch := omega) only [va_up_ne] at h
    exact h
  · exact id
  · refine at_ints (cA := ac 0) (N := 40) ?_ a H
    decide +kernel

theorem a_X6_15 {K : Nat} (hK : 2 ≤ K) (he : w 15 = .inr (6, [.null, .null, .null, .int 0, .int 0, .int 0, .int 0, .int 0, .int 0, .int 0, .int 0, .int 0])) : MA l D z ac (z, aK, aV) (Ac z) yX6_init cX6_init 3 none K 16 98 [.ref (z + 15), .ref (z + 1)] 16 w none 32 (mixE ac z 15 w) := by
  refine MA.of (fun q hq => hq.1) (plainFor_of_name (by decide)) (Nat.le_of_ble_eq_true rfl) ?_
  intro p e s m below meth c args C hin hW ls hl
  replace hl : lv_has ls 3 [(0, .ref (z + 15)), (1, .ref (z + 1))] := hl
  have hS : va_S (Ac z) s.heap s.heap [] := va_S.rf
  have hx := C.1.1
  have hb := C.1.2.1
  have hK1 : 1 ≤ K := by omega
  replace hW : Wg D z 16 (va_up w 15 (.inr (6, [.null, .null, .null, .int 0, .int 0, .int 0, .int 0, .int 0, .int 0, .int 0, .int 0, .int 0]))) s.heap := ⟨hW.1, fun q hq => by
    unfold va_up
    by_cases h : q = 15
    · subst h
      rw [if_pos rfl, ← he]
      exact hW.2 _ hq
    · rw [if_neg h]
      exact hW.2 _ hq⟩
  refine lv_aload_n (pc := 0) hx hb dX6_init_0 rfl (lv_at hl 0 rfl) ?_
  refine a_obj (pc := 1) C ob_X6 hl.1 (aRoom0 hK1) dX6_init_1 ?_
  refine lv_aload_n (pc := 4) hx hb dX6_init_4 rfl (lv_at hl 0 rfl) ?_
  refine lv_bipush (pc := 5) (v := 6) hx hb dX6_init_5 (by decide) ?_
  refine a_anewa (pc := 7) (n := 16) (n1 := 17) (N := 6) C hW hS 1 rfl (by decide) cl_X6_9.1 (by decide) (by decide) (by decide) rfl (Nat.le_of_ble_eq_true rfl) (Nat.le_of_ble_eq_true rfl) dX6_init_7 (fun H hW hS => ?_)
  refine a_putF (pc := 10) (k := 15) (ci := 6) C hW hS tyX6 (by decide) rfl ⟨Nat.le_add_right _ _, Nat.add_lt_add_left (by decide) _⟩ rfl lays_X6 tyX6_ok nmX6 1 (by decide) fm_X6_11 rfl hin rfl (x := .ref (z + 16)) rfl rfl (Nat.le_of_ble_eq_true rfl) dX6_init_10 (fun H locs hW hS => ?_)
  refine lv_aload_n (pc := 13) hx hb dX6_init_13 rfl (lv_at hl 0 rfl) ?_
  refine lv_bipush (pc := 14) (v := 8) hx hb dX6_init_14 (by decide) ?_
  refine a_anewa (pc := 16) (n := 17) (n1 := 18) (N := 8) C hW hS 2 rfl (by decide) cl_X6_17.1 (by decide) (by decide) (by decide) rfl (Nat.le_of_ble_eq_true rfl) (Nat.le_of_ble_eq_true rfl) dX6_init_16 (fun H hW hS => ?_)
  refine a_putF (pc := 19) (k := 15) (ci := 6) C hW hS tyX6 (by decide) rfl ⟨Nat.le_add_right _ _, Nat.add_lt_add_left (by decide) _⟩ rfl lays_X6 tyX6_ok nmX6 2 (by decide) fm_X6_19 rfl hin rfl (x := .ref (z + 17)) rfl rfl (Nat.le_of_ble_eq_true rfl) dX6_init_19 (fun H locs hW hS => ?_)
  refine lv_aload_n (pc := 22) hx hb dX6_init_22 rfl (lv_at hl 0 rfl) ?_
  refine lv_aload_n (pc := 23) hx hb dX6_init_23 rfl (lv_at hl 1 rfl) ?_
  refine a_putF (pc := 24) (k := 15) (ci := 6) C hW hS tyX6 (by decide) rfl ⟨Nat.le_add_right _ _, Nat.add_lt_add_left (by decide) _⟩ rfl lays_X6 tyX6_ok nmX6 0 (by decide) fm_X6_23 rfl hin rfl (x := .ref (z + 1)) rfl rfl (Nat.le_of_ble_eq_true rfl) dX6_init_24 (fun H locs hW hS => ?_)
  refine lv_iconst (pc := 27) (v := 0) hx hb dX6_init_27 (by decide) ?_
  refine lv_istore_n (pc := 28) (lv' := [(2, .int 0), (0, .ref (z + 15)), (1, .ref (z + 1))]) hx hb dX6_init_28 rfl hl (by decide) rfl (fun ls hl => ?_)
  refine lv_iload_n (pc := 29) hx hb dX6_init_29 rfl (lv_at hl 0 rfl) ?_
  refine lv_aload_n (pc := 30) hx hb dX6_init_30 rfl (lv_at hl 1 rfl) ?_
  refine a_get (pc := 31) (k := 15) (ci := 6) C hW (by decide) rfl rfl lays_X6 1 (by decide) fm_X6_11 (x := .ref (z + 16)) rfl dX6_init_31 ?_
  refine a_alen (pc := 34) (k := 16) C hW 1 (by decide) rfl rfl (v := 6) rfl dX6_init_34 ?_
  refine lv_icmp_ge (pc := 35) (tgt := 57) hx hb dX6_init_35 (by decide) (fun hc => absurd hc (by decide)) (fun _ => ?_)
  refine lv_aload_n (pc := 38) hx hb dX6_init_38 rfl (lv_at hl 1 rfl) ?_
  refine a_get (pc := 39) (k := 15) (ci := 6) C hW (by decide) rfl rfl lays_X6 1 (by decide) fm_X6_11 (x := .ref (z + 16)) rfl dX6_init_39 ?_
  refine lv_iload_n (pc := 42) hx hb dX6_init_42 rfl (lv_at hl 0 rfl) ?_
  refine a_new (pc := 43) (ci := 1) (n := 18) (n1 := 19) C hW hS tyX1 rfl lays_X1 tyX1_ok [.int 0, .int 0, .int 0, .int 0, .int 0, .int 0] (fun j hj => by match j, hj with | 0, _ => rfl | 1, _ => rfl | 2, _ => rfl | 3, _ => rfl | 4, _ => rfl | 5, _ => rfl) cl_X6_9 rfl (Nat.le_of_ble_eq_true rfl) (Nat.le_of_ble_eq_true rfl) dX6_init_43 (fun H hW hS => ?_)
  refine lv_dup (pc := 46) hx hb dX6_init_46 rfl ?_
  refine a_call (pc := 47) (k := 18) (rest := [.ref (z + 18), .int 0, .ref (z + 16)]) C hW hS (a_X1 (K := K - 1) (by omega) (fun q hq => hq.1)) mi_X6_27 (aRoom (by omega) (by decide) (Nat.le_of_ble_eq_true rfl) (Nat.le_of_ble_eq_true rfl)) rfl rfl (Nat.le_of_ble_eq_true rfl) hl.1 dX6_init_47 (fun H locs hW hS => ?_)
  refine a_aast (pc := 50) (k := 16) (q0 := 18) (ci := 1) (i := 0) (j := 0) C hW hS 1 (by decide) rfl ⟨Nat.le_add_right _ _, Nat.add_lt_add_left (by decide) _⟩ rfl (by decide) rfl rfl (by decide) (inb_in (by decide)) dX6_init_50 (fun H locs hW hS => ?_)
  refine lv_iinc (pc := 51) (v := 1) (lv' := [(2, .int 1), (0, .ref (z + 15)), (1, .ref (z + 1))]) hx hb dX6_init_51 hl (k := 0) rfl (by decide) (by decide) rfl (fun ls hl => ?_)
  refine lv_goto (pc := 54) (tgt := 29) hx hb dX6_init_54 (by decide) ?_
  refine lv_iload_n (pc := 29) hx hb dX6_init_29 rfl (lv_at hl 0 rfl) ?_
  refine lv_aload_n (pc := 30) hx hb dX6_init_30 rfl (lv_at hl 1 rfl) ?_
  refine a_get (pc := 31) (k := 15) (ci := 6) C hW (by decide) rfl rfl lays_X6 1 (by decide) fm_X6_11 (x := .ref (z + 16)) rfl dX6_init_31 ?_
  refine a_alen (pc := 34) (k := 16) C hW 1 (by decide) rfl rfl (v := 6) rfl dX6_init_34 ?_
  refine lv_icmp_ge (pc := 35) (tgt := 57) hx hb dX6_init_35 (by decide) (fun hc => absurd hc (by decide)) (fun _ => ?_)
  refine lv_aload_n (pc := 38) hx hb dX6_init_38 rfl (lv_at hl 1 rfl) ?_
  refine a_get (pc := 39) (k := 15) (ci := 6) C hW (by decide) rfl rfl lays_X6 1 (by decide) fm_X6_11 (x := .ref (z + 16)) rfl dX6_init_39 ?_
  refine lv_iload_n (pc := 42) hx hb dX6_init_42 rfl (lv_at hl 0 rfl) ?_
  refine a_new (pc := 43) (ci := 1) (n := 19) (n1 := 20) C hW hS tyX1 rfl lays_X1 tyX1_ok [.int 0, .int 0, .int 0, .int 0, .int 0, .int 0] (fun j hj => by match j, hj with | 0, _ => rfl | 1, _ => rfl | 2, _ => rfl | 3, _ => rfl | 4, _ => rfl | 5, _ => rfl) cl_X6_9 rfl (Nat.le_of_ble_eq_true rfl) (Nat.le_of_ble_eq_true rfl) dX6_init_43 (fun H hW hS => ?_)
  refine lv_dup (pc := 46) hx hb dX6_init_46 rfl ?_
  refine a_call (pc := 47) (k := 19) (rest := [.ref (z + 19), .int 1, .ref (z + 16)]) C hW hS (a_X1 (K := K - 1) (by omega) (fun q hq => hq.1)) mi_X6_27 (aRoom (by omega) (by decide) (Nat.le_of_ble_eq_true rfl) (Nat.le_of_ble_eq_true rfl)) rfl rfl (Nat.le_of_ble_eq_true rfl) hl.1 dX6_init_47 (fun H locs hW hS => ?_)
  refine a_aast (pc := 50) (k := 16) (q0 := 19) (ci := 1) (i := 1) (j := 1) C hW hS 1 (by decide) rfl ⟨Nat.le_add_right _ _, Nat.add_lt_add_left (by decide) _⟩ rfl (by decide) rfl rfl (by decide) (inb_in (by decide)) dX6_init_50 (fun H locs hW hS => ?_)
  refine lv_iinc (pc := 51) (v := 2) (lv' := [(2, .int 2), (0, .ref (z + 15)), (1, .ref (z + 1))]) hx hb dX6_init_51 hl (k := 0) rfl (by decide) (by decide) rfl (fun ls hl => ?_)
  refine lv_goto (pc := 54) (tgt := 29) hx hb dX6_init_54 (by decide) ?_
  refine lv_iload_n (pc := 29) hx hb dX6_init_29 rfl (lv_at hl 0 rfl) ?_
  refine lv_aload_n (pc := 30) hx hb dX6_init_30 rfl (lv_at hl 1 rfl) ?_
  refine a_get (pc := 31) (k := 15) (ci := 6) C hW (by decide) rfl rfl lays_X6 1 (by decide) fm_X6_11 (x := .ref (z + 16)) rfl dX6_init_31 ?_
  refine a_alen (pc := 34) (k := 16) C hW 1 (by decide) rfl rfl (v := 6) rfl dX6_init_34 ?_
  refine lv_icmp_ge (pc := 35) (tgt := 57) hx hb dX6_init_35 (by decide) (fun hc => absurd hc (by decide)) (fun _ => ?_)
  refine lv_aload_n (pc := 38) hx hb dX6_init_38 rfl (lv_at hl 1 rfl) ?_
  refine a_get (pc := 39) (k := 15) (ci := 6) C hW (by decide) rfl rfl lays_X6 1 (by decide) fm_X6_11 (x := .ref (z + 16)) rfl dX6_init_39 ?_
  refine lv_iload_n (pc := 42) hx hb dX6_init_42 rfl (lv_at hl 0 rfl) ?_
  refine a_new (pc := 43) (ci := 1) (n := 20) (n1 := 21) C hW hS tyX1 rfl lays_X1 tyX1_ok [.int 0, .int 0, .int 0, .int 0, .int 0, .int 0] (fun j hj => by match j, hj with | 0, _ => rfl | 1, _ => rfl | 2, _ => rfl | 3, _ => rfl | 4, _ => rfl | 5, _ => rfl) cl_X6_9 rfl (Nat.le_of_ble_eq_true rfl) (Nat.le_of_ble_eq_true rfl) dX6_init_43 (fun H hW hS => ?_)
  refine lv_dup (pc := 46) hx hb dX6_init_46 rfl ?_
  refine a_call (pc := 47) (k := 20) (rest := [.ref (z + 20), .int 2, .ref (z + 16)]) C hW hS (a_X1 (K := K - 1) (by omega) (fun q hq => hq.1)) mi_X6_27 (aRoom (by omega) (by decide) (Nat.le_of_ble_eq_true rfl) (Nat.le_of_ble_eq_true rfl)) rfl rfl (Nat.le_of_ble_eq_true rfl) hl.1 dX6_init_47 (fun H locs hW hS => ?_)
  refine a_aast (pc := 50) (k := 16) (q0 := 20) (ci := 1) (i := 2) (j := 2) C hW hS 1 (by decide) rfl ⟨Nat.le_add_right _ _, Nat.add_lt_add_left (by decide) _⟩ rfl (by decide) rfl rfl (by decide) (inb_in (by decide)) dX6_init_50 (fun H locs hW hS => ?_)
  refine lv_iinc (pc := 51) (v := 3) (lv' := [(2, .int 3), (0, .ref (z + 15)), (1, .ref (z + 1))]) hx hb dX6_init_51 hl (k := 0) rfl (by decide) (by decide) rfl (fun ls hl => ?_)
  refine lv_goto (pc := 54) (tgt := 29) hx hb dX6_init_54 (by decide) ?_
  refine lv_iload_n (pc := 29) hx hb dX6_init_29 rfl (lv_at hl 0 rfl) ?_
  refine lv_aload_n (pc := 30) hx hb dX6_init_30 rfl (lv_at hl 1 rfl) ?_
  refine a_get (pc := 31) (k := 15) (ci := 6) C hW (by decide) rfl rfl lays_X6 1 (by decide) fm_X6_11 (x := .ref (z + 16)) rfl dX6_init_31 ?_
  refine a_alen (pc := 34) (k := 16) C hW 1 (by decide) rfl rfl (v := 6) rfl dX6_init_34 ?_
  refine lv_icmp_ge (pc := 35) (tgt := 57) hx hb dX6_init_35 (by decide) (fun hc => absurd hc (by decide)) (fun _ => ?_)
  refine lv_aload_n (pc := 38) hx hb dX6_init_38 rfl (lv_at hl 1 rfl) ?_
  refine a_get (pc := 39) (k := 15) (ci := 6) C hW (by decide) rfl rfl lays_X6 1 (by decide) fm_X6_11 (x := .ref (z + 16)) rfl dX6_init_39 ?_
  refine lv_iload_n (pc := 42) hx hb dX6_init_42 rfl (lv_at hl 0 rfl) ?_
  refine a_new (pc := 43) (ci := 1) (n := 21) (n1 := 22) C hW hS tyX1 rfl lays_X1 tyX1_ok [.int 0, .int 0, .int 0, .int 0, .int 0, .int 0] (fun j hj => by match j, hj with | 0, _ => rfl | 1, _ => rfl | 2, _ => rfl | 3, _ => rfl | 4, _ => rfl | 5, _ => rfl) cl_X6_9 rfl (Nat.le_of_ble_eq_true rfl) (Nat.le_of_ble_eq_true rfl) dX6_init_43 (fun H hW hS => ?_)
  refine lv_dup (pc := 46) hx hb dX6_init_46 rfl ?_
  refine a_call (pc := 47) (k := 21) (rest := [.ref (z + 21), .int 3, .ref (z + 16)]) C hW hS (a_X1 (K := K - 1) (by omega) (fun q hq => hq.1)) mi_X6_27 (aRoom (by omega) (by decide) (Nat.le_of_ble_eq_true rfl) (Nat.le_of_ble_eq_true rfl)) rfl rfl (Nat.le_of_ble_eq_true rfl) hl.1 dX6_init_47 (fun H locs hW hS => ?_)
  refine a_aast (pc := 50) (k := 16) (q0 := 21) (ci := 1) (i := 3) (j := 3) C hW hS 1 (by decide) rfl ⟨Nat.le_add_right _ _, Nat.add_lt_add_left (by decide) _⟩ rfl (by decide) rfl rfl (by decide) (inb_in (by decide)) dX6_init_50 (fun H locs hW hS => ?_)
  refine lv_iinc (pc := 51) (v := 4) (lv' := [(2, .int 4), (0, .ref (z + 15)), (1, .ref (z + 1))]) hx hb dX6_init_51 hl (k := 0) rfl (by decide) (by decide) rfl (fun ls hl => ?_)
  refine lv_goto (pc := 54) (tgt := 29) hx hb dX6_init_54 (by decide) ?_
  refine lv_iload_n (pc := 29) hx hb dX6_init_29 rfl (lv_at hl 0 rfl) ?_
  refine lv_aload_n (pc := 30) hx hb dX6_init_30 rfl (lv_at hl 1 rfl) ?_
  refine a_get (pc := 31) (k := 15) (ci := 6) C hW (by decide) rfl rfl lays_X6 1 (by decide) fm_X6_11 (x := .ref (z + 16)) rfl dX6_init_31 ?_
  refine a_alen (pc := 34) (k := 16) C hW 1 (by decide) rfl rfl (v := 6) rfl dX6_init_34 ?_
  refine lv_icmp_ge (pc := 35) (tgt := 57) hx hb dX6_init_35 (by decide) (fun hc => absurd hc (by decide)) (fun _ => ?_)
  refine lv_aload_n (pc := 38) hx hb dX6_init_38 rfl (lv_at hl 1 rfl) ?_
  refine a_get (pc := 39) (k := 15) (ci := 6) C hW (by decide) rfl rfl lays_X6 1 (by decide) fm_X6_11 (x := .ref (z + 16)) rfl dX6_init_39 ?_
  refine lv_iload_n (pc := 42) hx hb dX6_init_42 rfl (lv_at hl 0 rfl) ?_
  refine a_new (pc := 43) (ci := 1) (n := 22) (n1 := 23) C hW hS tyX1 rfl lays_X1 tyX1_ok [.int 0, .int 0, .int 0, .int 0, .int 0, .int 0] (fun j hj => by match j, hj with | 0, _ => rfl | 1, _ => rfl | 2, _ => rfl | 3, _ => rfl | 4, _ => rfl | 5, _ => rfl) cl_X6_9 rfl (Nat.le_of_ble_eq_true rfl) (Nat.le_of_ble_eq_true rfl) dX6_init_43 (fun H hW hS => ?_)
  refine lv_dup (pc := 46) hx hb dX6_init_46 rfl ?_
  refine a_call (pc := 47) (k := 22) (rest := [.ref (z + 22), .int 4, .ref (z + 16)]) C hW hS (a_X1 (K := K - 1) (by omega) (fun q hq => hq.1)) mi_X6_27 (aRoom (by omega) (by decide) (Nat.le_of_ble_eq_true rfl) (Nat.le_of_ble_eq_true rfl)) rfl rfl (Nat.le_of_ble_eq_true rfl) hl.1 dX6_init_47 (fun H locs hW hS => ?_)
  refine a_aast (pc := 50) (k := 16) (q0 := 22) (ci := 1) (i := 4) (j := 4) C hW hS 1 (by decide) rfl ⟨Nat.le_add_right _ _, Nat.add_lt_add_left (by decide) _⟩ rfl (by decide) rfl rfl (by decide) (inb_in (by decide)) dX6_init_50 (fun H locs hW hS => ?_)
  refine lv_iinc (pc := 51) (v := 5) (lv' := [(2, .int 5), (0, .ref (z + 15)), (1, .ref (z + 1))]) hx hb dX6_init_51 hl (k := 0) rfl (by decide) (by decide) rfl (fun ls hl => ?_)
  refine lv_goto (pc := 54) (tgt := 29) hx hb dX6_init_54 (by decide) ?_
  refine lv_iload_n (pc := 29) hx hb dX6_init_29 rfl (lv_at hl 0 rfl) ?_
  refine lv_aload_n (pc := 30) hx hb dX6_init_30 rfl (lv_at hl 1 rfl) ?_
  refine a_get (pc := 31) (k := 15) (ci := 6) C hW (by decide) rfl rfl lays_X6 1 (by decide) fm_X6_11 (x := .ref (z + 16)) rfl dX6_init_31 ?_
  refine a_alen (pc := 34) (k := 16) C hW 1 (by decide) rfl rfl (v := 6) rfl dX6_init_34 ?_
  refine lv_icmp_ge (pc := 35) (tgt := 57) hx hb dX6_init_35 (by decide) (fun hc => absurd hc (by decide)) (fun _ => ?_)
  refine lv_aload_n (pc := 38) hx hb dX6_init_38 rfl (lv_at hl 1 rfl) ?_
  refine a_get (pc := 39) (k := 15) (ci := 6) C hW (by decide) rfl rfl lays_X6 1 (by decide) fm_X6_11 (x := .ref (z + 16)) rfl dX6_init_39 ?_
  refine lv_iload_n (pc := 42) hx hb dX6_init_42 rfl (lv_at hl 0 rfl) ?_
  refine a_new (pc := 43) (ci := 1) (n := 23) (n1 := 24) C hW hS tyX1 rfl lays_X1 tyX1_ok [.int 0, .int 0, .int 0, .int 0, .int 0, .int 0] (fun j hj => by match j, hj with | 0, _ => rfl | 1, _ => rfl | 2, _ => rfl | 3, _ => rfl | 4, _ => rfl | 5, _ => rfl) cl_X6_9 rfl (Nat.le_of_ble_eq_true rfl) (Nat.le_of_ble_eq_true rfl) dX6_init_43 (fun H hW hS => ?_)
  refine lv_dup (pc := 46) hx hb dX6_init_46 rfl ?_
  refine a_call (pc := 47) (k := 23) (rest := [.ref (z + 23), .int 5, .ref (z + 16)]) C hW hS (a_X1 (K := K - 1) (by omega) (fun q hq => hq.1)) mi_X6_27 (aRoom (by omega) (by decide) (Nat.le_of_ble_eq_true rfl) (Nat.le_of_ble_eq_true rfl)) rfl rfl (Nat.le_of_ble_eq_true rfl) hl.1 dX6_init_47 (fun H locs hW hS => ?_)
  refine a_aast (pc := 50) (k := 16) (q0 := 23) (ci := 1) (i := 5) (j := 5) C hW hS 1 (by decide) rfl ⟨Nat.le_add_right _ _, Nat.add_lt_add_left (by decide) _⟩ rfl (by decide) rfl rfl (by decide) (inb_in (by decide)) dX6_init_50 (fun H locs hW hS => ?_)
  refine lv_iinc (pc := 51) (v := 6) (lv' := [(2, .int 6), (0, .ref (z + 15)), (1, .ref (z + 1))]) hx hb dX6_init_51 hl (k := 0) rfl (by decide) (by decide) rfl (fun ls hl => ?_)
  refine lv_goto (pc := 54) (tgt := 29) hx hb dX6_init_54 (by decide) ?_
  refine lv_iload_n (pc := 29) hx hb dX6_init_29 rfl (lv_at hl 0 rfl) ?_
  refine lv_aload_n (pc := 30) hx hb dX6_init_30 rfl (lv_at hl 1 rfl) ?_
  refine a_get (pc := 31) (k := 15) (ci := 6) C hW (by decide) rfl rfl lays_X6 1 (by decide) fm_X6_11 (x := .ref (z + 16)) rfl dX6_init_31 ?_
  refine a_alen (pc := 34) (k := 16) C hW 1 (by decide) rfl rfl (v := 6) rfl dX6_init_34 ?_
  refine lv_icmp_ge (pc := 35) (tgt := 57) hx hb dX6_init_35 (by decide) (fun _ => ?_) (fun hc => absurd (by decide) hc)
  refine lv_iconst (pc := 57) (v := 0) hx hb dX6_init_57 (by decide) ?_
  refine lv_istore_n (pc := 58) (lv' := [(2, .int 0), (0, .ref (z + 15)), (1, .ref (z + 1))]) hx hb dX6_init_58 rfl hl (by decide) rfl (fun ls hl => ?_)
  refine lv_iload_n (pc := 59) hx hb dX6_init_59 rfl (lv_at hl 0 rfl) ?_
  refine lv_aload_n (pc := 60) hx hb dX6_init_60 rfl (lv_at hl 1 rfl) ?_
  refine a_get (pc := 61) (k := 15) (ci := 6) C hW (by decide) rfl rfl lays_X6 2 (by decide) fm_X6_19 (x := .ref (z + 17)) rfl dX6_init_61 ?_
  refine a_alen (pc := 64) (k := 17) C hW 2 (by decide) rfl rfl (v := 8) rfl dX6_init_64 ?_
  refine lv_icmp_ge (pc := 65) (tgt := 87) hx hb dX6_init_65 (by decide) (fun hc => absurd hc (by decide)) (fun _ => ?_)
  refine lv_aload_n (pc := 68) hx hb dX6_init_68 rfl (lv_at hl 1 rfl) ?_
  refine a_get (pc := 69) (k := 15) (ci := 6) C hW (by decide) rfl rfl lays_X6 2 (by decide) fm_X6_19 (x := .ref (z + 17)) rfl dX6_init_69 ?_
  refine lv_iload_n (pc := 72) hx hb dX6_init_72 rfl (lv_at hl 0 rfl) ?_
  refine a_new (pc := 73) (ci := 7) (n := 24) (n1 := 25) C hW hS tyX7 rfl lays_X7 tyX7_ok [.int 0, .int 0, .int 0, .int 0, .int 0, .int 0] (fun j hj => by match j, hj with | 0, _ => rfl | 1, _ => rfl | 2, _ => rfl | 3, _ => rfl | 4, _ => rfl | 5, _ => rfl) cl_X6_17 rfl (Nat.le_of_ble_eq_true rfl) (Nat.le_of_ble_eq_true rfl) dX6_init_73 (fun H hW hS => ?_)
  refine lv_dup (pc := 76) hx hb dX6_init_76 rfl ?_
  refine a_call (pc := 77) (k := 24) (rest := [.ref (z + 24), .int 0, .ref (z + 17)]) C hW hS (a_X7 (K := K - 1) (by omega) (k := 24) (fun q hq => hq.1) (by decide) ⟨Nat.le_add_right _ _, Nat.add_lt_add_left (by decide) _⟩ rfl) mi_X6_28 (aRoom (by omega) (by decide) (Nat.le_of_ble_eq_true rfl) (Nat.le_of_ble_eq_true rfl)) rfl rfl (Nat.le_of_ble_eq_true rfl) hl.1 dX6_init_77 (fun H locs hW hS => ?_)
  refine a_aast (pc := 80) (k := 17) (q0 := 24) (ci := 7) (i := 0) (j := 0) C hW hS 2 (by decide) rfl ⟨Nat.le_add_right _ _, Nat.add_lt_add_left (by decide) _⟩ rfl (by decide) rfl rfl (by decide) (inb_in (by decide)) dX6_init_80 (fun H locs hW hS => ?_)
  refine lv_iinc (pc := 81) (v := 1) (lv' := [(2, .int 1), (0, .ref (z + 15)), (1, .ref (z + 1))]) hx hb dX6_init_81 hl (k := 0) rfl (by decide) (by decide) rfl (fun ls hl => ?_)
  refine lv_goto (pc := 84) (tgt := 59) hx hb dX6_init_84 (by decide) ?_
  refine lv_iload_n (pc := 59) hx hb dX6_init_59 rfl (lv_at hl 0 rfl) ?_
  refine lv_aload_n (pc := 60) hx hb dX6_init_60 rfl (lv_at hl 1 rfl) ?_
  refine a_get (pc := 61) (k := 15) (ci := 6) C hW (by decide) rfl rfl lays_X6 2 (by decide) fm_X6_19 (x := .ref (z + 17)) rfl dX6_init_61 ?_
  refine a_alen (pc := 64) (k := 17) C hW 2 (by decide) rfl rfl (v := 8) rfl dX6_init_64 ?_
  refine lv_icmp_ge (pc := 65) (tgt := 87) hx hb dX6_init_65 (by decide) (fun hc => absurd hc (by decide)) (fun _ => ?_)
  refine lv_aload_n (pc := 68) hx hb dX6_init_68 rfl (lv_at hl 1 rfl) ?_
  refine a_get (pc := 69) (k := 15) (ci := 6) C hW (by decide) rfl rfl lays_X6 2 (by decide) fm_X6_19 (x := .ref (z + 17)) rfl dX6_init_69 ?_
  refine lv_iload_n (pc := 72) hx hb dX6_init_72 rfl (lv_at hl 0 rfl) ?_
  refine a_new (pc := 73) (ci := 7) (n := 25) (n1 := 26) C hW hS tyX7 rfl lays_X7 tyX7_ok [.int 0, .int 0, .int 0, .int 0, .int 0, .int 0] (fun j hj => by match j, hj with | 0, _ => rfl | 1, _ => rfl | 2, _ => rfl | 3, _ => rfl | 4, _ => rfl | 5, _ => rfl) cl_X6_17 rfl (Nat.le_of_ble_eq_true rfl) (Nat.le_of_ble_eq_true rfl) dX6_init_73 (fun H hW hS => ?_)
  refine lv_dup (pc := 76) hx hb dX6_init_76 rfl ?_
  refine a_call (pc := 77) (k := 25) (rest := [.ref (z + 25), .int 1, .ref (z + 17)]) C hW hS (a_X7 (K := K - 1) (by omega) (k := 25) (fun q hq => hq.1) (by decide) ⟨Nat.le_add_right _ _, Nat.add_lt_add_left (by decide) _⟩ rfl) mi_X6_28 (aRoom (by omega) (by decide) (Nat.le_of_ble_eq_true rfl) (Nat.le_of_ble_eq_true rfl)) rfl rfl (Nat.le_of_ble_eq_true rfl) hl.1 dX6_init_77 (fun H locs hW hS => ?_)
  refine a_aast (pc := 80) (k := 17) (q0 := 25) (ci := 7) (i := 1) (j := 1) C hW hS 2 (by decide) rfl ⟨Nat.le_add_right _ _, Nat.add_lt_add_left (by decide) _⟩ rfl (by decide) rfl rfl (by decide) (inb_in (by decide)) dX6_init_80 (fun H locs hW hS => ?_)
  refine lv_iinc (pc := 81) (v := 2) (lv' := [(2, .int 2), (0, .ref (z + 15)), (1, .ref (z + 1))]) hx hb dX6_init_81 hl (k := 0) rfl (by decide) (by decide) rfl (fun ls hl => ?_)
  refine lv_goto (pc := 84) (tgt := 59) hx hb dX6_init_84 (by decide) ?_
  refine lv_iload_n (pc := 59) hx hb dX6_init_59 rfl (lv_at hl 0 rfl) ?_
  refine lv_aload_n (pc := 60) hx hb dX6_init_60 rfl (lv_at hl 1 rfl) ?_
  refine a_get (pc := 61) (k := 15) (ci := 6) C hW (by decide) rfl rfl lays_X6 2 (by decide) fm_X6_19 (x := .ref (z + 17)) rfl dX6_init_61 ?_
  refine a_alen (pc := 64) (k := 17) C hW 2 (by decide) rfl rfl (v := 8) rfl dX6_init_64 ?_
  refine lv_icmp_ge (pc := 65) (tgt := 87) hx hb dX6_init_65 (by decide) (fun hc => absurd hc (by decide)) (fun _ => ?_)
  refine lv_aload_n (pc := 68) hx hb dX6_init_68 rfl (lv_at hl 1 rfl) ?_
  refine a_get (pc := 69) (k := 15) (ci := 6) C hW (by decide) rfl rfl lays_X6 2 (by decide) fm_X6_19 (x := .ref (z + 17)) rfl dX6_init_69 ?_
  refine lv_iload_n (pc := 72) hx hb dX6_init_72 rfl (lv_at hl 0 rfl) ?_
  refine a_new (pc := 73) (ci := 7) (n := 26) (n1 := 27) C hW hS tyX7 rfl lays_X7 tyX7_ok [.int 0, .int 0, .int 0, .int 0, .int 0, .int 0] (fun j hj => by match j, hj with | 0, _ => rfl | 1, _ => rfl | 2, _ => rfl | 3, _ => rfl | 4, _ => rfl | 5, _ => rfl) cl_X6_17 rfl (Nat.le_of_ble_eq_true rfl) (Nat.le_of_ble_eq_true rfl) dX6_init_73 (fun H hW hS => ?_)
  refine lv_dup (pc := 76) hx hb dX6_init_76 rfl ?_
  refine a_call (pc := 77) (k := 26) (rest := [.ref (z + 26), .int 2, .ref (z + 17)]) C hW hS (a_X7 (K := K - 1) (by omega) (k := 26) (fun q hq => hq.1) (by decide) ⟨Nat.le_add_right _ _, Nat.add_lt_add_left (by decide) _⟩ rfl) mi_X6_28 (aRoom (by omega) (by decide) (Nat.le_of_ble_eq_true rfl) (Nat.le_of_ble_eq_true rfl)) rfl rfl (Nat.le_of_ble_eq_true rfl) hl.1 dX6_init_77 (fun H locs hW hS => ?_)
  refine a_aast (pc := 80) (k := 17) (q0 := 26) (ci := 7) (i := 2) (j := 2) C hW hS 2 (by decide) rfl ⟨Nat.le_add_right _ _, Nat.add_lt_add_left (by decide) _⟩ rfl (by decide) rfl rfl (by decide) (inb_in (by decide)) dX6_init_80 (fun H locs hW hS => ?_)
  refine lv_iinc (pc := 81) (v := 3) (lv' := [(2, .int 3), (0, .ref (z + 15)), (1, .ref (z + 1))]) hx hb dX6_init_81 hl (k := 0) rfl (by decide) (by decide) rfl (fun ls hl => ?_)
  refine lv_goto (pc := 84) (tgt := 59) hx hb dX6_init_84 (by decide) ?_
  refine lv_iload_n (pc := 59) hx hb dX6_init_59 rfl (lv_at hl 0 rfl) ?_
  refine lv_aload_n (pc := 60) hx hb dX6_init_60 rfl (lv_at hl 1 rfl) ?_
  refine a_get (pc := 61) (k := 15) (ci := 6) C hW (by decide) rfl rfl lays_X6 2 (by decide) fm_X6_19 (x := .ref (z + 17)) rfl dX6_init_61 ?_
  refine a_alen (pc := 64) (k := 17) C hW 2 (by decide) rfl rfl (v := 8) rfl dX6_init_64 ?_
  refine lv_icmp_ge (pc := 65) (tgt := 87) hx hb dX6_init_65 (by decide) (fun hc => absurd hc (by decide)) (fun _ => ?_)
  refine lv_aload_n (pc := 68) hx hb dX6_init_68 rfl (lv_at hl 1 rfl) ?_
  refine a_get (pc := 69) (k := 15) (ci := 6) C hW (by decide) rfl rfl lays_X6 2 (by decide) fm_X6_19 (x := .ref (z + 17)) rfl dX6_init_69 ?_
  refine lv_iload_n (pc := 72) hx hb dX6_init_72 rfl (lv_at hl 0 rfl) ?_
  refine a_new (pc := 73) (ci := 7) (n := 27) (n1 := 28) C hW hS tyX7 rfl lays_X7 tyX7_ok [.int 0, .int 0, .int 0, .int 0, .int 0, .int 0] (fun j hj => by match j, hj with | 0, _ => rfl | 1, _ => rfl | 2, _ => rfl | 3, _ => rfl | 4, _ => rfl | 5, _ => rfl) cl_X6_17 rfl (Nat.le_of_ble_eq_true rfl) (Nat.le_of_ble_eq_true rfl) dX6_init_73 (fun H hW hS => ?_)
  refine lv_dup (pc := 76) hx hb dX6_init_76 rfl ?_
  refine a_call (pc := 77) (k := 27) (rest := [.ref (z + 27), .int 3, .ref (z + 17)]) C hW hS (a_X7 (K := K - 1) (by omega) (k := 27) (fun q hq => hq.1) (by decide) ⟨Nat.le_add_right _ _, Nat.add_lt_add_left (by decide) _⟩ rfl) mi_X6_28 (aRoom (by omega) (by decide) (Nat.le_of_ble_eq_true rfl) (Nat.le_of_ble_eq_true rfl)) rfl rfl (Nat.le_of_ble_eq_true rfl) hl.1 dX6_init_77 (fun H locs hW hS => ?_)
  refine a_aast (pc := 80) (k := 17) (q0 := 27) (ci := 7) (i := 3) (j := 3) C hW hS 2 (by decide) rfl ⟨Nat.le_add_right _ _, Nat.add_lt_add_left (by decide) _⟩ rfl (by decide) rfl rfl (by decide) (inb_in (by decide)) dX6_init_80 (fun H locs hW hS => ?_)
  refine lv_iinc (pc := 81) (v := 4) (lv' := [(2, .int 4), (0, .ref (z + 15)), (1, .ref (z + 1))]) hx hb dX6_init_81 hl (k := 0) rfl (by decide) (by decide) rfl (fun ls hl => ?_)
  refine lv_goto (pc := 84) (tgt := 59) hx hb dX6_init_84 (by decide) ?_
  refine lv_iload_n (pc := 59) hx hb dX6_init_59 rfl (lv_at hl 0 rfl) ?_
  refine lv_aload_n (pc := 60) hx hb dX6_init_60 rfl (lv_at hl 1 rfl) ?_
  refine a_get (pc := 61) (k := 15) (ci := 6) C hW (by decide) rfl rfl lays_X6 2 (by decide) fm_X6_19 (x := .ref (z + 17)) rfl dX6_init_61 ?_
  refine a_alen (pc := 64) (k := 17) C hW 2 (by decide) rfl rfl (v := 8) rfl dX6_init_64 ?_
  refine lv_icmp_ge (pc := 65) (tgt := 87) hx hb dX6_init_65 (by decide) (fun hc => absurd hc (by decide)) (fun _ => ?_)
  refine lv_aload_n (pc := 68) hx hb dX6_init_68 rfl (lv_at hl 1 rfl) ?_
  refine a_get (pc := 69) (k := 15) (ci := 6) C hW (by decide) rfl rfl lays_X6 2 (by decide) fm_X6_19 (x := .ref (z + 17)) rfl dX6_init_69 ?_
  refine lv_iload_n (pc := 72) hx hb dX6_init_72 rfl (lv_at hl 0 rfl) ?_
  refine a_new (pc := 73) (ci := 7) (n := 28) (n1 := 29) C hW hS tyX7 rfl lays_X7 tyX7_ok [.int 0, .int 0, .int 0, .int 0, .int 0, .int 0] (fun j hj => by match j, hj with | 0, _ => rfl | 1, _ => rfl | 2, _ => rfl | 3, _ => rfl | 4, _ => rfl | 5, _ => rfl) cl_X6_17 rfl (Nat.le_of_ble_eq_true rfl) (Nat.le_of_ble_eq_true rfl) dX6_init_73 (fun H hW hS => ?_)
  refine lv_dup (pc := 76) hx hb dX6_init_76 rfl ?_
  refine a_call (pc := 77) (k := 28) (rest := [.ref (z + 28), .int 4, .ref (z + 17)]) C hW hS (a_X7 (K := K - 1) (by omega) (k := 28) (fun q hq => hq.1) (by decide) ⟨Nat.le_add_right _ _, Nat.add_lt_add_left (by decide) _⟩ rfl) mi_X6_28 (aRoom (by omega) (by decide) (Nat.le_of_ble_eq_true rfl) (Nat.le_of_ble_eq_true rfl)) rfl rfl (Nat.le_of_ble_eq_true rfl) hl.1 dX6_init_77 (fun H locs hW hS => ?_)
  refine a_aast (pc := 80) (k := 17) (q0 := 28) (ci := 7) (i := 4) (j := 4) C hW hS 2 (by decide) rfl ⟨Nat.le_add_right _ _, Nat.add_lt_add_left (by decide) _⟩ rfl (by decide) rfl rfl (by decide) (inb_in (by decide)) dX6_init_80 (fun H locs hW hS => ?_)
  refine lv_iinc (pc := 81) (v := 5) (lv' := [(2, .int 5), (0, .ref (z + 15)), (1, .ref (z + 1))]) hx hb dX6_init_81 hl (k := 0) rfl (by decide) (by decide) rfl (fun ls hl => ?_)
  refine lv_goto (pc := 84) (tgt := 59) hx hb dX6_init_84 (by decide) ?_
  refine lv_iload_n (pc := 59) hx hb dX6_init_59 rfl (lv_at hl 0 rfl) ?_
  refine lv_aload_n (pc := 60) hx hb dX6_init_60 rfl (lv_at hl 1 rfl) ?_
  refine a_get (pc := 61) (k := 15) (ci := 6) C hW (by decide) rfl rfl lays_X6 2 (by decide) fm_X6_19 (x := .ref (z + 17)) rfl dX6_init_61 ?_
  refine a_alen (pc := 64) (k := 17) C hW 2 (by decide) rfl rfl (v := 8) rfl dX6_init_64 ?_
  refine lv_icmp_ge (pc := 65) (tgt := 87) hx hb dX6_init_65 (by decide) (fun hc => absurd hc (by decide)) (fun _ => ?_)
  refine lv_aload_n (pc := 68) hx hb dX6_init_68 rfl (lv_at hl 1 rfl) ?_
  refine a_get (pc := 69) (k := 15) (ci := 6) C hW (by decide) rfl rfl lays_X6 2 (by decide) fm_X6_19 (x := .ref (z + 17)) rfl dX6_init_69 ?_
  refine lv_iload_n (pc := 72) hx hb dX6_init_72 rfl (lv_at hl 0 rfl) ?_
  refine a_new (pc := 73) (ci := 7) (n := 29) (n1 := 30) C hW hS tyX7 rfl lays_X7 tyX7_ok [.int 0, .int 0, .int 0, .int 0, .int 0, .int 0] (fun j hj => by match j, hj with | 0, _ => rfl | 1, _ => rfl | 2, _ => rfl | 3, _ => rfl | 4, _ => rfl | 5, _ => rfl) cl_X6_17 rfl (Nat.le_of_ble_eq_true rfl) (Nat.le_of_ble_eq_true rfl) dX6_init_73 (fun H hW hS => ?_)
  refine lv_dup (pc := 76) hx hb dX6_init_76 rfl ?_
  refine a_call (pc := 77) (k := 29) (rest := [.ref (z + 29), .int 5, .ref (z + 17)]) C hW hS (a_X7 (K := K - 1) (by omega) (k := 29) (fun q hq => hq.1) (by decide) ⟨Nat.le_add_right _ _, Nat.add_lt_add_left (by decide) _⟩ rfl) mi_X6_28 (aRoom (by omega) (by decide) (Nat.le_of_ble_eq_true rfl) (Nat.le_of_ble_eq_true rfl)) rfl rfl (Nat.le_of_ble_eq_true rfl) hl.1 dX6_init_77 (fun H locs hW hS => ?_)
  refine a_aast (pc := 80) (k := 17) (q0 := 29) (ci := 7) (i := 5) (j := 5) C hW hS 2 (by decide) rfl ⟨Nat.le_add_right _ _, Nat.add_lt_add_left (by decide) _⟩ rfl (by decide) rfl rfl (by decide) (inb_in (by decide)) dX6_init_80 (fun H locs hW hS => ?_)
  refine lv_iinc (pc := 81) (v := 6) (lv' := [(2, .int 6), (0, .ref (z + 15)), (1, .ref (z + 1))]) hx hb dX6_init_81 hl (k := 0) rfl (by decide) (by decide) rfl (fun ls hl => ?_)
  refine lv_goto (pc := 84) (tgt := 59) hx hb dX6_init_84 (by decide) ?_
  refine lv_iload_n (pc := 59) hx hb dX6_init_59 rfl (lv_at hl 0 rfl) ?_
  refine lv_aload_n (pc := 60) hx hb dX6_init_60 rfl (lv_at hl 1 rfl) ?_
  refine a_get (pc := 61) (k := 15) (ci := 6) C hW (by decide) rfl rfl lays_X6 2 (by decide) fm_X6_19 (x := .ref (z + 17)) rfl dX6_init_61 ?_
  refine a_alen (pc := 64) (k := 17) C hW 2 (by decide) rfl rfl (v := 8) rfl dX6_init_64 ?_
  refine lv_icmp_ge (pc := 65) (tgt := 87) hx hb dX6_init_65 (by decide) (fun hc => absurd hc (by decide)) (fun _ => ?_)
  refine lv_aload_n (pc := 68) hx hb dX6_init_68 rfl (lv_at hl 1 rfl) ?_
  refine a_get (pc := 69) (k := 15) (ci := 6) C hW (by decide) rfl rfl lays_X6 2 (by decide) fm_X6_19 (x := .ref (z + 17)) rfl dX6_init_69 ?_
  refine lv_iload_n (pc := 72) hx hb dX6_init_72 rfl (lv_at hl 0 rfl) ?_
  refine a_new (pc := 73) (ci := 7) (n := 30) (n1 := 31) C hW hS tyX7 rfl lays_X7 tyX7_ok [.int 0, .int 0, .int 0, .int 0, .int 0, .int 0] (fun j hj => by match j, hj with | 0, _ => rfl | 1, _ => rfl | 2, _ => rfl | 3, _ => rfl | 4, _ => rfl | 5, _ => rfl) cl_X6_17 rfl (Nat.le_of_ble_eq_true rfl) (Nat.le_of_ble_eq_true rfl) dX6_init_73 (fun H hW hS => ?_)
  refine lv_dup (pc := 76) hx hb dX6_init_76 rfl ?_
  refine a_call (pc := 77) (k := 30) (rest := [.ref (z + 30), .int 6, .ref (z + 17)]) C hW hS (a_X7 (K := K - 1) (by omega) (k := 30) (fun q hq => hq.1) (by decide) ⟨Nat.le_add_right _ _, Nat.add_lt_add_left (by decide) _⟩ rfl) mi_X6_28 (aRoom (by omega) (by decide) (Nat.le_of_ble_eq_true rfl) (Nat.le_of_ble_eq_true rfl)) rfl rfl (Nat.le_of_ble_eq_true rfl) hl.1 dX6_init_77 (fun H locs hW hS => ?_)
  refine a_aast (pc := 80) (k := 17) (q0 := 30) (ci := 7) (i := 6) (j := 6) C hW hS 2 (by decide) rfl ⟨Nat.le_add_right _ _, Nat.add_lt_add_left (by decide) _⟩ rfl (by decide) rfl rfl (by decide) (inb_in (by decide)) dX6_init_80 (fun H locs hW hS => ?_)
  refine lv_iinc (pc := 81) (v := 7) (lv' := [(2, .int 7), (0, .ref (z + 15)), (1, .ref (z + 1))]) hx hb dX6_init_81 hl (k := 0) rfl (by decide) (by decide) rfl (fun ls hl => ?_)
  refine lv_goto (pc := 84) (tgt := 59) hx hb dX6_init_84 (by decide) ?_
  refine lv_iload_n (pc := 59) hx hb dX6_init_59 rfl (lv_at hl 0 rfl) ?_
  refine lv_aload_n (pc := 60) hx hb dX6_init_60 rfl (lv_at hl 1 rfl) ?_
  refine a_get (pc := 61) (k := 15) (ci := 6) C hW (by decide) rfl rfl lays_X6 2 (by decide) fm_X6_19 (x := .ref (z + 17)) rfl dX6_init_61 ?_
  refine a_alen (pc := 64) (k := 17) C hW 2 (by decide) rfl rfl (v := 8) rfl dX6_init_64 ?_
  refine lv_icmp_ge (pc := 65) (tgt := 87) hx hb dX6_init_65 (by decide) (fun hc => absurd hc (by decide)) (fun _ => ?_)
  refine lv_aload_n (pc := 68) hx hb dX6_init_68 rfl (lv_at hl 1 rfl) ?_
  refine a_get (pc := 69) (k := 15) (ci := 6) C hW (by decide) rfl rfl lays_X6 2 (by decide) fm_X6_19 (x := .ref (z + 17)) rfl dX6_init_69 ?_
  refine lv_iload_n (pc := 72) hx hb dX6_init_72 rfl (lv_at hl 0 rfl) ?_
  refine a_new (pc := 73) (ci := 7) (n := 31) (n1 := 32) C hW hS tyX7 rfl lays_X7 tyX7_ok [.int 0, .int 0, .int 0, .int 0, .int 0, .int 0] (fun j hj => by match j, hj with | 0, _ => rfl | 1, _ => rfl | 2, _ => rfl | 3, _ => rfl | 4, _ => rfl | 5, _ => rfl) cl_X6_17 rfl (Nat.le_of_ble_eq_true rfl) (Nat.le_of_ble_eq_true rfl) dX6_init_73 (fun H hW hS => ?_)
  refine lv_dup (pc := 76) hx hb dX6_init_76 rfl ?_
  refine a_call (pc := 77) (k := 31) (rest := [.ref (z + 31), .int 7, .ref (z + 17)]) C hW hS (a_X7 (K := K - 1) (by omega) (k := 31) (fun q hq => hq.1) (by decide) ⟨Nat.le_add_right _ _, Nat.add_lt_add_left (by decide) _⟩ rfl) mi_X6_28 (aRoom (by omega) (by decide) (Nat.le_of_ble_eq_true rfl) (Nat.le_of_ble_eq_true rfl)) rfl rfl (Nat.le_of_ble_eq_true rfl) hl.1 dX6_init_77 (fun H locs hW hS => ?_)
  refine a_aast (pc := 80) (k := 17) (q0 := 31) (ci := 7) (i := 7) (j := 7) C hW hS 2 (by decide) rfl ⟨Nat.le_add_right _ _, Nat.add_lt_add_left (by decide) _⟩ rfl (by decide) rfl rfl (by decide) (inb_in (by decide)) dX6_init_80 (fun H locs hW hS => ?_)
  refine lv_iinc (pc := 81) (v := 8) (lv' := [(2, .int 8), (0, .ref (z + 15)), (1, .ref (z + 1))]) hx hb dX6_init_81 hl (k := 0) rfl (by decide) (by decide) rfl (fun ls hl => ?_)
  refine lv_goto (pc := 84) (tgt := 59) hx hb dX6_init_84 (by decide) ?_
  refine lv_iload_n (pc := 59) hx hb dX6_init_59 rfl (lv_at hl 0 rfl) ?_
  refine lv_aload_n (pc := 60) hx hb dX6_init_60 rfl (lv_at hl 1 rfl) ?_
  refine a_get (pc := 61) (k := 15) (ci := 6) C hW (by decide) rfl rfl lays_X6 2 (by decide) fm_X6_19 (x := .ref (z + 17)) rfl dX6_init_61 ?_
  refine a_alen (pc := 64) (k := 17) C hW 2 (by decide) rfl rfl (v := 8) rfl dX6_init_64 ?_
  refine lv_icmp_ge (pc := 65) (tgt := 87) hx hb dX6_init_65 (by decide) (fun _ => ?_) (fun hc => absurd (by decide) hc)
  refine a_vret (pc := 87) C hW hS dX6_init_87 rfl rfl rfl (fun q hq a H => ?_)
  have hc : q < 15 ∨ q = 15 ∨ q = 16 ∨ q = 17 ∨ q = 18 ∨ q = 19 ∨ q = 20 ∨ q = 21 ∨ q = 22 ∨ q = 23 ∨ q = 24 ∨ q = 25 ∨ q = 26 ∨ q = 27 ∨ q = 28 ∨ q = 29 ∨ q = 30 ∨ q = 31 := by omega
  rcases hc with hc | rfl | rfl | rfl | rfl | rfl | rfl | rfl | rfl | rfl | rfl | rfl | rfl | rfl | rfl | rfl | rfl | rfl
  · have e1 : mixE ac z 15 w q = w q := if_pos hc
    rw [e1]
    intro h
    simp (disch := omega) only [va_up_ne] at h
    exact h
  · exact id
  · refine at_refs (cA := ac 1) (N := 6) ?_ a H
    intro i hi
    have hi2 : i = 0 ∨ i = 1 ∨ i = 2 ∨ i = 3 ∨ i = 4 ∨ i = 5 := by omega
    rcases hi2 with rfl | rfl | rfl | rfl | rfl | rfl <;> rfl
  · refine at_refs (cA := ac 2) (N := 8) ?_ a H
    intro i hi
    have hi2 : i = 0 ∨ i = 1 ∨ i = 2 ∨ i = 3 ∨ i = 4 ∨ i = 5 ∨ i = 6 ∨ i = 7 := by omega
    rcases hi2 with rfl | rfl | rfl | rfl | rfl | rfl | rfl | rfl <;> rfl
  · exact id
  · exact id
  · exact id
  · exact id
  · exact id
  · exact id
  · exact id
  · exact id
  · exact id
  · exact id
  · exact id
  · exact id
  · exact id
  · exact id

theorem a_X6_32 {K : Nat} (hK : 2 ≤ K) (he : w 32 = .inr (6, [.null, .null, .null, .int 0, .int 0, .int 0, .int 0, .int 0, .int 0, .int 0, .int 0, .int 0])) : MA l D z ac (z, aK, aV) (Ac z) yX6_init cX6_init 3 none K 16 98 [.ref (z + 32), .ref (z + 1)] 33 w none 49 (mixE ac z 32 w) := by
  refine MA.of (fun q hq => hq.1) (plainFor_of_name (by decide)) (Nat.le_of_ble_eq_true rfl) ?_
  intro p e s m below meth c args C hin hW ls hl
  replace hl : lv_has ls 3 [(0, .ref (z + 32)), (1, .ref (z + 1))] := hl
  have hS : va_S (Ac z) s.heap s.heap [] := va_S.rf
  have hx := C.1.1
  have hb := C.1.2.1
  have hK1 : 1 ≤ K := by omega
  replace hW : Wg D z 33 (va_up w 32 (.inr (6, [.null, .null, .null, .int 0, .int 0, .int 0, .int 0, .int 0, .int 0, .int 0, .int 0, .int 0]))) s.heap := ⟨hW.1, fun q hq => by
    unfold va_up
    by_cases h : q = 32
    · subst h
      rw [if_pos rfl, ← he]
      exact hW.2 _ hq
    · rw [if_neg h]
      exact hW.2 _ hq⟩
  refine lv_aload_n (pc := 0) hx hb dX6_init_0 rfl (lv_at hl 0 rfl) ?_
  refine a_obj (pc := 1) C ob_X6 hl.1 (aRoom0 hK1) dX6_init_1 ?_
  refine lv_aload_n (pc := 4) hx hb dX6_init_4 rfl (lv_at hl 0 rfl) ?_
  refine lv_bipush (pc := 5) (v := 6) hx hb dX6_init_5 (by decide) ?_
  refine a_anewa (pc := 7) (n := 33) (n1 := 34) (N := 6) C hW hS 1 rfl (by decide) cl_X6_9.1 (by decide) (by decide) (by decide) rfl (Nat.le_of_ble_eq_true rfl) (Nat.le_of_ble_eq_true rfl) dX6_init_7 (fun H hW hS => ?_)
  refine a_putF (pc := 10) (k := 32) (ci := 6) C hW hS tyX6 (by decide) rfl ⟨Nat.le_add_right _ _, Nat.add_lt_add_left (by decide) _⟩ rfl lays_X6 tyX6_ok nmX6 1 (by decide) fm_X6_11 rfl hin rfl (x := .ref (z + 33)) rfl rfl (Nat.le_of_ble_eq_true rfl) dX6_init_10 (fun H locs hW hS => ?_)
  refine lv_aload_n (pc := 13) hx hb dX6_init_13 rfl (lv_at hl 0 rfl) ?_
  refine lv_bipush (pc := 14) (v := 8) hx hb dX6_init_14 (by decide) ?_
  refine a_anewa (pc := 16) (n := 34) (n1 := 35) (N := 8) C hW hS 2 rfl (by decide) cl_X6_17.1 (by decide) (by decide) (by decide) rfl (Nat.le_of_ble_eq_true rfl) (Nat.le_of_ble_eq_true rfl) dX6_init_16 (fun H hW hS => ?_)
  refine a_putF (pc := 19) (k := 32) (ci := 6) C hW hS tyX6 (by decide) rfl ⟨Nat.le_add_right _ _, Nat.add_lt_add_left (by decide) _⟩ rfl lays_X6 tyX6_ok nmX6 2 (by decide) fm_X6_19 rfl hin rfl (x := .ref (z + 34)) rfl rfl (Nat.le_of_ble_eq_true rfl) dX6_init_19 (fun H locs hW hS => ?_)
  refine lv_aload_n (pc := 22) hx hb dX6_init_22 rfl (lv_at hl 0 rfl) ?_
  refine lv_aload_n (pc := 23) hx hb dX6_init_23 rfl (lv_at hl 1 rfl) ?_
  refine a_putF (pc := 24) (k := 32) (ci := 6) C hW hS tyX6 (by decide) rfl ⟨Nat.le_add_right _ _, Nat.add_lt_add_left (by decide) _⟩ rfl lays_X6 tyX6_ok nmX6 0 (by decide) fm_X6_23 rfl hin rfl (x := .ref (z + 1)) rfl rfl (Nat.le_of_ble_eq_true rfl) dX6_init_24 (fun H locs hW hS => ?_)
  refine lv_iconst (pc := 27) (v := 0) hx hb dX6_init_27 (by decide) ?_
  refine lv_istore_n (pc := 28) (lv' := [(2, .int 0), (0, .ref (z + 32)), (1, .ref (z + 1))]) hx hb dX6_init_28 rfl hl (by decide) rfl (fun ls hl => ?_)
  refine lv_iload_n (pc := 29) hx hb dX6_init_29 rfl (lv_at hl 0 rfl) ?_
  refine lv_aload_n (pc := 30) hx hb dX6_init_30 rfl (lv_at hl 1 rfl) ?_
  refine a_get (pc := 31) (k := 32) (ci := 6) C hW (by decide) rfl rfl lays_X6 1 (by decide) fm_X6_11 (x := .ref (z + 33)) rfl dX6_init_31 ?_
  refine a_alen (pc := 34) (k := 33) C hW 1 (by decide) rfl rfl (v := 6) rfl dX6_init_34 ?_
  refine lv_icmp_ge (pc := 35) (tgt := 57) hx hb dX6_init_35 (by decide) (fun hc => absurd hc (by decide)) (fun _ => ?_)
  refine lv_aload_n (pc := 38) hx hb dX6_init_38 rfl (lv_at hl 1 rfl) ?_
  refine a_get (pc := 39) (k := 32) (ci := 6) C hW (by decide) rfl rfl lays_X6 1 (by decide) fm_X6_11 (x := .ref (z + 33)) rfl dX6_init_39 ?_
  refine lv_iload_n (pc := 42) hx hb dX6_init_42 rfl (lv_at hl 0 rfl) ?_
  refine a_new (pc := 43) (ci := 1) (n := 35) (n1 := 36) C hW hS tyX1 rfl lays_X1 tyX1_ok [.int 0, .int 0, .int 0, .int 0, .int 0, .int 0] (fun j hj => by match j, hj with | 0, _ => rfl | 1, _ => rfl | 2, _ => rfl | 3, _ => rfl | 4, _ => rfl | 5, _ => rfl) cl_X6_9 rfl (Nat.le_of_ble_eq_true rfl) (Nat.le_of_ble_eq_true rfl) dX6_init_43 (fun H hW hS => ?_)
  refine lv_dup (pc := 46) hx hb dX6_init_46 rfl ?_
  refine a_call (pc := 47) (k := 35) (rest := [.ref (z + 35), .int 0, .ref (z + 33)]) C hW hS (a_X1 (K := K - 1) (by omega) (fun q hq => hq.1)) mi_X6_27 (aRoom (by omega) (by decide) (Nat.le_of_ble_eq_true rfl) (Nat.le_of_ble_eq_true rfl)) rfl rfl (Nat.le_of_ble_eq_true rfl) hl.1 dX6_init_47 (fun H locs hW hS => ?_)
  refine a_aast (pc := 50) (k := 33) (q0 := 35) (ci := 1) (i := 0) (j := 0) C hW hS 1 (by decide) rfl ⟨Nat.le_add_right _ _, Nat.add_lt_add_left (by decide) _⟩ rfl (by decide) rfl rfl (by decide) (inb_in (by decide)) dX6_init_50 (fun H locs hW hS => ?_)
  refine lv_iinc (pc := 51) (v := 1) (lv' := [(2, .int 1), (0, .ref (z + 32)), (1, .ref (z + 1))]) hx hb dX6_init_51 hl (k := 0) rfl (by decide) (by decide) rfl (fun ls hl => ?_)
  refine lv_goto (pc := 54) (tgt := 29) hx hb dX6_init_54 (by decide) ?_
  refine lv_iload_n (pc := 29) hx hb dX6_init_29 rfl (lv_at hl 0 rfl) ?_
  refine lv_aload_n (pc := 30) hx hb dX6_init_30 rfl (lv_at hl 1 rfl) ?_
  refine a_get (pc := 31) (k := 32) (ci := 6) C hW (by decide) rfl rfl lays_X6 1 (by decide) fm_X6_11 (x := .ref (z + 33)) rfl dX6_init_31 ?_
  refine a_alen (pc := 34) (k := 33) C hW 1 (by decide) rfl rfl (v := 6) rfl dX6_init_34 ?_
  refine lv_icmp_ge (pc := 35) (tgt := 57) hx hb dX6_init_35 (by decide) (fun hc => absurd hc (by decide)) (fun _ => ?_)
  refine lv_aload_n (pc := 38) hx hb dX6_init_38 rfl (lv_at hl 1 rfl) ?_
  refine a_get (pc := 39) (k := 32) (ci := 6) C hW (by decide) rfl rfl lays_X6 1 (by decide) fm_X6_11 (x := .ref (z + 33)) rfl dX6_init_39 ?_
  refine lv_iload_n (pc := 42) hx hb dX6_init_42 rfl (lv_at hl 0 rfl) ?_
  refine a_new (pc := 43) (ci := 1) (n := 36) (n1 := 37) C hW hS tyX1 rfl lays_X1 tyX1_ok [.int 0, .int 0, .int 0, .int 0, .int 0, .int 0] (fun j hj => by match j, hj with | 0, _ => rfl | 1, _ => rfl | 2, _ => rfl | 3, _ => rfl | 4, _ => rfl | 5, _ => rfl) cl_X6_9 rfl (Nat.le_of_ble_eq_true rfl) (Nat.le_of_ble_eq_true rfl) dX6_init_43 (fun H hW hS => ?_)
  refine lv_dup (pc := 46) hx hb dX6_init_46 rfl ?_
  refine a_call (pc := 47) (k := 36) (rest := [.ref (z + 36), .int 1, .ref (z + 33)]) C hW hS (a_X1 (K := K - 1) (by omega) (fun q hq => hq.1)) mi_X6_27 (aRoom (by omega) (by decide) (Nat.le_of_ble_eq_true rfl) (Nat.le_of_ble_eq_true rfl)) rfl rfl (Nat.le_of_ble_eq_true rfl) hl.1 dX6_init_47 (fun H locs hW hS => ?_)
  refine a_aast (pc := 50) (k := 33) (q0 := 36) (ci := 1) (i := 1) (j := 1) C hW hS 1 (by decide) rfl ⟨Nat.le_add_right _ _, Nat.add_lt_add_left (by decide) _⟩ rfl (by decide) rfl rfl (by decide) (inb_in (by decide)) dX6_init_50 (fun H locs hW hS => ?_)
  refine lv_iinc (pc := 51) (v := 2) (lv' := [(2, .int 2), (0, .ref (z + 32)), (1, .ref (z + 1))]) hx hb dX6_init_51 hl (k := 0) rfl (by decide) (by decide) rfl (fun ls hl => ?_)
  refine lv_goto (pc := 54) (tgt := 29) hx hb dX6_init_54 (by decide) ?_
  refine lv_iload_n (pc := 29) hx hb dX6_init_29 rfl (lv_at hl 0 rfl) ?_
  refine lv_aload_n (pc := 30) hx hb dX6_init_30 rfl (lv_at hl 1 rfl) ?_
  refine a_get (pc := 31) (k := 32) (ci := 6) C hW (by decide) rfl rfl lays_X6 1 (by decide) fm_X6_11 (x := .ref (z + 33)) rfl dX6_init_31 ?_
  refine a_alen (pc := 34) (k := 33) C hW 1 (by decide) rfl rfl (v := 6) rfl dX6_init_34 ?_
  refine lv_icmp_ge (pc := 35) (tgt := 57) hx hb dX6_init_35 (by decide) (fun hc => absurd hc (by decide)) (fun _ => ?_)
  refine lv_aload_n (pc := 38) hx hb dX6_init_38 rfl (lv_at hl 1 rfl) ?_
  refine a_get (pc := 39) (k := 32) (ci := 6) C hW (by decide) rfl rfl lays_X6 1 (by decide) fm_X6_11 (x := .ref (z + 33)) rfl dX6_init_39 ?_
  refine lv_iload_n (pc := 42) hx hb dX6_init_42 rfl (lv_at hl 0 rfl) ?_
  refine a_new (pc := 43) (ci := 1) (n := 37) (n1 := 38) C hW hS tyX1 rfl lays_X1 tyX1_ok [.int 0, .int 0, .int 0, .int 0, .int 0, .int 0] (fun j hj => by match j, hj with | 0, _ => rfl | 1, _ => rfl | 2, _ => rfl | 3, _ => rfl | 4, _ => rfl | 5, _ => rfl) cl_X6_9 rfl (Nat.le_of_ble_eq_true rfl) (Nat.le_of_ble_eq_true rfl) dX6_init_43 (fun H hW hS => ?_)
  refine lv_dup (pc := 46) hx hb dX6_init_46 rfl ?_
  refine a_call (pc := 47) (k := 37) (rest := [.ref (z + 37), .int 2, .ref (z + 33)]) C hW hS (a_X1 (K := K - 1) (by omega) (fun q hq => hq.1)) mi_X6_27 (aRoom (by omega) (by decide) (Nat.le_of_ble_eq_true rfl) (Nat.le_of_ble_eq_true rfl)) rfl rfl (Nat.le_of_ble_eq_true rfl) hl.1 dX6_init_47 (fun H locs hW hS => ?_)
  refine a_aast (pc := 50) (k := 33) (q0 := 37) (ci := 1) (i := 2) (j := 2) C hW hS 1 (by decide) rfl ⟨Nat.le_add_right _ _, Nat.add_lt_add_left (by decide) _⟩ rfl (by decide) rfl rfl (by decide) (inb_in (by decide)) dX6_init_50 (fun H locs hW hS => ?_)
  refine lv_iinc (pc := 51) (v := 3) (lv' := [(2, .int 3), (0, .ref (z + 32)), (1, .ref (z + 1))]) hx hb dX6_init_51 hl (k := 0) rfl (by decide) (by decide) rfl (fun ls hl => ?_)
  refine lv_goto (pc := 54) (tgt := 29) hx hb dX6_init_54 (by decide) ?_
  refine lv_iload_n (pc := 29) hx hb dX6_init_29 rfl (lv_at hl 0 rfl) ?_
  refine lv_aload_n (pc := 30) hx hb dX6_init_30 rfl (lv_at hl 1 rfl) ?_
  refine a_get (pc := 31) (k := 32) (ci := 6) C hW (by decide) rfl rfl lays_X6 1 (by decide) fm_X6_11 (x := .ref (z + 33)) rfl dX6_init_31 ?_
  refine a_alen (pc := 34) (k := 33) C hW 1 (by decide) rfl rfl (v := 6) rfl dX6_init_34 ?_
  refine lv_icmp_ge (pc := 35) (tgt := 57) hx hb dX6_init_35 (by decide) (fun hc => absurd hc (by decide)) (fun _ => ?_)
  refine lv_aload_n (pc := 38) hx hb dX6_init_38 rfl (lv_at hl 1 rfl) ?_
  refine a_get (pc := 39) (k := 32) (ci := 6) C hW (by decide) rfl rfl lays_X6 1 (by decide) fm_X6_11 (x := .ref (z + 33)) rfl dX6_init_39 ?_
  refine lv_iload_n (pc := 42) hx hb dX6_init_42 rfl (lv_at hl 0 rfl) ?_
  refine a_new (pc := 43) (ci := 1) (n := 38) (n1 := 39) C hW hS tyX1 rfl lays_X1 tyX1_ok [.int 0, .int 0, .int 0, .int 0, .int 0, .int 0] (fun j hj => by match j, hj with | 0, _ => rfl | 1, _ => rfl | 2, _ => rfl | 3, _ => rfl | 4, _ => rfl | 5, _ => rfl) cl_X6_9 rfl (Nat.le_of_ble_eq_true rfl) (Nat.le_of_ble_eq_true rfl) dX6_init_43 (fun H hW hS => ?_)
  refine lv_dup (pc := 46) hx hb dX6_init_46 rfl ?_
  refine a_call (pc := 47) (k := 38) (rest := [.ref (z + 38), .int 3, .ref (z + 33)]) C hW hS (a_X1 (K := K - 1) (by omega) (fun q hq => hq.1)) mi_X6_27 (aRoom (by omega) (by decide) (Nat.le_of_ble_eq_true rfl) (Nat.le_of_ble_eq_true rfl)) rfl rfl (Nat.le_of_ble_eq_true rfl) hl.1 dX6_init_47 (fun H locs hW hS => ?_)
  refine a_aast (pc := 50) (k := 33) (q0 := 38) (ci := 1) (i := 3) (j := 3) C hW hS 1 (by decide) rfl ⟨Nat.le_add_right _ _, Nat.add_lt_add_left (by decide) _⟩ rfl (by decide) rfl rfl (by decide) (inb_in (by decide)) dX6_init_50 (fun H locs hW hS => ?_)
  refine lv_iinc (pc := 51) (v := 4) (lv' := [(2, .int 4), (0, .ref (z + 32)), (1, .ref (z + 1))]) hx hb dX6_init_51 hl (k := 0) rfl (by decide) (by decide) rfl (fun ls hl => ?_)
  refine lv_goto (pc := 54) (tgt := 29) hx hb dX6_init_54 (by decide) ?_
  refine lv_iload_n (pc := 29) hx hb dX6_init_29 rfl (lv_at hl 0 rfl) ?_
  refine lv_aload_n (pc := 30) hx hb dX6_init_30 rfl (lv_at hl 1 rfl) ?_
  refine a_get (pc := 31) (k := 32) (ci := 6) C hW (by decide) rfl rfl lays_X6 1 (by decide) fm_X6_11 (x := .ref (z + 33)) rfl dX6_init_31 ?_
  refine a_alen (pc := 34) (k := 33) C hW 1 (by decide) rfl rfl (v := 6) rfl dX6_init_34 ?_
  refine lv_icmp_ge (pc := 35) (tgt := 57) hx hb dX6_init_35 (by decide) (fun hc => absurd hc (by decide)) (fun _ => ?_)
  refine lv_aload_n (pc := 38) hx hb dX6_init_38 rfl (lv_at hl 1 rfl) ?_
  refine a_get (pc := 39) (k := 32) (ci := 6) C hW (by decide) rfl rfl lays_X6 1 (by decide) fm_X6_11 (x := .ref (z + 33)) rfl dX6_init_39 ?_
  refine lv_iload_n (pc := 42) hx hb dX6_init_42 rfl (lv_at hl 0 rfl) ?_
  refine a_new (pc := 43) (ci := 1) (n := 39) (n1 := 40) C hW hS tyX1 rfl lays_X1 tyX1_ok [.int 0, .int 0, .int 0, .int 0, .int 0, .int 0] (fun j hj => by match j, hj with | 0, _ => rfl | 1, _ => rfl | 2, _ => rfl | 3, _ => rfl | 4, _ => rfl | 5, _ => rfl) cl_X6_9 rfl (Nat.le_of_ble_eq_true rfl) (Nat.le_of_ble_eq_true rfl) dX6_init_43 (fun H hW hS => ?_)
  refine lv_dup (pc := 46) hx hb dX6_init_46 rfl ?_
  refine a_call (pc := 47) (k := 39) (rest := [.ref (z + 39), .int 4, .ref (z + 33)]) C hW hS (a_X1 (K := K - 1) (by omega) (fun q hq => hq.1)) mi_X6_27 (aRoom (by omega) (by decide) (Nat.le_of_ble_eq_true rfl) (Nat.le_of_ble_eq_true rfl)) rfl rfl (Nat.le_of_ble_eq_true rfl) hl.1 dX6_init_47 (fun H locs hW hS => ?_)
  refine a_aast (pc := 50) (k := 33) (q0 := 39) (ci := 1) (i := 4) (j := 4) C hW hS 1 (by decide) rfl ⟨Nat.le_add_right _ _, Nat.add_lt_add_left (by decide) _⟩ rfl (by decide) rfl rfl (by decide) (inb_in (by decide)) dX6_init_50 (fun H locs hW hS => ?_)
  refine lv_iinc (pc := 51) (v := 5) (lv' := [(2, .int 5), (0, .ref (z + 32)), (1, .ref (z + 1))]) hx hb dX6_init_51 hl (k := 0) rfl (by decide) (by decide) rfl (fun ls hl => ?_)
  refine lv_goto (pc := 54) (tgt := 29) hx hb dX6_init_54 (by decide) ?_
  refine lv_iload_n (pc := 29) hx hb dX6_init_29 rfl (lv_at hl 0 rfl) ?_
  refine lv_aload_n (pc := 30) hx hb dX6_init_30 rfl (lv_at hl 1 rfl) ?_
  refine a_get (pc := 31) (k := 32) (ci := 6) C hW (by decide) rfl rfl lays_X6 1 (by decide) fm_X6_11 (x := .ref (z + 33)) rfl dX6_init_31 ?_
  refine a_alen (pc := 34) (k := 33) C hW 1 (by decide) rfl rfl (v := 6) rfl dX6_init_34 ?_
  refine lv_icmp_ge (pc := 35) (tgt := 57) hx hb dX6_init_35 (by decide) (fun hc => absurd hc (by decide)) (fun _ => ?_)
  refine lv_aload_n (pc := 38) hx hb dX6_init_38 rfl (lv_at hl 1 rfl) ?_
  refine a_get (pc := 39) (k := 32) (ci := 6) C hW (by decide) rfl rfl lays_X6 1 (by decide) fm_X6_11 (x := .ref (z + 33)) rfl dX6_init_39 ?_
  refine lv_iload_n (pc := 42) hx hb dX6_init_42 rfl (lv_at hl 0 rfl) ?_
  refine a_new (pc := 43) (ci := 1) (n := 40) (n1 := 41) C hW hS tyX1 rfl lays_X1 tyX1_ok [.int 0, .int 0, .int 0, .int 0, .int 0, .int 0] (fun j hj => by match j, hj with | 0, _ => rfl | 1, _ => rfl | 2, _ => rfl | 3, _ => rfl | 4, _ => rfl | 5, _ => rfl) cl_X6_9 rfl (Nat.le_of_ble_eq_true rfl) (Nat.le_of_ble_eq_true rfl) dX6_init_43 (fun H hW hS => ?_)
  refine lv_dup (pc := 46) hx hb dX6_init_46 rfl ?_
  refine a_call (pc := 47) (k := 40) (rest := [.ref (z + 40), .int 5, .ref (z + 33)]) C hW hS (a_X1 (K := K - 1) (by omega) (fun q hq => hq.1)) mi_X6_27 (aRoom (by omega) (by decide) (Nat.le_of_ble_eq_true rfl) (Nat.le_of_ble_eq_true rfl)) rfl rfl (Nat.le_of_ble_eq_true rfl) hl.1 dX6_init_47 (fun H locs hW hS => ?_)
  refine a_aast (pc := 50) (k := 33) (q0 := 40) (ci := 1) (i := 5) (j := 5) C hW hS 1 (by decide) rfl ⟨Nat.le_add_right _ _, Nat.add_lt_add_left (by decide) _⟩ rfl (by decide) rfl rfl (by decide) (inb_in (by decide)) dX6_init_50 (fun H locs hW hS => ?_)
  refine lv_iinc (pc := 51) (v := 6) (lv' := [(2, .int 6), (0, .ref (z + 32)), (1, .ref (z + 1))]) hx hb dX6_init_51 hl (k := 0) rfl (by decide) (by decide) rfl (fun ls hl => ?_)
  refine lv_goto (pc := 54) (tgt := 29) hx hb dX6_init_54 (by decide) ?_
  refine lv_iload_n (pc := 29) hx hb dX6_init_29 rfl (lv_at hl 0 rfl) ?_
  refine lv_aload_n (pc := 30) hx hb dX6_init_30 rfl (lv_at hl 1 rfl) ?_
  refine a_get (pc := 31) (k := 32) (ci := 6) C hW (by decide) rfl rfl lays_X6 1 (by decide) fm_X6_11 (x := .ref (z + 33)) rfl dX6_init_31 ?_
  refine a_alen (pc := 34) (k := 33) C hW 1 (by decide) rfl rfl (v := 6) rfl dX6_init_34 ?_
  refine lv_icmp_ge (pc := 35) (tgt := 57) hx hb dX6_init_35 (by decide) (fun _ => ?_) (fun hc => absurd (by decide) hc)
  refine lv_iconst (pc := 57) (v := 0) hx hb dX6_init_57 (by decide) ?_
  refine lv_istore_n (pc := 58) (lv' := [(2, .int 0), (0, .ref (z + 32)), (1, .ref (z + 1))]) hx hb dX6_init_58 rfl hl (by decide) rfl (fun ls hl => ?_)
  refine lv_iload_n (pc := 59) hx hb dX6_init_59 rfl (lv_at hl 0 rfl) ?_
  refine lv_aload_n (pc := 60) hx hb dX6_init_60 rfl (lv_at hl 1 rfl) ?_
  refine a_get (pc := 61) (k := 32) (ci := 6) C hW (by decide) rfl rfl lays_X6 2 (by decide) fm_X6_19 (x := .ref (z + 34)) rfl dX6_init_61 ?_
  refine a_alen (pc := 64) (k := 34) C hW 2 (by decide) rfl rfl (v := 8) rfl dX6_init_64 ?_
  refine lv_icmp_ge (pc := 65) (tgt := 87) hx hb dX6_init_65 (by decide) (fun hc => absurd hc (by decide)) (fun _ => ?_)
  refine lv_aload_n (pc := 68) hx hb dX6_init_68 rfl (lv_at hl 1 rfl) ?_
  refine a_get (pc := 69) (k := 32) (ci := 6) C hW (by decide) rfl rfl lays_X6 2 (by decide) fm_X6_19 (x := .ref (z + 34)) rfl dX6_init_69 ?_
  refine lv_iload_n (pc := 72) hx hb dX6_init_72 rfl (lv_at hl 0 rfl) ?_
  refine a_new (pc := 73) (ci := 7) (n := 41) (n1 := 42) C hW hS tyX7 rfl lays_X7 tyX7_ok [.int 0, .int 0, .int 0, .int 0, .int 0, .int 0] (fun j hj => by match j, hj with | 0, _ => rfl | 1, _ => rfl | 2, _ => rfl | 3, _ => rfl | 4, _ => rfl | 5, _ => rfl) cl_X6_17 rfl (Nat.le_of_ble_eq_true rfl) (Nat.le_of_ble_eq_true rfl) dX6_init_73 (fun H hW hS => ?_)
  refine lv_dup (pc := 76) hx hb dX6_init_76 rfl ?_
  refine a_call (pc := 77) (k := 41) (rest := [.ref (z + 41), .int 0, .ref (z + 34)]) C hW hS (a_X7 (K := K - 1) (by omega) (k := 41) (fun q hq => hq.1) (by decide) ⟨Nat.le_add_right _ _, Nat.add_lt_add_left (by decide) _⟩ rfl) mi_X6_28 (aRoom (by omega) (by decide) (Nat.le_of_ble_eq_true rfl) (Nat.le_of_ble_eq_true rfl)) rfl rfl (Nat.le_of_ble_eq_true rfl) hl.1 dX6_init_77 (fun H locs hW hS => ?_)
  refine a_aast (pc := 80) (k := 34) (q0 := 41) (ci := 7) (i := 0) (j := 0) C hW hS 2 (by decide) rfl ⟨Nat.le_add_right _ _, Nat.add_lt_add_left (by decide) _⟩ rfl (by decide) rfl rfl (by decide) (inb_in (by decide)) dX6_init_80 (fun H locs hW hS => ?_)
  refine lv_iinc (pc := 81) (v := 1) (lv' := [(2, .int 1), (0, .ref (z + 32)), (1, .ref (z + 1))]) hx hb dX6_init_81 hl (k := 0) rfl (by decide) (by decide) rfl (fun ls hl => ?_)
  refine lv_goto (pc := 84) (tgt := 59) hx hb dX6_init_84 (by decide) ?_
  refine lv_iload_n (pc := 59) hx hb dX6_init_59 rfl (lv_at hl 0 rfl) ?_
  refine lv_aload_n (pc := 60) hx hb dX6_init_60 rfl (lv_at hl 1 rfl) ?_
  refine a_get (pc := 61) (k := 32) (ci := 6) C hW (by decide) rfl rfl lays_X6 2 (by decide) fm_X6_19 (x := .ref (z + 34)) rfl dX6_init_61 ?_
  refine a_alen (pc := 64) (k := 34) C hW 2 (by decide) rfl rfl (v := 8) rfl dX6_init_64 ?_
  refine lv_icmp_ge (pc := 65) (tgt := 87) hx hb dX6_init_65 (by decide) (fun hc => absurd hc (by decide)) (fun _ => ?_)
  refine lv_aload_n (pc := 68) hx hb dX6_init_68 rfl (lv_at hl 1 rfl) ?_
  refine a_get (pc := 69) (k := 32) (ci := 6) C hW (by decide) rfl rfl lays_X6 2 (by decide) fm_X6_19 (x := .ref (z + 34)) rfl dX6_init_69 ?_
  refine lv_iload_n (pc := 72) hx hb dX6_init_72 rfl (lv_at hl 0 rfl) ?_
  refine a_new (pc := 73) (ci := 7) (n := 42) (n1 := 43) C hW hS tyX7 rfl lays_X7 tyX7_ok [.int 0, .int 0, .int 0, .int 0, .int 0, .int 0] (fun j hj => by match j, hj with | 0, _ => rfl | 1, _ => rfl | 2, _ => rfl | 3, _ => rfl | 4, _ => rfl | 5, _ => rfl) cl_X6_17 rfl (Nat.le_of_ble_eq_true rfl) (Nat.le_of_ble_eq_true rfl) dX6_init_73 (fun H hW hS => ?_)
  refine lv_dup (pc := 76) hx hb dX6_init_76 rfl ?_
  refine a_call (pc := 77) (k := 42) (rest := [.ref (z + 42), .int 1, .ref (z + 34)]) C hW hS (a_X7 (K := K - 1) (by omega) (k := 42) (fun q hq => hq.1) (by decide) ⟨Nat.le_add_right _ _, Nat.add_lt_add_left (by decide) _⟩ rfl) mi_X6_28 (aRoom (by omega) (by decide) (Nat.le_of_ble_eq_true rfl) (Nat.le_of_ble_eq_true rfl)) rfl rfl (Nat.le_of_ble_eq_true rfl) hl.1 dX6_init_77 (fun H locs hW hS => ?_)
  refine a_aast (pc := 80) (k := 34) (q0 := 42) (ci := 7) (i := 1) (j := 1) C hW hS 2 (by decide) rfl ⟨Nat.le_add_right _ _, Nat.add_lt_add_left (by decide) _⟩ rfl (by decide) rfl rfl (by decide) (inb_in (by decide)) dX6_init_80 (fun H locs hW hS => ?_)
  refine lv_iinc (pc := 81) (v := 2) (lv' := [(2, .int 2), (0, .ref (z + 32)), (1, .ref (z + 1))]) hx hb dX6_init_81 hl (k := 0) rfl (by decide) (by decide) rfl (fun ls hl => ?_)
  refine lv_goto (pc := 84) (tgt := 59) hx hb dX6_init_84 (by decide) ?_
  refine lv_iload_n (pc := 59) hx hb dX6_init_59 rfl (lv_at hl 0 rfl) ?_
  refine lv_aload_n (pc := 60) hx hb dX6_init_60 rfl (lv_at hl 1 rfl) ?_
  refine a_get (pc := 61) (k := 32) (ci := 6) C hW (by decide) rfl rfl lays_X6 2 (by decide) fm_X6_19 (x := .ref (z + 34)) rfl dX6_init_61 ?_
  refine a_alen (pc := 64) (k := 34) C hW 2 (by decide) rfl rfl (v := 8) rfl dX6_init_64 ?_
  refine lv_icmp_ge (pc := 65) (tgt := 87) hx hb dX6_init_65 (by decide) (fun hc => absurd hc (by decide)) (fun _ => ?_)
  refine lv_aload_n (pc := 68) hx hb dX6_init_68 rfl (lv_at hl 1 rfl) ?_
  refine a_get (pc := 69) (k := 32) (ci := 6) C hW (by decide) rfl rfl lays_X6 2 (by decide) fm_X6_19 (x := .ref (z + 34)) rfl dX6_init_69 ?_
  refine lv_iload_n (pc := 72) hx hb dX6_init_72 rfl (lv_at hl 0 rfl) ?_
  refine a_new (pc := 73) (ci := 7) (n := 43) (n1 := 44) C hW hS tyX7 rfl lays_X7 tyX7_ok [.int 0, .int 0, .int 0, .int 0, .int 0, .int 0] (fun j hj => by match j, hj with | 0, _ => rfl | 1, _ => rfl | 2, _ => rfl | 3, _ => rfl | 4, _ => rfl | 5, _ => rfl) cl_X6_17 rfl (Nat.le_of_ble_eq_true rfl) (Nat.le_of_ble_eq_true rfl) dX6_init_73 (fun H hW hS => ?_)
  refine lv_dup (pc := 76) hx hb dX6_init_76 rfl ?_
  refine a_call (pc := 77) (k := 43) (rest := [.ref (z + 43), .int 2, .ref (z + 34)]) C hW hS (a_X7 (K := K - 1) (by omega) (k := 43) (fun q hq => hq.1) (by decide) ⟨Nat.le_add_right _ _, Nat.add_lt_add_left (by decide) _⟩ rfl) mi_X6_28 (aRoom (by omega) (by decide) (Nat.le_of_ble_eq_true rfl) (Nat.le_of_ble_eq_true rfl)) rfl rfl (Nat.le_of_ble_eq_true rfl) hl.1 dX6_init_77 (fun H locs hW hS => ?_)
  refine a_aast (pc := 80) (k := 34) (q0 := 43) (ci := 7) (i := 2) (j := 2) C hW hS 2 (by decide) rfl ⟨Nat.le_add_right _ _, Nat.add_lt_add_left (by decide) _⟩ rfl (by decide) rfl rfl (by decide) (inb_in (by decide)) dX6_init_80 (fun H locs hW hS => ?_)
  refine lv_iinc (pc := 81) (v := 3) (lv' := [(2, .int 3), (0, .ref (z + 32)), (1, .ref (z + 1))]) hx hb dX6_init_81 hl (k := 0) rfl (by decide) (by decide) rfl (fun ls hl => ?_)
  refine lv_goto (pc := 84) (tgt := 59) hx hb dX6_init_84 (by decide) ?_
  refine lv_iload_n (pc := 59) hx hb dX6_init_59 rfl (lv_at hl 0 rfl) ?_
  refine lv_aload_n (pc := 60) hx hb dX6_init_60 rfl (lv_at hl 1 rfl) ?_
  refine a_get (pc := 61) (k := 32) (ci := 6) C hW (by decide) rfl rfl lays_X6 2 (by decide) fm_X6_19 (x := .ref (z + 34)) rfl dX6_init_61 ?_
  refine a_alen (pc := 64) (k := 34) C hW 2 (by decide) rfl rfl (v := 8) rfl dX6_init_64 ?_
  refine lv_icmp_ge (pc := 65) (tgt := 87) hx hb dX6_init_65 (by decide) (fun hc => absurd hc (by decide)) (fun _ => ?_)
  refine lv_aload_n (pc := 68) hx hb dX6_init_68 rfl (lv_at hl 1 rfl) ?_
  refine a_get (pc := 69) (k := 32) (ci := 6) C hW (by decide) rfl rfl lays_X6 2 (by decide) fm_X6_19 (x := .ref (z + 34)) rfl dX6_init_69 ?_
  refine lv_iload_n (pc := 72) hx hb dX6_init_72 rfl (lv_at hl 0 rfl) ?_
  refine a_new (pc := 73) (ci := 7) (n := 44) (n1 := 45) C hW hS tyX7 rfl lays_X7 tyX7_ok [.int 0, .int 0, .int 0, .int 0, .int 0, .int 0] (fun j hj => by match j, hj with | 0, _ => rfl | 1, _ => rfl | 2, _ => rfl | 3, _ => rfl | 4, _ => rfl | 5, _ => rfl) cl_X6_17 rfl (Nat.le_of_ble_eq_true rfl) (Nat.le_of_ble_eq_true rfl) dX6_init_73 (fun H hW hS => ?_)
  refine lv_dup (pc := 76) hx hb dX6_init_76 rfl ?_
  refine a_call (pc := 77) (k := 44) (rest := [.ref (z + 44), .int 3, .ref (z + 34)]) C hW hS (a_X7 (K := K - 1) (by omega) (k := 44) (fun q hq => hq.1) (by decide) ⟨Nat.le_add_right _ _, Nat.add_lt_add_left (by decide) _⟩ rfl) mi_X6_28 (aRoom (by omega) (by decide) (Nat.le_of_ble_eq_true rfl) (Nat.le_of_ble_eq_true rfl)) rfl rfl (Nat.le_of_ble_eq_true rfl) hl.1 dX6_init_77 (fun H locs hW hS => ?_)
  refine a_aast (pc := 80) (k := 34) (q0 := 44) (ci := 7) (i := 3) (j := 3) C hW hS 2 (by decide) rfl ⟨Nat.le_add_right _ _, Nat.add_lt_add_left (by decide) _⟩ rfl (by decide) rfl rfl (by decide) (inb_in (by decide)) dX6_init_80 (fun H locs hW hS => ?_)
  refine lv_iinc (pc := 81) (v := 4) (lv' := [(2, .int 4), (0, .ref (z + 32)), (1, .ref (z + 1))]) hx hb dX6_init_81 hl (k := 0) rfl (by decide) (by decide) rfl (fun ls hl => ?_)
  refine lv_goto (pc := 84) (tgt := 59) hx hb dX6_init_84 (by decide) ?_
  refine lv_iload_n (pc := 59) hx hb dX6_init_59 rfl (lv_at hl 0 rfl) ?_
  refine lv_aload_n (pc := 60) hx hb dX6_init_60 rfl (lv_at hl 1 rfl) ?_
  refine a_get (pc := 61) (k := 32) (ci := 6) C hW (by decide) rfl rfl lays_X6 2 (by decide) fm_X6_19 (x := .ref (z + 34)) rfl dX6_init_61 ?_
  refine a_alen (pc := 64) (k := 34) C hW 2 (by decide) rfl rfl (v := 8) rfl dX6_init_64 ?_
  refine lv_icmp_ge (pc := 65) (tgt := 87) hx hb dX6_init_65 (by decide) (fun hc => absurd hc (by decide)) (fun _ => ?_)
  refine lv_aload_n (pc := 68) hx hb dX6_init_68 rfl (lv_at hl 1 rfl) ?_
  refine a_get (pc := 69) (k := 32) (ci := 6) C hW (by decide) rfl rfl lays_X6 2 (by decide) fm_X6_19 (x := .ref (z + 34)) rfl dX6_init_69 ?_
  refine lv_iload_n (pc := 72) hx hb dX6_init_72 rfl (lv_at hl 0 rfl) ?_
  refine a_new (pc := 73) (ci := 7) (n := 45) (n1 := 46) C hW hS tyX7 rfl lays_X7 tyX7_ok [.int 0, .int 0, .int 0, .int 0, .int 0, .int 0] (fun j hj => by match j, hj with | 0, _ => rfl | 1, _ => rfl | 2, _ => rfl | 3, _ => rfl | 4, _ => rfl | 5, _ => rfl) cl_X6_17 rfl (Nat.le_of_ble_eq_true rfl) (Nat.le_of_ble_eq_true rfl) dX6_init_73 (fun H hW hS => ?_)
  refine lv_dup (pc := 76) hx hb dX6_init_76 rfl ?_
  refine a_call (pc := 77) (k := 45) (rest := [.ref (z + 45), .int 4, .ref (z + 34)]) C hW hS (a_X7 (K := K - 1) (by omega) (k := 45) (fun q hq => hq.1) (by decide) ⟨Nat.le_add_right _ _, Nat.add_lt_add_left (by decide) _⟩ rfl) mi_X6_28 (aRoom (by omega) (by decide) (Nat.le_of_ble_eq_true rfl) (Nat.le_of_ble_eq_true rfl)) rfl rfl (Nat.le_of_ble_eq_true rfl) hl.1 dX6_init_77 (fun H locs hW hS => ?_)
  refine a_aast (pc := 80) (k := 34) (q0 := 45) (ci := 7) (i := 4) (j := 4) C hW hS 2 (by decide) rfl ⟨Nat.le_add_right _ _, Nat.add_lt_add_left (by decide) _⟩ rfl (by decide) rfl rfl (by decide) (inb_in (by decide)) dX6_init_80 (fun H locs hW hS => ?_)
  refine lv_iinc (pc := 81) (v := 5) (lv' := [(2, .int 5), (0, .ref (z + 32)), (1, .ref (z + 1))]) hx hb dX6_init_81 hl (k := 0) rfl (by decide) (by decide) rfl (fun ls hl => ?_)
  refine lv_goto (pc := 84) (tgt := 59) hx hb dX6_init_84 (by decide) ?_
  refine lv_iload_n (pc := 59) hx hb dX6_init_59 rfl (lv_at hl 0 rfl) ?_
  refine lv_aload_n (pc := 60) hx hb dX6_init_60 rfl (lv_at hl 1 rfl) ?_
  refine a_get (pc := 61) (k := 32) (ci := 6) C hW (by decide) rfl rfl lays_X6 2 (by decide) fm_X6_19 (x := .ref (z + 34)) rfl dX6_init_61 ?_
  refine a_alen (pc := 64) (k := 34) C hW 2 (by decide) rfl rfl (v := 8) rfl dX6_init_64 ?_
  refine lv_icmp_ge (pc := 65) (tgt := 87) hx hb dX6_init_65 (by decide) (fun hc => absurd hc (by decide)) (fun _ => ?_)
  refine lv_aload_n (pc := 68) hx hb dX6_init_68 rfl (lv_at hl 1 rfl) ?_
  refine a_get (pc := 69) (k := 32) (ci := 6) C hW (by decide) rfl rfl lays_X6 2 (by decide) fm_X6_19 (x := .ref (z + 34)) rfl dX6_init_69 ?_
  refine lv_iload_n (pc := 72) hx hb dX6_init_72 rfl (lv_at hl 0 rfl) ?_
  refine a_new (pc := 73) (ci := 7) (n := 46) (n1 := 47) C hW hS tyX7 rfl lays_X7 tyX7_ok [.int 0, .int 0, .int 0, .int 0, .int 0, .int 0] (fun j hj => by match j, hj with | 0, _ => rfl | 1, _ => rfl | 2, _ => rfl | 3, _ => rfl | 4, _ => rfl | 5, _ => rfl) cl_X6_17 rfl (Nat.le_of_ble_eq_true rfl) (Nat.le_of_ble_eq_true rfl) dX6_init_73 (fun H hW hS => ?_)
  refine lv_dup (pc := 76) hx hb dX6_init_76 rfl ?_
  refine a_call (pc := 77) (k := 46) (rest := [.ref (z + 46), .int 5, .ref (z + 34)]) C hW hS (a_X7 (K := K - 1) (by omega) (k := 46) (fun q hq => hq.1) (by decide) ⟨Nat.le_add_right _ _, Nat.add_lt_add_left (by decide) _⟩ rfl) mi_X6_28 (aRoom (by omega) (by decide) (Nat.le_of_ble_eq_true rfl) (Nat.le_of_ble_eq_true rfl)) rfl rfl (Nat.le_of_ble_eq_true rfl) hl.1 dX6_init_77 (fun H locs hW hS => ?_)
  refine a_aast (pc := 80) (k := 34) (q0 := 46) (ci := 7) (i := 5) (j := 5) C hW hS 2 (by decide) rfl ⟨Nat.le_add_right _ _, Nat.add_lt_add_left (by decide) _⟩ rfl (by decide) rfl rfl (by decide) (inb_in (by decide)) dX6_init_80 (fun H locs hW hS => ?_)
  refine lv_iinc (pc := 81) (v := 6) (lv' := [(2, .int 6), (0, .ref (z + 32)), (1, .ref (z + 1))]) hx hb dX6_init_81 hl (k := 0) rfl (by decide) (by decide) rfl (fun ls hl => ?_)
  refine lv_goto (pc := 84) (tgt := 59) hx hb dX6_init_84 (by decide) ?_
  refine lv_iload_n (pc := 59) hx hb dX6_init_59 rfl (lv_at hl 0 rfl) ?_
  refine lv_aload_n (pc := 60) hx hb dX6_init_60 rfl (lv_at hl 1 rfl) ?_
  refine a_get (pc := 61) (k := 32) (ci := 6) C hW (by decide) rfl rfl lays_X6 2 (by decide) fm_X6_19 (x := .ref (z + 34)) rfl dX6_init_61 ?_
  refine a_alen (pc := 64) (k := 34) C hW 2 (by decide) rfl rfl (v := 8) rfl dX6_init_64 ?_
  refine lv_icmp_ge (pc := 65) (tgt := 87) hx hb dX6_init_65 (by decide) (fun hc => absurd hc (by decide)) (fun _ => ?_)
  refine lv_aload_n (pc := 68) hx hb dX6_init_68 rfl (lv_at hl 1 rfl) ?_
  refine a_get (pc := 69) (k := 32) (ci := 6) C hW (by decide) rfl rfl lays_X6 2 (by decide) fm_X6_19 (x := .ref (z + 34)) rfl dX6_init_69 ?_
  refine lv_iload_n (pc := 72) hx hb dX6_init_72 rfl (lv_at hl 0 rfl) ?_
  refine a_new (pc := 73) (ci := 7) (n := 47) (n1 := 48) C hW hS tyX7 rfl lays_X7 tyX7_ok [.int 0, .int 0, .int 0, .int 0, .int 0, .int 0] (fun j hj => by match j, hj with | 0, _ => rfl | 1, _ => rfl | 2, _ => rfl | 3, _ => rfl | 4, _ => rfl | 5, _ => rfl) cl_X6_17 rfl (Nat.le_of_ble_eq_true rfl) (Nat.le_of_ble_eq_true rfl) dX6_init_73 (fun H hW hS => ?_)
  refine lv_dup (pc := 76) hx hb dX6_init_76 rfl ?_
  refine a_call (pc := 77) (k := 47) (rest := [.ref (z + 47), .int 6, .ref (z + 34)]) C hW hS (a_X7 (K := K - 1) (by omega) (k := 47) (fun q hq => hq.1) (by decide) ⟨Nat.le_add_right _ _, Nat.add_lt_add_left (by decide) _⟩ rfl) mi_X6_28 (aRoom (by omega) (by decide) (Nat.le_of_ble_eq_true rfl) (Nat.le_of_ble_eq_true rfl)) rfl rfl (Nat.le_of_ble_eq_true rfl) hl.1 dX6_init_77 (fun H locs hW hS => ?_)
  refine a_aast (pc := 80) (k := 34) (q0 := 47) (ci := 7) (i := 6) (j := 6) C hW hS 2 (by decide) rfl ⟨Nat.le_add_right _ _, Nat.add_lt_add_left (by decide) _⟩ rfl (by decide) rfl rfl (by decide) (inb_in (by decide)) dX6_init_80 (fun H locs hW hS => ?_)
  refine lv_iinc (pc := 81) (v := 7) (lv' := [(2, .int 7), (0, .ref (z + 32)), (1, .ref (z + 1))]) hx hb dX6_init_81 hl (k := 0) rfl (by decide) (by decide) rfl (fun ls hl => ?_)
  refine lv_goto (pc := 84) (tgt := 59) hx hb dX6_init_84 (by decide) ?_
  refine lv_iload_n (pc := 59) hx hb dX6_init_59 rfl (lv_at hl 0 rfl) ?_
  refine lv_aload_n (pc := 60) hx hb dX6_init_60 rfl (lv_at hl 1 rfl) ?_
  refine a_get (pc := 61) (k := 32) (ci := 6) C hW (by decide) rfl rfl lays_X6 2 (by decide) fm_X6_19 (x := .ref (z + 34)) rfl dX6_init_61 ?_
  refine a_alen (pc := 64) (k := 34) C hW 2 (by decide) rfl rfl (v := 8) rfl dX6_init_64 ?_
  refine lv_icmp_ge (pc := 65) (tgt := 87) hx hb dX6_init_65 (by decide) (fun hc => absurd hc (by decide)) (fun _ => ?_)
  refine lv_aload_n (pc := 68) hx hb dX6_init_68 rfl (lv_at hl 1 rfl) ?_
  refine a_get (pc := 69) (k := 32) (ci := 6) C hW (by decide) rfl rfl lays_X6 2 (by decide) fm_X6_19 (x := .ref (z + 34)) rfl dX6_init_69 ?_
  refine lv_iload_n (pc := 72) hx hb dX6_init_72 rfl (lv_at hl 0 rfl) ?_
  refine a_new (pc := 73) (ci := 7) (n := 48) (n1 := 49) C hW hS tyX7 rfl lays_X7 tyX7_ok [.int 0, .int 0, .int 0, .int 0, .int 0, .int 0] (fun j hj => by match j, hj with | 0, _ => rfl | 1, _ => rfl | 2, _ => rfl | 3, _ => rfl | 4, _ => rfl | 5, _ => rfl) cl_X6_17 rfl (Nat.le_of_ble_eq_true rfl) (Nat.le_of_ble_eq_true rfl) dX6_init_73 (fun H hW hS => ?_)
  refine lv_dup (pc := 76) hx hb dX6_init_76 rfl ?_
  refine a_call (pc := 77) (k := 48) (rest := [.ref (z + 48), .int 7, .ref (z + 34)]) C hW hS (a_X7 (K := K - 1) (by omega) (k := 48) (fun q hq => hq.1) (by decide) ⟨Nat.le_add_right _ _, Nat.add_lt_add_left (by decide) _⟩ rfl) mi_X6_28 (aRoom (by omega) (by decide) (Nat.le_of_ble_eq_true rfl) (Nat.le_of_ble_eq_true rfl)) rfl rfl (Nat.le_of_ble_eq_true rfl) hl.1 dX6_init_77 (fun H locs hW hS => ?_)
  refine a_aast (pc := 80) (k := 34) (q0 := 48) (ci := 7) (i := 7) (j := 7) C hW hS 2 (by decide) rfl ⟨Nat.le_add_right _ _, Nat.add_lt_add_left (by decide) _⟩ rfl (by decide) rfl rfl (by decide) (inb_in (by decide)) dX6_init_80 (fun H locs hW hS => ?_)
  refine lv_iinc (pc := 81) (v := 8) (lv' := [(2, .int 8), (0, .ref (z + 32)), (1, .ref (z + 1))]) hx hb dX6_init_81 hl (k := 0) rfl (by decide) (by decide) rfl (fun ls hl => ?_)
  refine lv_goto (pc := 84) (tgt := 59) hx hb dX6_init_84 (by decide) ?_
  refine lv_iload_n (pc := 59) hx hb dX6_init_59 rfl (lv_at hl 0 rfl) ?_
  refine lv_aload_n (pc := 60) hx hb dX6_init_60 rfl (lv_at hl 1 rfl) ?_
  refine a_get (pc := 61) (k := 32) (ci := 6) C hW (by decide) rfl rfl lays_X6 2 (by decide) fm_X6_19 (x := .ref (z + 34)) rfl dX6_init_61 ?_
  refine a_alen (pc := 64) (k := 34) C hW 2 (by decide) rfl rfl (v := 8) rfl dX6_init_64 ?_
  refine lv_icmp_ge (pc := 65) (tgt := 87) hx hb dX6_init_65 (by decide) (fun _ => ?_) (fun hc => absurd (by decide) hc)
  refine a_vret (pc := 87) C hW hS dX6_init_87 rfl rfl rfl (fun q hq a H => ?_)
  have hc : q < 32 ∨ q = 32 ∨ q = 33 ∨ q = 34 ∨ q = 35 ∨ q = 36 ∨ q = 37 ∨ q = 38 ∨ q = 39 ∨ q = 40 ∨ q = 41 ∨ q = 42 ∨ q = 43 ∨ q = 44 ∨ q = 45 ∨ q = 46 ∨ q = 47 ∨ q = 48 := by omega
  rcases hc with hc | rfl | rfl | rfl | rfl | rfl | rfl | rfl | rfl | rfl | rfl | rfl | rfl | rfl | rfl | rfl | rfl | rfl
  · have e1 : mixE ac z 32 w q = w q := if_pos hc
    rw [e1]
    intro h
    simp (disch := omega) only [va_up_ne] at h
    exact h
  · exact id
  · refine at_refs (cA := ac 1) (N := 6) ?_ a H
    intro i hi
    have hi2 : i = 0 ∨ i = 1 ∨ i = 2 ∨ i = 3 ∨ i = 4 ∨ i = 5 := by omega
    rcases hi2 with rfl | rfl | rfl | rfl | rfl | rfl <;> rfl
  · refine at_refs (cA := ac 2) (N := 8) ?_ a H
    intro i hi
    have hi2 : i = 0 ∨ i = 1 ∨ i = 2 ∨ i = 3 ∨ i = 4 ∨ i = 5 ∨ i = 6 ∨ i = 7 := by omega
    rcases hi2 with rfl | rfl | rfl | rfl | rfl | rfl | rfl | rfl <;> rfl
  · exact id
  · exact id
  · exact id
  · exact id
  · exact id
  · exact id
  · exact id
  · exact id
  · exact id
  · exact id
  · exact id
  · exact id
  · exact id
  · exact id

theorem a_X6_49 {K : Nat} (hK : 2 ≤ K) (he : w 49 = .inr (6, [.null, .null, .null, .int 0, .int 0, .int 0, .int 0, .int 0, .int 0, .int 0, .int 0, .int 0])) : MA l D z ac (z, aK, aV) (Ac z) yX6_init cX6_init 3 none K 16 98 [.ref (z + 49), .ref (z + 1)] 50 w none 66 (mixE ac z 49 w) := by
  refine MA.of (fun q hq => hq.1) (plainFor_of_name (by decide)) (Nat.le_of_ble_eq_true rfl) ?_
  intro p e s m below meth c args C hin hW ls hl
  replace hl : lv_has ls 3 [(0, .ref (z + 49)), (1, .ref (z + 1))] := hl
  have hS : va_S (Ac z) s.heap s.heap [] := va_S.rf
  have hx := C.1.1
  have hb := C.1.2.1
  have hK1 : 1 ≤ K := by omega
  replace hW : Wg D z 50 (va_up w 49 (.inr (6, [.null, .null, .null, .int 0, .int 0, .int 0, .int 0, .int 0, .int 0, .int 0, .int 0, .int 0]))) s.heap := ⟨hW.1, fun q hq => by
    unfold va_up
    by_cases h : q = 49
    · subst h
      rw [if_pos rfl, ← he]
      exact hW.2 _ hq
    · rw [if_neg h]
      exact hW.2 _ hq⟩
  refine lv_aload_n (pc := 0) hx hb dX6_init_0 rfl (lv_at hl 0 rfl) ?_
  refine a_obj (pc := 1) C ob_X6 hl.1 (aRoom0 hK1) dX6_init_1 ?_
  refine lv_aload_n (pc := 4) hx hb dX6_init_4 rfl (lv_at hl 0 rfl) ?_
  refine lv_bipush (pc := 5) (v := 6) hx hb dX6_init_5 (by decide) ?_
  refine a_anewa (pc := 7) (n := 50) (n1 := 51) (N := 6) C hW hS 1 rfl (by decide) cl_X6_9.1 (by decide) (by decide) (by decide) rfl (Nat.le_of_ble_eq_true rfl) (Nat.le_of_ble_eq_true rfl) dX6_init_7 (fun H hW hS => ?_)
  refine a_putF (pc := 10) (k := 49) (ci := 6) C hW hS tyX6 (by decide) rfl ⟨Nat.le_add_right _ _, Nat.add_lt_add_left (by decide) _⟩ rfl lays_X6 tyX6_ok nmX6 1 (by decide) fm_X6_11 rfl hin rfl (x := .ref (z + 50)) rfl rfl (Nat.le_of_ble_eq_true rfl) dX6_init_10 (fun H locs hW hS => ?_)
  refine lv_aload_n (pc := 13) hx hb dX6_init_13 rfl (lv_at hl 0 rfl) ?_
  refine lv_bipush (pc := 14) (v := 8) hx hb dX6_init_14 (by decide) ?_
  refine a_anewa (pc := 16) (n := 51) (n1 := 52) (N := 8) C hW hS 2 rfl (by decide) cl_X6_17.1 (by decide) (by decide) (by decide) rfl (Nat.le_of_ble_eq_true rfl) (Nat.le_of_ble_eq_true rfl) dX6_init_16 (fun H hW hS => ?_)
  refine a_putF (pc := 19) (k := 49) (ci := 6) C hW hS tyX6 (by decide) rfl ⟨Nat.le_add_right _ _, Nat.add_lt_add_left (by decide) _⟩ rfl lays_X6 tyX6_ok nmX6 2 (by decide) fm_X6_19 rfl hin rfl (x := .ref (z + 51)) rfl rfl (Nat.le_of_ble_eq_true rfl) dX6_init_19 (fun H locs hW hS => ?_)
  refine lv_aload_n (pc := 22) hx hb dX6_init_22 rfl (lv_at hl 0 rfl) ?_
  refine lv_aload_n (pc := 23) hx hb dX6_init_23 rfl (lv_at hl 1 rfl) ?_
  refine a_putF (pc := 24) (k := 49) (ci := 6) C hW hS tyX6 (by decide) rfl ⟨Nat.le_add_right _ _, Nat.add_lt_add_left (by decide) _⟩ rfl lays_X6 tyX6_ok nmX6 0 (by decide) fm_X6_23 rfl hin rfl (x := .ref (z + 1)) rfl rfl (Nat.le_of_ble_eq_true rfl) dX6_init_24 (fun H locs hW hS => ?_)
  refine lv_iconst (pc := 27) (v := 0) hx hb dX6_init_27 (by decide) ?_
  refine lv_istore_n (pc := 28) (lv' := [(2, .int 0), (0, .ref (z + 49)), (1, .ref (z + 1))]) hx hb dX6_init_28 rfl hl (by decide) rfl (fun ls hl => ?_)
  refine lv_iload_n (pc := 29) hx hb dX6_init_29 rfl (lv_at hl 0 rfl) ?_
  refine lv_aload_n (pc := 30) hx hb dX6_init_30 rfl (lv_at hl 1 rfl) ?_
  refine a_get (pc := 31) (k := 49) (ci := 6) C hW (by decide) rfl rfl lays_X6 1 (by decide) fm_X6_11 (x := .ref (z + 50)) rfl dX6_init_31 ?_
  refine a_alen (pc := 34) (k := 50) C hW 1 (by decide) rfl rfl (v := 6) rfl dX6_init_34 ?_
  refine lv_icmp_ge (pc := 35) (tgt := 57) hx hb dX6_init_35 (by decide) (fun hc => absurd hc (by decide)) (fun _ => ?_)
  refine lv_aload_n (pc := 38) hx hb dX6_init_38 rfl (lv_at hl 1 rfl) ?_
  refine a_get (pc := 39) (k := 49) (ci := 6) C hW (by decide) rfl rfl lays_X6 1 (by decide) fm_X6_11 (x := .ref (z + 50)) rfl dX6_init_39 ?_
  refine lv_iload_n (pc := 42) hx hb dX6_init_42 rfl (lv_at hl 0 rfl) ?_
  refine a_new (pc := 43) (ci := 1) (n := 52) (n1 := 53) C hW hS tyX1 rfl lays_X1 tyX1_ok [.int 0, .int 0, .int 0, .int 0, .int 0, .int 0] (fun j hj => by match j, hj with | 0, _ => rfl | 1, _ => rfl | 2, _ => rfl | 3, _ => rfl | 4, _ => rfl | 5, _ => rfl) cl_X6_9 rfl (Nat.le_of_ble_eq_true rfl) (Nat.le_of_ble_eq_true rfl) dX6_init_43 (fun H hW hS => ?_)
  refine lv_dup (pc := 46) hx hb dX6_init_46 rfl ?_
  refine a_call (pc := 47) (k := 52) (rest := [.ref (z + 52), .int 0, .ref (z + 50)]) C hW hS (a_X1 (K := K - 1) (by omega) (fun q hq => hq.1)) mi_X6_27 (aRoom (by omega) (by decide) (Nat.le_of_ble_eq_true rfl) (Nat.le_of_ble_eq_true rfl)) rfl rfl (Nat.le_of_ble_eq_true rfl) hl.1 dX6_init_47 (fun H locs hW hS => ?_)
  refine a_aast (pc := 50) (k := 50) (q0 := 52) (ci := 1) (i := 0) (j := 0) C hW hS 1 (by decide) rfl ⟨Nat.le_add_right _ _, Nat.add_lt_add_left (by decide) _⟩ rfl (by decide) rfl rfl (by decide) (inb_in (by decide)) dX6_init_50 (fun H locs hW hS => ?_)
  refine lv_iinc (pc := 51) (v := 1) (lv' := [(2, .int 1), (0, .ref (z + 49)), (1, .ref (z + 1))]) hx hb dX6_init_51 hl (k := 0) rfl (by decide) (by decide) rfl (fun ls hl => ?_)
  refine lv_goto (pc := 54) (tgt := 29) hx hb dX6_init_54 (by decide) ?_
  refine lv_iload_n (pc := 29) hx hb dX6_init_29 rfl (lv_at hl 0 rfl) ?_
  refine lv_aload_n (pc := 30) hx hb dX6_init_30 rfl (lv_at hl 1 rfl) ?_
  refine a_get (pc := 31) (k := 49) (ci := 6) C hW (by decide) rfl rfl lays_X6 1 (by decide) fm_X6_11 (x := .ref (z + 50)) rfl dX6_init_31 ?_
  refine a_alen (pc := 34) (k := 50) C hW 1 (by decide) rfl rfl (v := 6) rfl dX6_init_34 ?_
  refine lv_icmp_ge (pc := 35) (tgt := 57) hx hb dX6_init_35 (by decide) (fun hc => absurd hc (by decide)) (fun _ => ?_)
  refine lv_aload_n (pc := 38) hx hb dX6_init_38 rfl (lv_at hl 1 rfl) ?_
  refine a_get (pc := 39) (k := 49) (ci := 6) C hW (by decide) rfl rfl lays_X6 1 (by decide) fm_X6_11 (x := .ref (z + 50)) rfl dX6_init_39 ?_
  refine lv_iload_n (pc := 42) hx hb dX6_init_42 rfl (lv_at hl 0 rfl) ?_
  refine a_new (pc := 43) (ci := 1) (n := 53) (n1 := 54) C hW hS tyX1 rfl lays_X1 tyX1_ok [.int 0, .int 0, .int 0, .int 0, .int 0, .int 0] (fun j hj => by match j, hj with | 0, _ => rfl | 1, _ => rfl | 2, _ => rfl | 3, _ => rfl | 4, _ => rfl | 5, _ => rfl) cl_X6_9 rfl (Nat.le_of_ble_eq_true rfl) (Nat.le_of_ble_eq_true rfl) dX6_init_43 (fun H hW hS => ?_)
  refine lv_dup (pc := 46) hx hb dX6_init_46 rfl ?_
  refine a_call (pc := 47) (k := 53) (rest := [.ref (z + 53), .int 1, .ref (z + 50)]) C hW hS (a_X1 (K := K - 1) (by omega) (fun q hq => hq.1)) mi_X6_27 (aRoom (by omega) (by decide) (Nat.le_of_ble_eq_true rfl) (Nat.le_of_ble_eq_true rfl)) rfl rfl (Nat.le_of_ble_eq_true rfl) hl.1 dX6_init_47 (fun H locs hW hS => ?_)
  refine a_aast (pc := 50) (k := 50) (q0 := 53) (ci := 1) (i := 1) (j := 1) C hW hS 1 (by decide) rfl ⟨Nat.le_add_right _ _, Nat.add_lt_add_left (by decide) _⟩ rfl (by decide) rfl rfl (by decide) (inb_in (by decide)) dX6_init_50 (fun H locs hW hS => ?_)
  refine lv_iinc (pc := 51) (v := 2) (lv' := [(2, .int 2), (0, .ref (z + 49)), (1, .ref (z + 1))]) hx hb dX6_init_51 hl (k := 0) rfl (by decide) (by decide) rfl (fun ls hl => ?_)
  refine lv_goto (pc := 54) (tgt := 29) hx hb dX6_init_54 (by decide) ?_
  refine lv_iload_n (pc := 29) hx hb dX6_init_29 rfl (lv_at hl 0 rfl) ?_
  refine lv_aload_n (pc := 30) hx hb dX6_init_30 rfl (lv_at hl 1 rfl) ?_
  refine a_get (pc := 31) (k := 49) (ci := 6) C hW (by decide) rfl rfl lays_X6 1 (by decide) fm_X6_11 (x := .ref (z + 50)) rfl dX6_init_31 ?_
  refine a_alen (pc := 34) (k := 50) C hW 1 (by decide) rfl rfl (v := 6) rfl dX6_init_34 ?_
  refine lv_icmp_ge (pc := 35) (tgt := 57) hx hb dX6_init_35 (by decide) (fun hc => absurd hc (by decide)) (fun _ => ?_)
  refine lv_aload_n (pc := 38) hx hb dX6_init_38 rfl (lv_at hl 1 rfl) ?_
  refine a_get (pc := 39) (k := 49) (ci := 6) C hW (by decide) rfl rfl lays_X6 1 (by decide) fm_X6_11 (x := .ref (z + 50)) rfl dX6_init_39 ?_
  refine lv_iload_n (pc := 42) hx hb dX6_init_42 rfl (lv_at hl 0 rfl) ?_
  refine a_new (pc := 43) (ci := 1) (n := 54) (n1 := 55) C hW hS tyX1 rfl lays_X1 tyX1_ok [.int 0, .int 0, .int 0, .int 0, .int 0, .int 0] (fun j hj => by match j, hj with | 0, _ => rfl | 1, _ => rfl | 2, _ => rfl | 3, _ => rfl | 4, _ => rfl | 5, _ => rfl) cl_X6_9 rfl (Nat.le_of_ble_eq_true rfl) (Nat.le_of_ble_eq_true rfl) dX6_init_43 (fun H hW hS => ?_)
  refine lv_dup (pc := 46) hx hb dX6_init_46 rfl ?_
  refine a_call (pc := 47) (k := 54) (rest := [.ref (z + 54), .int 2, .ref (z + 50)]) C hW hS (a_X1 (K := K - 1) (by omega) (fun q hq => hq.1)) mi_X6_27 (aRoom (by omega) (by decide) (Nat.le_of_ble_eq_true rfl) (Nat.le_of_ble_eq_true rfl)) rfl rfl (Nat.le_of_ble_eq_true rfl) hl.1 dX6_init_47 (fun H locs hW hS => ?_)
  refine a_aast (pc := 50) (k := 50) (q0 := 54) (ci := 1) (i := 2) (j := 2) C hW hS 1 (by decide) rfl ⟨Nat.le_add_right _ _, Nat.add_lt_add_left (by decide) _⟩ rfl (by decide) rfl rfl (by decide) (inb_in (by decide)) dX6_init_50 (fun H locs hW hS => ?_)
  refine lv_iinc (pc := 51) (v := 3) (lv' := [(2, .int 3), (0, .ref (z + 49)), (1, .ref (z + 1))]) hx hb dX6_init_51 hl (k := 0) rfl (by decide) (by decide) rfl (fun ls hl => ?_)
  refine lv_goto (pc := 54) (tgt := 29) hx hb dX6_init_54 (by decide) ?_
  refine lv_iload_n (pc := 29) hx hb dX6_init_29 rfl (lv_at hl 0 rfl) ?_
  refine lv_aload_n (pc := 30) hx hb dX6_init_30 rfl (lv_at hl 1 rfl) ?_
  refine a_get (pc := 31) (k := 49) (ci := 6) C hW (by decide) rfl rfl lays_X6 1 (by decide) fm_X6_11 (x := .ref (z + 50)) rfl dX6_init_31 ?_
  refine a_alen (pc := 34) (k := 50) C hW 1 (by decide) rfl rfl (v := 6) rfl dX6_init_34 ?_
  refine lv_icmp_ge (pc := 35) (tgt := 57) hx hb dX6_init_35 (by decide) (fun hc => absurd hc (by decide)) (fun _ => ?_)
  refine lv_aload_n (pc := 38) hx hb dX6_init_38 rfl (lv_at hl 1 rfl) ?_
  refine a_get (pc := 39) (k := 49) (ci := 6) C hW (by decide) rfl rfl lays_X6 1 (by decide) fm_X6_11 (x := .ref (z + 50)) rfl dX6_init_39 ?_
  refine lv_iload_n (pc := 42) hx hb dX6_init_42 rfl (lv_at hl 0 rfl) ?_
  refine a_new (pc := 43) (ci := 1) (n := 55) (n1 := 56) C hW hS tyX1 rfl lays_X1 tyX1_ok [.int 0, .int 0, .int 0, .int 0, .int 0, .int 0] (fun j hj => by match j, hj with | 0, _ => rfl | 1, _ => rfl | 2, _ => rfl | 3, _ => rfl | 4, _ => rfl | 5, _ => rfl) cl_X6_9 rfl (Nat.le_of_ble_eq_true rfl) (Nat.le_of_ble_eq_true rfl) dX6_init_43 (fun H hW hS => ?_)
  refine lv_dup (pc := 46) hx hb dX6_init_46 rfl ?_
  refine a_call (pc := 47) (k := 55) (rest := [.ref (z + 55), .int 3, .ref (z + 50)]) C hW hS (a_X1 (K := K - 1) (by omega) (fun q hq => hq.1)) mi_X6_27 (aRoom (by omega) (by decide) (Nat.le_of_ble_eq_true rfl) (Nat.le_of_ble_eq_true rfl)) rfl rfl (Nat.le_of_ble_eq_true rfl) hl.1 dX6_init_47 (fun H locs hW hS => ?_)
  refine a_aast (pc := 50) (k := 50) (q0 := 55) (ci := 1) (i := 3) (j := 3) C hW hS 1 (by decide) rfl ⟨Nat.le_add_right _ _, Nat.add_lt_add_left (by decide) _⟩ rfl (by decide) rfl rfl (by decide) (inb_in (by decide)) dX6_init_50 (fun H locs hW hS => ?_)
  refine lv_iinc (pc := 51) (v := 4) (lv' := [(2, .int 4), (0, .ref (z + 49)), (1, .ref (z + 1))]) hx hb dX6_init_51 hl (k := 0) rfl (by decide) (by decide) rfl (fun ls hl => ?_)
  refine lv_goto (pc := 54) (tgt := 29) hx hb dX6_init_54 (by decide) ?_
  refine lv_iload_n (pc := 29) hx hb dX6_init_29 rfl (lv_at hl 0 rfl) ?_
  refine lv_aload_n (pc := 30) hx hb dX6_init_30 rfl (lv_at hl 1 rfl) ?_
  refine a_get (pc := 31) (k := 49) (ci := 6) C hW (by decide) rfl rfl lays_X6 1 (by decide) fm_X6_11 (x := .ref (z + 50)) rfl dX6_init_31 ?_
  refine a_alen (pc := 34) (k := 50) C hW 1 (by decide) rfl rfl (v := 6) rfl dX6_init_34 ?_
  refine lv_icmp_ge (pc := 35) (tgt := 57) hx hb dX6_init_35 (by decide) (fun hc => absurd hc (by decide)) (fun _ => ?_)
  refine lv_aload_n (pc := 38) hx hb dX6_init_38 rfl (lv_at hl 1 rfl) ?_
  refine a_get (pc := 39) (k := 49) (ci := 6) C hW (by decide) rfl rfl lays_X6 1 (by decide) fm_X6_11 (x := .ref (z + 50)) rfl dX6_init_39 ?_
  refine lv_iload_n (pc := 42) hx hb dX6_init_42 rfl (lv_at hl 0 rfl) ?_
  refine a_new (pc := 43) (ci := 1) (n := 56) (n1 := 57) C hW hS tyX1 rfl lays_X1 tyX1_ok [.int 0, .int 0, .int 0, .int 0, .int 0, .int 0] (fun j hj => by match j, hj with | 0, _ => rfl | 1, _ => rfl | 2, _ => rfl | 3, _ => rfl | 4, _ => rfl | 5, _ => rfl) cl_X6_9 rfl (Nat.le_of_ble_eq_true rfl) (Nat.le_of_ble_eq_true rfl) dX6_init_43 (fun H hW hS => ?_)
  refine lv_dup (pc := 46) hx hb dX6_init_46 rfl ?_
  refine a_call (pc := 47) (k := 56) (rest := [.ref (z + 56), .int 4, .ref (z + 50)]) C hW hS (a_X1 (K := K - 1) (by omega) (fun q hq => hq.1)) mi_X6_27 (aRoom (by omega) (by decide) (Nat.le_of_ble_eq_true rfl) (Nat.le_of_ble_eq_true rfl)) rfl rfl (Nat.le_of_ble_eq_true rfl) hl.1 dX6_init_47 (fun H locs hW hS => ?_)
  refine a_aast (pc := 50) (k := 50) (q0 := 56) (ci := 1) (i := 4) (j := 4) C hW hS 1 (by decide) rfl ⟨Nat.le_add_right _ _, Nat.add_lt_add_left (by decide) _⟩ rfl (by decide) rfl rfl (by decide) (inb_in (by decide)) dX6_init_50 (fun H locs hW hS => ?_)
  refine lv_iinc (pc := 51) (v := 5) (lv' := [(2, .int 5), (0, .ref (z + 49)), (1, .ref (z + 1))]) hx hb dX6_init_51 hl (k := 0) rfl (by decide) (by decide) rfl (fun ls hl => ?_)
  refine lv_goto (pc := 54) (tgt := 29) hx hb dX6_init_54 (by decide) ?_
  refine lv_iload_n (pc := 29) hx hb dX6_init_29 rfl (lv_at hl 0 rfl) ?_
  refine lv_aload_n (pc := 30) hx hb dX6_init_30 rfl (lv_at hl 1 rfl) ?_
  refine a_get (pc := 31) (k := 49) (ci := 6) C hW (by decide) rfl rfl lays_X6 1 (by decide) fm_X6_11 (x := .ref (z + 50)) rfl dX6_init_31 ?_
  refine a_alen (pc := 34) (k := 50) C hW 1 (by decide) rfl rfl (v := 6) rfl dX6_init_34 ?_
  refine lv_icmp_ge (pc := 35) (tgt := 57) hx hb dX6_init_35 (by decide) (fun hc => absurd hc (by decide)) (fun _ => ?_)
  refine lv_aload_n (pc := 38) hx hb dX6_init_38 rfl (lv_at hl 1 rfl) ?_
  refine a_get (pc := 39) (k := 49) (ci := 6) C hW (by decide) rfl rfl lays_X6 1 (by decide) fm_X6_11 (x := .ref (z + 50)) rfl dX6_init_39 ?_
  refine lv_iload_n (pc := 42) hx hb dX6_init_42 rfl (lv_at hl 0 rfl) ?_
  refine a_new (pc := 43) (ci := 1) (n := 57) (n1 := 58) C hW hS tyX1 rfl lays_X1 tyX1_ok [.int 0, .int 0, .int 0, .int 0, .int 0, .int 0] (fun j hj => by match j, hj with | 0, _ => rfl | 1, _ => rfl | 2, _ => rfl | 3, _ => rfl | 4, _ => rfl | 5, _ => rfl) cl_X6_9 rfl (Nat.le_of_ble_eq_true rfl) (Nat.le_of_ble_eq_true rfl) dX6_init_43 (fun H hW hS => ?_)
  refine lv_dup (pc := 46) hx hb dX6_init_46 rfl ?_
  refine a_call (pc := 47) (k := 57) (rest := [.ref (z + 57), .int 5, .ref (z + 50)]) C hW hS (a_X1 (K := K - 1) (by omega) (fun q hq => hq.1)) mi_X6_27 (aRoom (by omega) (by decide) (Nat.le_of_ble_eq_true rfl) (Nat.le_of_ble_eq_true rfl)) rfl rfl (Nat.le_of_ble_eq_true rfl) hl.1 dX6_init_47 (fun H locs hW hS => ?_)
  refine a_aast (pc := 50) (k := 50) (q0 := 57) (ci := 1) (i := 5) (j := 5) C hW hS 1 (by decide) rfl ⟨Nat.le_add_right _ _, Nat.add_lt_add_left (by decide) _⟩ rfl (by decide) rfl rfl (by decide) (inb_in (by decide)) dX6_init_50 (fun H locs hW hS => ?_)
  refine lv_iinc (pc := 51) (v := 6) (lv' := [(2, .int 6), (0, .ref (z + 49)), (1, .ref (z + 1))]) hx hb dX6_init_51 hl (k := 0) rfl (by decide) (by decide) rfl (fun ls hl => ?_)
  refine lv_goto (pc := 54) (tgt := 29) hx hb dX6_init_54 (by decide) ?_
  refine lv_iload_n (pc := 29) hx hb dX6_init_29 rfl (lv_at hl 0 rfl) ?_
  refine lv_aload_n (pc := 30) hx hb dX6_init_30 rfl (lv_at hl 1 rfl) ?_
  refine a_get (pc := 31) (k := 49) (ci := 6) C hW (by decide) rfl rfl lays_X6 1 (by decide) fm_X6_11 (x := .ref (z + 50)) rfl dX6_init_31 ?_
  refine a_alen (pc := 34) (k := 50) C hW 1 (by decide) rfl rfl (v := 6) rfl dX6_init_34 ?_
  refine lv_icmp_ge (pc := 35) (tgt := 57) hx hb dX6_init_35 (by decide) (fun _ => ?_) (fun hc => absurd (by decide) hc)
  refine lv_iconst (pc := 57) (v := 0) hx hb dX6_init_57 (by decide) ?_
  refine lv_istore_n (pc := 58) (lv' := [(2, .int 0), (0, .ref (z + 49)), (1, .ref (z + 1))]) hx hb dX6_init_58 rfl hl (by decide) rfl (fun ls hl => ?_)
  refine lv_iload_n (pc := 59) hx hb dX6_init_59 rfl (lv_at hl 0 rfl) ?_
  refine lv_aload_n (pc := 60) hx hb dX6_init_60 rfl (lv_at hl 1 rfl) ?_
  refine a_get (pc := 61) (k := 49) (ci := 6) C hW (by decide) rfl rfl lays_X6 2 (by decide) fm_X6_19 (x := .ref (z + 51)) rfl dX6_init_61 ?_
  refine a_alen (pc := 64) (k := 51) C hW 2 (by decide) rfl rfl (v := 8) rfl dX6_init_64 ?_
  refine lv_icmp_ge (pc := 65) (tgt := 87) hx hb dX6_init_65 (by decide) (fun hc => absurd hc (by decide)) (fun _ => ?_)
  refine lv_aload_n (pc := 68) hx hb dX6_init_68 rfl (lv_at hl 1 rfl) ?_
  refine a_get (pc := 69) (k := 49) (ci := 6) C hW (by decide) rfl rfl lays_X6 2 (by decide) fm_X6_19 (x := .ref (z + 51)) rfl dX6_init_69 ?_
  refine lv_iload_n (pc := 72) hx hb dX6_init_72 rfl (lv_at hl 0 rfl) ?_
  refine a_new (pc := 73) (ci := 7) (n := 58) (n1 := 59) C hW hS tyX7 rfl lays_X7 tyX7_ok [.int 0, .int 0, .int 0, .int 0, .int 0, .int 0] (fun j hj => by match j, hj with | 0, _ => rfl | 1, _ => rfl | 2, _ => rfl | 3, _ => rfl | 4, _ => rfl | 5, _ => rfl) cl_X6_17 rfl (Nat.le_of_ble_eq_true rfl) (Nat.le_of_ble_eq_true rfl) dX6_init_73 (fun H hW hS => ?_)
  refine lv_dup (pc := 76) hx hb dX6_init_76 rfl ?_
  refine a_call (pc := 77) (k := 58) (rest := [.ref (z + 58), .int 0, .ref (z + 51)]) C hW hS (a_X7 (K := K - 1) (by omega) (k := 58) (fun q hq => hq.1) (by decide) ⟨Nat.le_add_right _ _, Nat.add_lt_add_left (by decide) _⟩ rfl) mi_X6_28 (aRoom (by omega) (by decide) (Nat.le_of_ble_eq_true rfl) (Nat.le_of_ble_eq_true rfl)) rfl rfl (Nat.le_of_ble_eq_true rfl) hl.1 dX6_init_77 (fun H locs hW hS => ?_)
  refine a_aast (pc := 80) (k := 51) (q0 := 58) (ci := 7) (i := 0) (j := 0) C hW hS 2 (by decide) rfl ⟨Nat.le_add_right _ _, Nat.add_lt_add_left (by decide) _⟩ rfl (by decide) rfl rfl (by decide) (inb_in (by decide)) dX6_init_80 (fun H locs hW hS => ?_)
  refine lv_iinc (pc := 81) (v := 1) (lv' := [(2, .int 1), (0, .ref (z + 49)), (1, .ref (z + 1))]) hx hb dX6_init_81 hl (k := 0) rfl (by decide) (by decide) rfl (fun ls hl => ?_)
  refine lv_goto (pc := 84) (tgt := 59) hx hb dX6_init_84 (by decide) ?_
  refine lv_iload_n (pc := 59) hx hb dX6_init_59 rfl (lv_at hl 0 rfl) ?_
  refine lv_aload_n (pc := 60) hx hb dX6_init_60 rfl (lv_at hl 1 rfl) ?_
  refine a_get (pc := 61) (k := 49) (ci := 6) C hW (by decide) rfl rfl lays_X6 2 (by decide) fm_X6_19 (x := .ref (z + 51)) rfl dX6_init_61 ?_
  refine a_alen (pc := 64) (k := 51) C hW 2 (by decide) rfl rfl (v := 8) rfl dX6_init_64 ?_
  refine lv_icmp_ge (pc := 65) (tgt := 87) hx hb dX6_init_65 (by decide) (fun hc => absurd hc (by decide)) (fun _ => ?_)
  refine lv_aload_n (pc := 68) hx hb dX6_init_68 rfl (lv_at hl 1 rfl) ?_
  refine a_get (pc := 69) (k := 49) (ci := 6) C hW (by decide) rfl rfl lays_X6 2 (by decide) fm_X6_19 (x := .ref (z + 51)) rfl dX6_init_69 ?_
  refine lv_iload_n (pc := 72) hx hb dX6_init_72 rfl (lv_at hl 0 rfl) ?_
  refine a_new (pc := 73) (ci := 7) (n := 59) (n1 := 60) C hW hS tyX7 rfl lays_X7 tyX7_ok [.int 0, .int 0, .int 0, .int 0, .int 0, .int 0] (fun j hj => by match j, hj with | 0, _ => rfl | 1, _ => rfl | 2, _ => rfl | 3, _ => rfl | 4, _ => rfl | 5, _ => rfl) cl_X6_17 rfl (Nat.le_of_ble_eq_true rfl) (Nat.le_of_ble_eq_true rfl) dX6_init_73 (fun H hW hS => ?_)
  refine lv_dup (pc := 76) hx hb dX6_init_76 rfl ?_
  refine a_call (pc := 77) (k := 59) (rest := [.ref (z + 59), .int 1, .ref (z + 51)]) C hW hS (a_X7 (K := K - 1) (by omega) (k := 59) (fun q hq => hq.1) (by decide) ⟨Nat.le_add_right _ _, Nat.add_lt_add_left (by decide) _⟩ rfl) mi_X6_28 (aRoom (by omega) (by decide) (Nat.le_of_ble_eq_true rfl) (Nat.le_of_ble_eq_true rfl)) rfl rfl (Nat.le_of_ble_eq_true rfl) hl.1 dX6_init_77 (fun H locs hW hS => ?_)
  refine a_aast (pc := 80) (k := 51) (q0 := 59) (ci := 7) (i := 1) (j := 1) C hW hS 2 (by decide) rfl ⟨Nat.le_add_right _ _, Nat.add_lt_add_left (by decide) _⟩ rfl (by decide) rfl rfl (by decide) (inb_in (by decide)) dX6_init_80 (fun H locs hW hS => ?_)
  refine lv_iinc (pc := 81) (v := 2) (lv' := [(2, .int 2), (0, .ref (z + 49)), (1, .ref (z + 1))]) hx hb dX6_init_81 hl (k := 0) rfl (by decide) (by decide) rfl (fun ls hl => ?_)
  refine lv_goto (pc := 84) (tgt := 59) hx hb dX6_init_84 (by decide) ?_
  refine lv_iload_n (pc := 59) hx hb dX6_init_59 rfl (lv_at hl 0 rfl) ?_
  refine lv_aload_n (pc := 60) hx hb dX6_init_60 rfl (lv_at hl 1 rfl) ?_
  refine a_get (pc := 61) (k := 49) (ci := 6) C hW (by decide) rfl rfl lays_X6 2 (by decide) fm_X6_19 (x := .ref (z + 51)) rfl dX6_init_61 ?_
  refine a_alen (pc := 64) (k := 51) C hW 2 (by decide) rfl rfl (v := 8) rfl dX6_init_64 ?_
  refine lv_icmp_ge (pc := 65) (tgt := 87) hx hb dX6_init_65 (by decide) (fun hc => absurd hc (by decide)) (fun _ => ?_)
  refine lv_aload_n (pc := 68) hx hb dX6_init_68 rfl (lv_at hl 1 rfl) ?_
  refine a_get (pc := 69) (k := 49) (ci := 6) C hW (by decide) rfl rfl lays_X6 2 (by decide) fm_X6_19 (x := .ref (z + 51)) rfl dX6_init_69 ?_
  refine lv_iload_n (pc := 72) hx hb dX6_init_72 rfl (lv_at hl 0 rfl) ?_
  refine a_new (pc := 73) (ci := 7) (n := 60) (n1 := 61) C hW hS tyX7 rfl lays_X7 tyX7_ok [.int 0, .int 0, .int 0, .int 0, .int 0, .int 0] (fun j hj => by match j, hj with | 0, _ => rfl | 1, _ => rfl | 2, _ => rfl | 3, _ => rfl | 4, _ => rfl | 5, _ => rfl) cl_X6_17 rfl (Nat.le_of_ble_eq_true rfl) (Nat.le_of_ble_eq_true rfl) dX6_init_73 (fun H hW hS => ?_)
  refine lv_dup (pc := 76) hx hb dX6_init_76 rfl ?_
  refine a_call (pc := 77) (k := 60) (rest := [.ref (z + 60), .int 2, .ref (z + 51)]) C hW hS (a_X7 (K := K - 1) (by omega) (k := 60) (fun q hq => hq.1) (by decide) ⟨Nat.le_add_right _ _, Nat.add_lt_add_left (by decide) _⟩ rfl) mi_X6_28 (aRoom (by omega) (by decide) (Nat.le_of_ble_eq_true rfl) (Nat.le_of_ble_eq_true rfl)) rfl rfl (Nat.le_of_ble_eq_true rfl) hl.1 dX6_init_77 (fun H locs hW hS => ?_)
  refine a_aast (pc := 80) (k := 51) (q0 := 60) (ci := 7) (i := 2) (j := 2) C hW hS 2 (by decide) rfl ⟨Nat.le_add_right _ _, Nat.add_lt_add_left (by decide) _⟩ rfl (by decide) rfl rfl (by decide) (inb_in (by decide)) dX6_init_80 (fun H locs hW hS => ?_)
  refine lv_iinc (pc := 81) (v := 3) (lv' := [(2, .int 3), (0, .ref (z + 49)), (1, .ref (z + 1))]) hx hb dX6_init_81 hl (k := 0) rfl (by decide) (by decide) rfl (fun ls hl => ?_)
  refine lv_goto (pc := 84) (tgt := 59) hx hb dX6_init_84 (by decide) ?_
  refine lv_iload_n (pc := 59) hx hb dX6_init_59 rfl (lv_at hl 0 rfl) ?_
  refine lv_aload_n (pc := 60) hx hb dX6_init_60 rfl (lv_at hl 1 rfl) ?_
  refine a_get (pc := 61) (k := 49) (ci := 6) C hW (by decide) rfl rfl lays_X6 2 (by decide) fm_X6_19 (x := .ref (z + 51)) rfl dX6_init_61 ?_
  refine a_alen (pc := 64) (k := 51) C hW 2 (by decide) rfl rfl (v := 8) rfl dX6_init_64 ?_
  refine lv_icmp_ge (pc := 65) (tgt := 87) hx hb dX6_init_65 (by decide) (fun hc => absurd hc (by decide)) (fun _ => ?_)
  refine lv_aload_n (pc := 68) hx hb dX6_init_68 rfl (lv_at hl 1 rfl) ?_
  refine a_get (pc := 69) (k := 49) (ci := 6) C hW (by decide) rfl rfl lays_X6 2 (by decide) fm_X6_19 (x := .ref (z + 51)) rfl dX6_init_69 ?_
  refine lv_iload_n (pc := 72) hx hb dX6_init_72 rfl (lv_at hl 0 rfl) ?_
  refine a_new (pc := 73) (ci := 7) (n := 61) (n1 := 62) C hW hS tyX7 rfl lays_X7 tyX7_ok [.int 0, .int 0, .int 0, .int 0, .int 0, .int 0] (fun j hj => by match j, hj with | 0, _ => rfl | 1, _ => rfl | 2, _ => rfl | 3, _ => rfl | 4, _ => rfl | 5, _ => rfl) cl_X6_17 rfl (Nat.le_of_ble_eq_true rfl) (Nat.le_of_ble_eq_true rfl) dX6_init_73 (fun H hW hS => ?_)
  refine lv_dup (pc := 76) hx hb dX6_init_76 rfl ?_
  refine a_call (pc := 77) (k := 61) (rest := [.ref (z + 61), .int 3, .ref (z + 51)]) C hW hS (a_X7 (K := K - 1) (by omega) (k := 61) (fun q hq => hq.1) (by decide) ⟨Nat.le_add_right _ _, Nat.add_lt_add_left (by decide) _⟩ rfl) mi_X6_28 (aRoom (by omega) (by decide) (Nat.le_of_ble_eq_true rfl) (Nat.le_of_ble_eq_true rfl)) rfl rfl (Nat.le_of_ble_eq_true rfl) hl.1 dX6_init_77 (fun H locs hW hS => ?_)
  refine a_aast (pc := 80) (k := 51) (q0 := 61) (ci := 7) (i := 3) (j := 3) C hW hS 2 (by decide) rfl ⟨Nat.le_add_right _ _, Nat.add_lt_add_left (by decide) _⟩ rfl (by decide) rfl rfl (by decide) (inb_in (by decide)) dX6_init_80 (fun H locs hW hS => ?_)
  refine lv_iinc (pc := 81) (v := 4) (lv' := [(2, .int 4), (0, .ref (z + 49)), (1, .ref (z + 1))]) hx hb dX6_init_81 hl (k := 0) rfl (by decide) (by decide) rfl (fun ls hl => ?_)
  refine lv_goto (pc := 84) (tgt := 59) hx hb dX6_init_84 (by decide) ?_
  refine lv_iload_n (pc := 59) hx hb dX6_init_59 rfl (lv_at hl 0 rfl) ?_
  refine lv_aload_n (pc := 60) hx hb dX6_init_60 rfl (lv_at hl 1 rfl) ?_
  refine a_get (pc := 61) (k := 49) (ci := 6) C hW (by decide) rfl rfl lays_X6 2 (by decide) fm_X6_19 (x := .ref (z + 51)) rfl dX6_init_61 ?_
  refine a_alen (pc := 64) (k := 51) C hW 2 (by decide) rfl rfl (v := 8) rfl dX6_init_64 ?_
  refine lv_icmp_ge (pc := 65) (tgt := 87) hx hb dX6_init_65 (by decide) (fun hc => absurd hc (by decide)) (fun _ => ?_)
  refine lv_aload_n (pc := 68) hx hb dX6_init_68 rfl (lv_at hl 1 rfl) ?_
  refine a_get (pc := 69) (k := 49) (ci := 6) C hW (by decide) rfl rfl lays_X6 2 (by decide) fm_X6_19 (x := .ref (z + 51)) rfl dX6_init_69 ?_
  refine lv_iload_n (pc := 72) hx hb dX6_init_72 rfl (lv_at hl 0 rfl) ?_
  refine a_new (pc := 73) (ci := 7) (n := 62) (n1 := 63) C hW hS tyX7 rfl lays_X7 tyX7_ok [.int 0, .int 0, .int 0, .int 0, .int 0, .int 0] (fun j hj => by match j, hj with | 0, _ => rfl | 1, _ => rfl | 2, _ => rfl | 3, _ => rfl | 4, _ => rfl | 5, _ => rfl) cl_X6_17 rfl (Nat.le_of_ble_eq_true rfl) (Nat.le_of_ble_eq_true rfl) dX6_init_73 (fun H hW hS => ?_)
  refine lv_dup (pc := 76) hx hb dX6_init_76 rfl ?_
  refine a_call (pc := 77) (k := 62) (rest := [.ref (z + 62), .int 4, .ref (z + 51)]) C hW hS (a_X7 (K := K - 1) (by omega) (k := 62) (fun q hq => hq.1) (by decide) ⟨Nat.le_add_right _ _, Nat.add_lt_add_left (by decide) _⟩ rfl) mi_X6_28 (aRoom (by omega) (by decide) (Nat.le_of_ble_eq_true rfl) (Nat.le_of_ble_eq_true rfl)) rfl rfl (Nat.le_of_ble_eq_true rfl) hl.1 dX6_init_77 (fun H locs hW hS => ?_)
  refine a_aast (pc := 80) (k := 51) (q0 := 62) (ci := 7) (i := 4) (j := 4) C hW hS 2 (by decide) rfl ⟨Nat.le_add_right _ _, Nat.add_lt_add_left (by decide) _⟩ rfl (by decide) rfl rfl (by decide) (inb_in (by decide)) dX6_init_80 (fun H locs hW hS => ?_)
  refine lv_iinc (pc := 81) (v := 5) (lv' := [(2, .int 5), (0, .ref (z + 49)), (1, .ref (z + 1))]) hx hb dX6_init_81 hl (k := 0) rfl (by decide) (by decide) rfl (fun ls hl => ?_)
  refine lv_goto (pc := 84) (tgt := 59) hx hb dX6_init_84 (by decide) ?_
  refine lv_iload_n (pc := 59) hx hb dX6_init_59 rfl (lv_at hl 0 rfl) ?_
  refine lv_aload_n (pc := 60) hx hb dX6_init_60 rfl (lv_at hl 1 rfl) ?_
  refine a_get (pc := 61) (k := 49) (ci := 6) C hW (by decide) rfl rfl lays_X6 2 (by decide) fm_X6_19 (x := .ref (z + 51)) rfl dX6_init_61 ?_
  refine a_alen (pc := 64) (k := 51) C hW 2 (by decide) rfl rfl (v := 8) rfl dX6_init_64 ?_
  refine lv_icmp_ge (pc := 65) (tgt := 87) hx hb dX6_init_65 (by decide) (fun hc => absurd hc (by decide)) (fun _ => ?_)
  refine lv_aload_n (pc := 68) hx hb dX6_init_68 rfl (lv_at hl 1 rfl) ?_
  refine a_get (pc := 69) (k := 49) (ci := 6) C hW (by decide) rfl rfl lays_X6 2 (by decide) fm_X6_19 (x := .ref (z + 51)) rfl dX6_init_69 ?_
  refine lv_iload_n (pc := 72) hx hb dX6_init_72 rfl (lv_at hl 0 rfl) ?_
  refine a_new (pc := 73) (ci := 7) (n := 63) (n1 := 64) C hW hS tyX7 rfl lays_X7 tyX7_ok [.int 0, .int 0, .int 0, .int 0, .int 0, .int 0] (fun j hj => by match j, hj with | 0, _ => rfl | 1, _ => rfl | 2, _ => rfl | 3, _ => rfl | 4, _ => rfl | 5, _ => rfl) cl_X6_17 rfl (Nat.le_of_ble_eq_true rfl) (Nat.le_of_ble_eq_true rfl) dX6_init_73 (fun H hW hS => ?_)
  refine lv_dup (pc := 76) hx hb dX6_init_76 rfl ?_
  refine a_call (pc := 77) (k := 63) (rest := [.ref (z + 63), .int 5, .ref (z + 51)]) C hW hS (a_X7 (K := K - 1) (by omega) (k := 63) (fun q hq => hq.1) (by decide) ⟨Nat.le_add_right _ _, Nat.add_lt_add_left (by decide) _⟩ rfl) mi_X6_28 (aRoom (by omega) (by decide) (Nat.le_of_ble_eq_true rfl) (Nat.le_of_ble_eq_true rfl)) rfl rfl (Nat.le_of_ble_eq_true rfl) hl.1 dX6_init_77 (fun H locs hW hS => ?_)
  refine a_aast (pc := 80) (k := 51) (q0 := 63) (ci := 7) (i := 5) (j := 5) C hW hS 2 (by decide) rfl ⟨Nat.le_add_right _ _, Nat.add_lt_add_left (by decide) _⟩ rfl (by decide) rfl rfl (by decide) (inb_in (by decide)) dX6_init_80 (fun H locs hW hS => ?_)
  refine lv_iinc (pc := 81) (v := 6) (lv' := [(2, .int 6), (0, .ref (z + 49)), (1, .ref (z + 1))]) hx hb dX6_init_81 hl (k := 0) rfl (by decide) (by decide) rfl (fun ls hl => ?_)
  refine lv_goto (pc := 84) (tgt := 59) hx hb dX6_init_84 (by decide) ?_
  refine lv_iload_n (pc := 59) hx hb dX6_init_59 rfl (lv_at hl 0 rfl) ?_
  refine lv_aload_n (pc := 60) hx hb dX6_init_60 rfl (lv_at hl 1 rfl) ?_
  refine a_get (pc := 61) (k := 49) (ci := 6) C hW (by decide) rfl rfl lays_X6 2 (by decide) fm_X6_19 (x := .ref (z + 51)) rfl dX6_init_61 ?_
  refine a_alen (pc := 64) (k := 51) C hW 2 (by decide) rfl rfl (v := 8) rfl dX6_init_64 ?_
  refine lv_icmp_ge (pc := 65) (tgt := 87) hx hb dX6_init_65 (by decide) (fun hc => absurd hc (by decide)) (fun _ => ?_)
  refine lv_aload_n (pc := 68) hx hb dX6_init_68 rfl (lv_at hl 1 rfl) ?_
  refine a_get (pc := 69) (k := 49) (ci := 6) C hW (by decide) rfl rfl lays_X6 2 (by decide) fm_X6_19 (x := .ref (z + 51)) rfl dX6_init_69 ?_
  refine lv_iload_n (pc := 72) hx hb dX6_init_72 rfl (lv_at hl 0 rfl) ?_
  refine a_new (pc := 73) (ci := 7) (n := 64) (n1 := 65) C hW hS tyX7 rfl lays_X7 tyX7_ok [.int 0, .int 0, .int 0, .int 0, .int 0, .int 0] (fun j hj => by match j, hj with | 0, _ => rfl | 1, _ => rfl | 2, _ => rfl | 3, _ => rfl | 4, _ => rfl | 5, _ => rfl) cl_X6_17 rfl (Nat.le_of_ble_eq_true rfl) (Nat.le_of_ble_eq_true rfl) dX6_init_73 (fun H hW hS => ?_)
  refine lv_dup (pc := 76) hx hb dX6_init_76 rfl ?_
  refine a_call (pc := 77) (k := 64) (rest := [.ref (z + 64), .int 6, .ref (z + 51)]) C hW hS (a_X7 (K := K - 1) (by omega) (k := 64) (fun q hq => hq.1) (by decide) ⟨Nat.le_add_right _ _, Nat.add_lt_add_left (by decide) _⟩ rfl) mi_X6_28 (aRoom (by omega) (by decide) (Nat.le_of_ble_eq_true rfl) (Nat.le_of_ble_eq_true rfl)) rfl rfl (Nat.le_of_ble_eq_true rfl) hl.1 dX6_init_77 (fun H locs hW hS => ?_)
  refine a_aast (pc := 80) (k := 51) (q0 := 64) (ci := 7) (i := 6) (j := 6) C hW hS 2 (by decide) rfl ⟨Nat.le_add_right _ _, Nat.add_lt_add_left (by decide) _⟩ rfl (by decide) rfl rfl (by decide) (inb_in (by decide)) dX6_init_80 (fun H locs hW hS => ?_)
  refine lv_iinc (pc := 81) (v := 7) (lv' := [(2, .int 7), (0, .ref (z + 49)), (1, .ref (z + 1))]) hx hb dX6_init_81 hl (k := 0) rfl (by decide) (by decide) rfl (fun ls hl => ?_)
  refine lv_goto (pc := 84) (tgt := 59) hx hb dX6_init_84 (by decide) ?_
  refine lv_iload_n (pc := 59) hx hb dX6_init_59 rfl (lv_at hl 0 rfl) ?_
  refine lv_aload_n (pc := 60) hx hb dX6_init_60 rfl (lv_at hl 1 rfl) ?_
  refine a_get (pc := 61) (k := 49) (ci := 6) C hW (by decide) rfl rfl lays_X6 2 (by decide) fm_X6_19 (x := .ref (z + 51)) rfl dX6_init_61 ?_
  refine a_alen (pc := 64) (k := 51) C hW 2 (by decide) rfl rfl (v := 8) rfl dX6_init_64 ?_
  refine lv_icmp_ge (pc := 65) (tgt := 87) hx hb dX6_init_65 (by decide) (fun hc => absurd hc (by decide)) (fun _ => ?_)
  refine lv_aload_n (pc := 68) hx hb dX6_init_68 rfl (lv_at hl 1 rfl) ?_
  refine a_get (pc := 69) (k := 49) (ci := 6) C hW (by decide) rfl rfl lays_X6 2 (by decide) fm_X6_19 (x := .ref (z + 51)) rfl dX6_init_69 ?_
  refine lv_iload_n (pc := 72) hx hb dX6_init_72 rfl (lv_at hl 0 rfl) ?_
  refine a_new (pc := 73) (ci := 7) (n := 65) (n1 := 66) C hW hS tyX7 rfl lays_X7 tyX7_ok [.int 0, .int 0, .int 0, .int 0, .int 0, .int 0] (fun j hj => by match j, hj with | 0, _ => rfl | 1, _ => rfl | 2, _ => rfl | 3, _ => rfl | 4, _ => rfl | 5, _ => rfl) cl_X6_17 rfl (Nat.le_of_ble_eq_true rfl) (Nat.le_of_ble_eq_true rfl) dX6_init_73 (fun H hW hS => ?_)
  refine lv_dup (pc := 76) hx hb dX6_init_76 rfl ?_
  refine a_call (pc := 77) (k := 65) (rest := [.ref (z + 65), .int 7, .ref (z + 51)]) C hW hS (a_X7 (K := K - 1) (by omega) (k := 65) (fun q hq => hq.1) (by decide) ⟨Nat.le_add_right _ _, Nat.add_lt_add_left (by decide) _⟩ rfl) mi_X6_28 (aRoom (by omega) (by decide) (Nat.le_of_ble_eq_true rfl) (Nat.le_of_ble_eq_true rfl)) rfl rfl (Nat.le_of_ble_eq_true rfl) hl.1 dX6_init_77 (fun H locs hW hS => ?_)
  refine a_aast (pc := 80) (k := 51) (q0 := 65) (ci := 7) (i := 7) (j := 7) C hW hS 2 (by decide) rfl ⟨Nat.le_add_right _ _, Nat.add_lt_add_left (by decide) _⟩ rfl (by decide) rfl rfl (by decide) (inb_in (by decide)) dX6_init_80 (fun H locs hW hS => ?_)
  refine lv_iinc (pc := 81) (v := 8) (lv' := [(2, .int 8), (0, .ref (z + 49)), (1, .ref (z + 1))]) hx hb dX6_init_81 hl (k := 0) rfl (by decide) (by decide) rfl (fun ls hl => ?_)
  refine lv_goto (pc := 84) (tgt := 59) hx hb dX6_init_84 (by decide) ?_
  refine lv_iload_n (pc := 59) hx hb dX6_init_59 rfl (lv_at hl 0 rfl) ?_
  refine lv_aload_n (pc := 60) hx hb dX6_init_60 rfl (lv_at hl 1 rfl) ?_
  refine a_get (pc := 61) (k := 49) (ci := 6) C hW (by decide) rfl rfl lays_X6 2 (by decide) fm_X6_19 (x := .ref (z + 51)) rfl dX6_init_61 ?_
  refine a_alen (pc := 64) (k := 51) C hW 2 (by decide) rfl rfl (v := 8) rfl dX6_init_64 ?_
  refine lv_icmp_ge (pc := 65) (tgt := 87) hx hb dX6_init_65 (by decide) (fun _ => ?_) (fun hc => absurd (by decide) hc)
  refine a_vret (pc := 87) C hW hS dX6_init_87 rfl rfl rfl (fun q hq a H => ?_)
  have hc : q < 49 ∨ q = 49 ∨ q = 50 ∨ q = 51 ∨ q = 52 ∨ q = 53 ∨ q = 54 ∨ q = 55 ∨ q = 56 ∨ q = 57 ∨ q = 58 ∨ q = 59 ∨ q = 60 ∨ q = 61 ∨ q = 62 ∨ q = 63 ∨ q = 64 ∨ q = 65 := by omega
  rcases hc with hc | rfl | rfl | rfl | rfl | rfl | rfl | rfl | rfl | rfl | rfl | rfl | rfl | rfl | rfl | rfl | rfl | rfl
  · have e1 : mixE ac z 49 w q = w q := if_pos hc
    rw [e1]
    intro h
    simp (disch := omega) only [va_up_ne] at h
    exact h
  · exact id
  · refine at_refs (cA := ac 1) (N := 6) ?_ a H
    intro i hi
    have hi2 : i = 0 ∨ i = 1 ∨ i = 2 ∨ i = 3 ∨ i = 4 ∨ i = 5 := by omega
    rcases hi2 with rfl | rfl | rfl | rfl | rfl | rfl <;> rfl
  · refine at_refs (cA := ac 2) (N := 8) ?_ a H
    intro i hi
    have hi2 : i = 0 ∨ i = 1 ∨ i = 2 ∨ i = 3 ∨ i = 4 ∨ i = 5 ∨ i = 6 ∨ i = 7 := by omega
    rcases hi2 with rfl | rfl | rfl | rfl | rfl | rfl | rfl | rfl <;> rfl
  · exact id
  · exact id
  · exact id
  · exact id
  · exact id
  · exact id
  · exact id
  · exact id
  · exact id
  · exact id
  · exact id
  · exact id
  · exact id
  · exact id

theorem a_X8_0 {K : Nat} (hK : 3 ≤ K) (he : w 0 = .inr (8, [.null, .null, .null, .null, .null, .int 0, .null, .null, .null, .null])) : MA l D z ac (z, aK, aV) (Ac z) yX8_init cX8_init 2 none K 79 1277 [.ref (z + 0)] 1 w none 80 (Ec ac z s0) := by
  refine MA.of (fun q hq => hq.1) (plainFor_of_name (by decide)) (Nat.le_of_ble_eq_true rfl) ?_
  intro p e s m below meth c args C hin hW ls hl
  replace hl : lv_has ls 2 [(0, .ref (z + 0))] := hl
  have hS : va_S (Ac z) s.heap s.heap [] := va_S.rf
  have hx := C.1.1
  have hb := C.1.2.1
  have hK1 : 1 ≤ K := by omega
  replace hW : Wg D z 1 (va_up w 0 (.inr (8, [.null, .null, .null, .null, .null, .int 0, .null, .null, .null, .null]))) s.heap := ⟨hW.1, fun q hq => by
    unfold va_up
    by_cases h : q = 0
    · subst h
      rw [if_pos rfl, ← he]
      exact hW.2 _ hq
    · rw [if_neg h]
      exact hW.2 _ hq⟩
  refine lv_aload_n (pc := 0) hx hb dX8_init_0 rfl (lv_at hl 0 rfl) ?_
  refine a_obj (pc := 1) C ob_X8 hl.1 (aRoom0 hK1) dX8_init_1 ?_
  refine lv_aload_n (pc := 4) hx hb dX8_init_4 rfl (lv_at hl 0 rfl) ?_
  refine a_new (pc := 5) (ci := 3) (n := 1) (n1 := 2) C hW hS tyX3 rfl lays_X3 tyX3_ok [.null, .int 0, .null, .null] (fun j hj => by match j, hj with | 0, _ => rfl | 1, _ => rfl | 2, _ => rfl | 3, _ => rfl) cl_X8_7 rfl (Nat.le_of_ble_eq_true rfl) (Nat.le_of_ble_eq_true rfl) dX8_init_5 (fun H hW hS => ?_)
  refine lv_dup (pc := 8) hx hb dX8_init_8 rfl ?_
  refine a_call (pc := 9) (k := 1) (rest := [.ref (z + 1), .ref (z + 0)]) C hW hS (a_X3_1 (K := K - 1) (by omega) rfl) mi_X8_9 (aRoom (by omega) (by decide) (Nat.le_of_ble_eq_true rfl) (Nat.le_of_ble_eq_true rfl)) rfl rfl (Nat.le_of_ble_eq_true rfl) hl.1 dX8_init_9 (fun H locs hW hS => ?_)
  refine a_putF (pc := 12) (k := 0) (ci := 8) C hW hS tyX8 (by decide) rfl ⟨Nat.le_add_right _ _, Nat.add_lt_add_left (by decide) _⟩ rfl lays_X8 tyX8_ok nmX8 0 (by decide) fm_X8_10 rfl hin rfl (x := .ref (z + 1)) rfl rfl (Nat.le_of_ble_eq_true rfl) dX8_init_12 (fun H locs hW hS => ?_)
  refine lv_aload_n (pc := 15) hx hb dX8_init_15 rfl (lv_at hl 0 rfl) ?_
  refine a_new (pc := 16) (ci := 2) (n := 9) (n1 := 10) C hW hS tyX2 rfl lays_X2 tyX2_ok [.null, .int 0, .null, .null, .int 0, .int 0, .null, .int 0, .null] (fun j hj => by match j, hj with | 0, _ => rfl | 1, _ => rfl | 2, _ => rfl | 3, _ => rfl | 4, _ => rfl | 5, _ => rfl | 6, _ => rfl | 7, _ => rfl | 8, _ => rfl) cl_X8_16 rfl (Nat.le_of_ble_eq_true rfl) (Nat.le_of_ble_eq_true rfl) dX8_init_16 (fun H hW hS => ?_)
  refine lv_dup (pc := 19) hx hb dX8_init_19 rfl ?_
  refine a_call (pc := 20) (k := 9) (rest := [.ref (z + 9), .ref (z + 0)]) C hW hS (a_X2_9 (K := K - 1) (by omega) rfl) mi_X8_18 (aRoom (by omega) (by decide) (Nat.le_of_ble_eq_true rfl) (Nat.le_of_ble_eq_true rfl)) rfl rfl (Nat.le_of_ble_eq_true rfl) hl.1 dX8_init_20 (fun H locs hW hS => ?_)
  refine a_putF (pc := 23) (k := 0) (ci := 8) C hW hS tyX8 (by decide) rfl ⟨Nat.le_add_right _ _, Nat.add_lt_add_left (by decide) _⟩ rfl lays_X8 tyX8_ok nmX8 1 (by decide) fm_X8_19 rfl hin rfl (x := .ref (z + 9)) rfl rfl (Nat.le_of_ble_eq_true rfl) dX8_init_23 (fun H locs hW hS => ?_)
  refine lv_aload_n (pc := 26) hx hb dX8_init_26 rfl (lv_at hl 0 rfl) ?_
  refine a_new (pc := 27) (ci := 6) (n := 15) (n1 := 16) C hW hS tyX6 rfl lays_X6 tyX6_ok [.null, .null, .null, .int 0, .int 0, .int 0, .int 0, .int 0, .int 0, .int 0, .int 0, .int 0] (fun j hj => by match j, hj with | 0, _ => rfl | 1, _ => rfl | 2, _ => rfl | 3, _ => rfl | 4, _ => rfl | 5, _ => rfl | 6, _ => rfl | 7, _ => rfl | 8, _ => rfl | 9, _ => rfl | 10, _ => rfl | 11, _ => rfl) cl_X8_23 rfl (Nat.le_of_ble_eq_true rfl) (Nat.le_of_ble_eq_true rfl) dX8_init_27 (fun H hW hS => ?_)
  refine lv_dup (pc := 30) hx hb dX8_init_30 rfl ?_
  refine lv_aload_n (pc := 31) hx hb dX8_init_31 rfl (lv_at hl 0 rfl) ?_
  refine a_get (pc := 32) (k := 0) (ci := 8) C hW (by decide) rfl rfl lays_X8 0 (by decide) fm_X8_10 (x := .ref (z + 1)) rfl dX8_init_32 ?_
  refine a_call (pc := 35) (k := 15) (rest := [.ref (z + 15), .ref (z + 0)]) C hW hS (a_X6_15 (K := K - 1) (by omega) rfl) mi_X8_25 (aRoom (by omega) (by decide) (Nat.le_of_ble_eq_true rfl) (Nat.le_of_ble_eq_true rfl)) rfl rfl (Nat.le_of_ble_eq_true rfl) hl.1 dX8_init_35 (fun H locs hW hS => ?_)
  refine a_putF (pc := 38) (k := 0) (ci := 8) C hW hS tyX8 (by decide) rfl ⟨Nat.le_add_right _ _, Nat.add_lt_add_left (by decide) _⟩ rfl lays_X8 tyX8_ok nmX8 2 (by decide) fm_X8_28 rfl hin rfl (x := .ref (z + 15)) rfl rfl (Nat.le_of_ble_eq_true rfl) dX8_init_38 (fun H locs hW hS => ?_)
  refine lv_aload_n (pc := 41) hx hb dX8_init_41 rfl (lv_at hl 0 rfl) ?_
  refine a_new (pc := 42) (ci := 6) (n := 32) (n1 := 33) C hW hS tyX6 rfl lays_X6 tyX6_ok [.null, .null, .null, .int 0, .int 0, .int 0, .int 0, .int 0, .int 0, .int 0, .int 0, .int 0] (fun j hj => by match j, hj with | 0, _ => rfl | 1, _ => rfl | 2, _ => rfl | 3, _ => rfl | 4, _ => rfl | 5, _ => rfl | 6, _ => rfl | 7, _ => rfl | 8, _ => rfl | 9, _ => rfl | 10, _ => rfl | 11, _ => rfl) cl_X8_23 rfl (Nat.le_of_ble_eq_true rfl) (Nat.le_of_ble_eq_true rfl) dX8_init_42 (fun H hW hS => ?_)
  refine lv_dup (pc := 45) hx hb dX8_init_45 rfl ?_
  refine lv_aload_n (pc := 46) hx hb dX8_init_46 rfl (lv_at hl 0 rfl) ?_
  refine a_get (pc := 47) (k := 0) (ci := 8) C hW (by decide) rfl rfl lays_X8 0 (by decide) fm_X8_10 (x := .ref (z + 1)) rfl dX8_init_47 ?_
  refine a_call (pc := 50) (k := 32) (rest := [.ref (z + 32), .ref (z + 0)]) C hW hS (a_X6_32 (K := K - 1) (by omega) rfl) mi_X8_25 (aRoom (by omega) (by decide) (Nat.le_of_ble_eq_true rfl) (Nat.le_of_ble_eq_true rfl)) rfl rfl (Nat.le_of_ble_eq_true rfl) hl.1 dX8_init_50 (fun H locs hW hS => ?_)
  refine a_putF (pc := 53) (k := 0) (ci := 8) C hW hS tyX8 (by decide) rfl ⟨Nat.le_add_right _ _, Nat.add_lt_add_left (by decide) _⟩ rfl lays_X8 tyX8_ok nmX8 3 (by decide) fm_X8_32 rfl hin rfl (x := .ref (z + 32)) rfl rfl (Nat.le_of_ble_eq_true rfl) dX8_init_53 (fun H locs hW hS => ?_)
  refine lv_aload_n (pc := 56) hx hb dX8_init_56 rfl (lv_at hl 0 rfl) ?_
  refine a_new (pc := 57) (ci := 6) (n := 49) (n1 := 50) C hW hS tyX6 rfl lays_X6 tyX6_ok [.null, .null, .null, .int 0, .int 0, .int 0, .int 0, .int 0, .int 0, .int 0, .int 0, .int 0] (fun j hj => by match j, hj with | 0, _ => rfl | 1, _ => rfl | 2, _ => rfl | 3, _ => rfl | 4, _ => rfl | 5, _ => rfl | 6, _ => rfl | 7, _ => rfl | 8, _ => rfl | 9, _ => rfl | 10, _ => rfl | 11, _ => rfl) cl_X8_23 rfl (Nat.le_of_ble_eq_true rfl) (Nat.le_of_ble_eq_true rfl) dX8_init_57 (fun H hW hS => ?_)
  refine lv_dup (pc := 60) hx hb dX8_init_60 rfl ?_
  refine lv_aload_n (pc := 61) hx hb dX8_init_61 rfl (lv_at hl 0 rfl) ?_
  refine a_get (pc := 62) (k := 0) (ci := 8) C hW (by decide) rfl rfl lays_X8 0 (by decide) fm_X8_10 (x := .ref (z + 1)) rfl dX8_init_62 ?_
  refine a_call (pc := 65) (k := 49) (rest := [.ref (z + 49), .ref (z + 0)]) C hW hS (a_X6_49 (K := K - 1) (by omega) rfl) mi_X8_25 (aRoom (by omega) (by decide) (Nat.le_of_ble_eq_true rfl) (Nat.le_of_ble_eq_true rfl)) rfl rfl (Nat.le_of_ble_eq_true rfl) hl.1 dX8_init_65 (fun H locs hW hS => ?_)
  refine a_putF (pc := 68) (k := 0) (ci := 8) C hW hS tyX8 (by decide) rfl ⟨Nat.le_add_right _ _, Nat.add_lt_add_left (by decide) _⟩ rfl lays_X8 tyX8_ok nmX8 4 (by decide) fm_X8_35 rfl hin rfl (x := .ref (z + 49)) rfl rfl (Nat.le_of_ble_eq_true rfl) dX8_init_68 (fun H locs hW hS => ?_)
  refine lv_aload_n (pc := 71) hx hb dX8_init_71 rfl (lv_at hl 0 rfl) ?_
  refine lv_iconst (pc := 72) (v := 0) hx hb dX8_init_72 (by decide) ?_
  refine a_put (pc := 73) (k := 0) (ci := 8) C hW hS tyX8 (by decide) rfl ⟨Nat.le_add_right _ _, Nat.add_lt_add_left (by decide) _⟩ rfl lays_X8 tyX8_ok nmX8 5 (by decide) fm_X8_38 rfl (x := .int 0) rfl rfl (Nat.le_of_ble_eq_true rfl) dX8_init_73 (fun H locs hW hS => ?_)
  refine lv_aload_n (pc := 76) hx hb dX8_init_76 rfl (lv_at hl 0 rfl) ?_
  refine lv_iconst (pc := 77) (v := 4) hx hb dX8_init_77 (by decide) ?_
  refine a_anewa (pc := 78) (n := 66) (n1 := 67) (N := 4) C hW hS 3 rfl (by decide) cl_X8_42.1 (by decide) (by decide) (by decide) rfl (Nat.le_of_ble_eq_true rfl) (Nat.le_of_ble_eq_true rfl) dX8_init_78 (fun H hW hS => ?_)
  refine a_putF (pc := 81) (k := 0) (ci := 8) C hW hS tyX8 (by decide) rfl ⟨Nat.le_add_right _ _, Nat.add_lt_add_left (by decide) _⟩ rfl lays_X8 tyX8_ok nmX8 6 (by decide) fm_X8_44 rfl hin rfl (x := .ref (z + 66)) rfl rfl (Nat.le_of_ble_eq_true rfl) dX8_init_81 (fun H locs hW hS => ?_)
  refine lv_iconst (pc := 84) (v := 0) hx hb dX8_init_84 (by decide) ?_
  refine lv_istore_n (pc := 85) (lv' := [(1, .int 0), (0, .ref (z + 0))]) hx hb dX8_init_85 rfl hl (by decide) rfl (fun ls hl => ?_)
  refine lv_iload_n (pc := 86) hx hb dX8_init_86 rfl (lv_at hl 0 rfl) ?_
  refine lv_aload_n (pc := 87) hx hb dX8_init_87 rfl (lv_at hl 1 rfl) ?_
  refine a_get (pc := 88) (k := 0) (ci := 8) C hW (by decide) rfl rfl lays_X8 6 (by decide) fm_X8_44 (x := .ref (z + 66)) rfl dX8_init_88 ?_
  refine a_alen (pc := 91) (k := 66) C hW 3 (by decide) rfl rfl (v := 4) rfl dX8_init_91 ?_
  refine lv_icmp_ge (pc := 92) (tgt := 114) hx hb dX8_init_92 (by decide) (fun hc => absurd hc (by decide)) (fun _ => ?_)
  refine lv_aload_n (pc := 95) hx hb dX8_init_95 rfl (lv_at hl 1 rfl) ?_
  refine a_get (pc := 96) (k := 0) (ci := 8) C hW (by decide) rfl rfl lays_X8 6 (by decide) fm_X8_44 (x := .ref (z + 66)) rfl dX8_init_96 ?_
  refine lv_iload_n (pc := 99) hx hb dX8_init_99 rfl (lv_at hl 0 rfl) ?_
  refine a_new (pc := 100) (ci := 4) (n := 67) (n1 := 68) C hW hS tyX4 rfl lays_X4 tyX4_ok [.null, .int 0, .int 0] (fun j hj => by match j, hj with | 0, _ => rfl | 1, _ => rfl | 2, _ => rfl) cl_X8_42 rfl (Nat.le_of_ble_eq_true rfl) (Nat.le_of_ble_eq_true rfl) dX8_init_100 (fun H hW hS => ?_)
  refine lv_dup (pc := 103) hx hb dX8_init_103 rfl ?_
  refine a_call (pc := 104) (k := 67) (rest := [.ref (z + 67), .int 0, .ref (z + 66)]) C hW hS (a_X4_67 (K := K - 1) (by omega) rfl) mi_X8_48 (aRoom (by omega) (by decide) (Nat.le_of_ble_eq_true rfl) (Nat.le_of_ble_eq_true rfl)) rfl rfl (Nat.le_of_ble_eq_true rfl) hl.1 dX8_init_104 (fun H locs hW hS => ?_)
  refine a_aast (pc := 107) (k := 66) (q0 := 67) (ci := 4) (i := 0) (j := 0) C hW hS 3 (by decide) rfl ⟨Nat.le_add_right _ _, Nat.add_lt_add_left (by decide) _⟩ rfl (by decide) rfl rfl (by decide) (inb_in (by decide)) dX8_init_107 (fun H locs hW hS => ?_)
  refine lv_iinc (pc := 108) (v := 1) (lv' := [(1, .int 1), (0, .ref (z + 0))]) hx hb dX8_init_108 hl (k := 0) rfl (by decide) (by decide) rfl (fun ls hl => ?_)
  refine lv_goto (pc := 111) (tgt := 86) hx hb dX8_init_111 (by decide) ?_
  refine lv_iload_n (pc := 86) hx hb dX8_init_86 rfl (lv_at hl 0 rfl) ?_
  refine lv_aload_n (pc := 87) hx hb dX8_init_87 rfl (lv_at hl 1 rfl) ?_
  refine a_get (pc := 88) (k := 0) (ci := 8) C hW (by decide) rfl rfl lays_X8 6 (by decide) fm_X8_44 (x := .ref (z + 66)) rfl dX8_init_88 ?_
  refine a_alen (pc := 91) (k := 66) C hW 3 (by decide) rfl rfl (v := 4) rfl dX8_init_91 ?_
  refine lv_icmp_ge (pc := 92) (tgt := 114) hx hb dX8_init_92 (by decide) (fun hc => absurd hc (by decide)) (fun _ => ?_)
  refine lv_aload_n (pc := 95) hx hb dX8_init_95 rfl (lv_at hl 1 rfl) ?_
  refine a_get (pc := 96) (k := 0) (ci := 8) C hW (by decide) rfl rfl lays_X8 6 (by decide) fm_X8_44 (x := .ref (z + 66)) rfl dX8_init_96 ?_
  refine lv_iload_n (pc := 99) hx hb dX8_init_99 rfl (lv_at hl 0 rfl) ?_
  refine a_new (pc := 100) (ci := 4) (n := 69) (n1 := 70) C hW hS tyX4 rfl lays_X4 tyX4_ok [.null, .int 0, .int 0] (fun j hj => by match j, hj with | 0, _ => rfl | 1, _ => rfl | 2, _ => rfl) cl_X8_42 rfl (Nat.le_of_ble_eq_true rfl) (Nat.le_of_ble_eq_true rfl) dX8_init_100 (fun H hW hS => ?_)
  refine lv_dup (pc := 103) hx hb dX8_init_103 rfl ?_
  refine a_call (pc := 104) (k := 69) (rest := [.ref (z + 69), .int 1, .ref (z + 66)]) C hW hS (a_X4_69 (K := K - 1) (by omega) rfl) mi_X8_48 (aRoom (by omega) (by decide) (Nat.le_of_ble_eq_true rfl) (Nat.le_of_ble_eq_true rfl)) rfl rfl (Nat.le_of_ble_eq_true rfl) hl.1 dX8_init_104 (fun H locs hW hS => ?_)
  refine a_aast (pc := 107) (k := 66) (q0 := 69) (ci := 4) (i := 1) (j := 1) C hW hS 3 (by decide) rfl ⟨Nat.le_add_right _ _, Nat.add_lt_add_left (by decide) _⟩ rfl (by decide) rfl rfl (by decide) (inb_in (by decide)) dX8_init_107 (fun H locs hW hS => ?_)
  refine lv_iinc (pc := 108) (v := 2) (lv' := [(1, .int 2), (0, .ref (z + 0))]) hx hb dX8_init_108 hl (k := 0) rfl (by decide) (by decide) rfl (fun ls hl => ?_)
  refine lv_goto (pc := 111) (tgt := 86) hx hb dX8_init_111 (by decide) ?_
  refine lv_iload_n (pc := 86) hx hb dX8_init_86 rfl (lv_at hl 0 rfl) ?_
  refine lv_aload_n (pc := 87) hx hb dX8_init_87 rfl (lv_at hl 1 rfl) ?_
  refine a_get (pc := 88) (k := 0) (ci := 8) C hW (by decide) rfl rfl lays_X8 6 (by decide) fm_X8_44 (x := .ref (z + 66)) rfl dX8_init_88 ?_
  refine a_alen (pc := 91) (k := 66) C hW 3 (by decide) rfl rfl (v := 4) rfl dX8_init_91 ?_
  refine lv_icmp_ge (pc := 92) (tgt := 114) hx hb dX8_init_92 (by decide) (fun hc => absurd hc (by decide)) (fun _ => ?_)
  refine lv_aload_n (pc := 95) hx hb dX8_init_95 rfl (lv_at hl 1 rfl) ?_
  refine a_get (pc := 96) (k := 0) (ci := 8) C hW (by decide) rfl rfl lays_X8 6 (by decide) fm_X8_44 (x := .ref (z + 66)) rfl dX8_init_96 ?_
  refine lv_iload_n (pc := 99) hx hb dX8_init_99 rfl (lv_at hl 0 rfl) ?_
  refine a_new (pc := 100) (ci := 4) (n := 71) (n1 := 72) C hW hS tyX4 rfl lays_X4 tyX4_ok [.null, .int 0, .int 0] (fun j hj => by match j, hj with | 0, _ => rfl | 1, _ => rfl | 2, _ => rfl) cl_X8_42 rfl (Nat.le_of_ble_eq_true rfl) (Nat.le_of_ble_eq_true rfl) dX8_init_100 (fun H hW hS => ?_)
  refine lv_dup (pc := 103) hx hb dX8_init_103 rfl ?_
  refine a_call (pc := 104) (k := 71) (rest := [.ref (z + 71), .int 2, .ref (z + 66)]) C hW hS (a_X4_71 (K := K - 1) (by omega) rfl) mi_X8_48 (aRoom (by omega) (by decide) (Nat.le_of_ble_eq_true rfl) (Nat.le_of_ble_eq_true rfl)) rfl rfl (Nat.le_of_ble_eq_true rfl) hl.1 dX8_init_104 (fun H locs hW hS => ?_)
  refine a_aast (pc := 107) (k := 66) (q0 := 71) (ci := 4) (i := 2) (j := 2) C hW hS 3 (by decide) rfl ⟨Nat.le_add_right _ _, Nat.add_lt_add_left (by decide) _⟩ rfl (by decide) rfl rfl (by decide) (inb_in (by decide)) dX8_init_107 (fun H locs hW hS => ?_)
  refine lv_iinc (pc := 108) (v := 3) (lv' := [(1, .int 3), (0, .ref (z + 0))]) hx hb dX8_init_108 hl (k := 0) rfl (by decide) (by decide) rfl (fun ls hl => ?_)
  refine lv_goto (pc := 111) (tgt := 86) hx hb dX8_init_111 (by decide) ?_
  refine lv_iload_n (pc := 86) hx hb dX8_init_86 rfl (lv_at hl 0 rfl) ?_
  refine lv_aload_n (pc := 87) hx hb dX8_init_87 rfl (lv_at hl 1 rfl) ?_
  refine a_get (pc := 88) (k := 0) (ci := 8) C hW (by decide) rfl rfl lays_X8 6 (by decide) fm_X8_44 (x := .ref (z + 66)) rfl dX8_init_88 ?_
  refine a_alen (pc := 91) (k := 66) C hW 3 (by decide) rfl rfl (v := 4) rfl dX8_init_91 ?_
  refine lv_icmp_ge (pc := 92) (tgt := 114) hx hb dX8_init_92 (by decide) (fun hc => absurd hc (by decide)) (fun _ => ?_)
  refine lv_aload_n (pc := 95) hx hb dX8_init_95 rfl (lv_at hl 1 rfl) ?_
  refine a_get (pc := 96) (k := 0) (ci := 8) C hW (by decide) rfl rfl lays_X8 6 (by decide) fm_X8_44 (x := .ref (z + 66)) rfl dX8_init_96 ?_
  refine lv_iload_n (pc := 99) hx hb dX8_init_99 rfl (lv_at hl 0 rfl) ?_
  refine a_new (pc := 100) (ci := 4) (n := 73) (n1 := 74) C hW hS tyX4 rfl lays_X4 tyX4_ok [.null, .int 0, .int 0] (fun j hj => by match j, hj with | 0, _ => rfl | 1, _ => rfl | 2, _ => rfl) cl_X8_42 rfl (Nat.le_of_ble_eq_true rfl) (Nat.le_of_ble_eq_true rfl) dX8_init_100 (fun H hW hS => ?_)
  refine lv_dup (pc := 103) hx hb dX8_init_103 rfl ?_
  refine a_call (pc := 104) (k := 73) (rest := [.ref (z + 73), .int 3, .ref (z + 66)]) C hW hS (a_X4_73 (K := K - 1) (by omega) rfl) mi_X8_48 (aRoom (by omega) (by decide) (Nat.le_of_ble_eq_true rfl) (Nat.le_of_ble_eq_true rfl)) rfl rfl (Nat.le_of_ble_eq_true rfl) hl.1 dX8_init_104 (fun H locs hW hS => ?_)
  refine a_aast (pc := 107) (k := 66) (q0 := 73) (ci := 4) (i := 3) (j := 3) C hW hS 3 (by decide) rfl ⟨Nat.le_add_right _ _, Nat.add_lt_add_left (by decide) _⟩ rfl (by decide) rfl rfl (by decide) (inb_in (by decide)) dX8_init_107 (fun H locs hW hS => ?_)
  refine lv_iinc (pc := 108) (v := 4) (lv' := [(1, .int 4), (0, .ref (z + 0))]) hx hb dX8_init_108 hl (k := 0) rfl (by decide) (by decide) rfl (fun ls hl => ?_)
  refine lv_goto (pc := 111) (tgt := 86) hx hb dX8_init_111 (by decide) ?_
  refine lv_iload_n (pc := 86) hx hb dX8_init_86 rfl (lv_at hl 0 rfl) ?_
  refine lv_aload_n (pc := 87) hx hb dX8_init_87 rfl (lv_at hl 1 rfl) ?_
  refine a_get (pc := 88) (k := 0) (ci := 8) C hW (by decide) rfl rfl lays_X8 6 (by decide) fm_X8_44 (x := .ref (z + 66)) rfl dX8_init_88 ?_
  refine a_alen (pc := 91) (k := 66) C hW 3 (by decide) rfl rfl (v := 4) rfl dX8_init_91 ?_
  refine lv_icmp_ge (pc := 92) (tgt := 114) hx hb dX8_init_92 (by decide) (fun _ => ?_) (fun hc => absurd (by decide) hc)
  refine lv_aload_n (pc := 114) hx hb dX8_init_114 rfl (lv_at hl 1 rfl) ?_
  refine a_new (pc := 115) (ci := 1) (n := 75) (n1 := 76) C hW hS tyX1 rfl lays_X1 tyX1_ok [.int 0, .int 0, .int 0, .int 0, .int 0, .int 0] (fun j hj => by match j, hj with | 0, _ => rfl | 1, _ => rfl | 2, _ => rfl | 3, _ => rfl | 4, _ => rfl | 5, _ => rfl) cl_X8_49 rfl (Nat.le_of_ble_eq_true rfl) (Nat.le_of_ble_eq_true rfl) dX8_init_115 (fun H hW hS => ?_)
  refine lv_dup (pc := 118) hx hb dX8_init_118 rfl ?_
  refine a_call (pc := 119) (k := 75) (rest := [.ref (z + 75), .ref (z + 0)]) C hW hS (a_X1 (K := K - 1) (by omega) (fun q hq => hq.1)) mi_X8_51 (aRoom (by omega) (by decide) (Nat.le_of_ble_eq_true rfl) (Nat.le_of_ble_eq_true rfl)) rfl rfl (Nat.le_of_ble_eq_true rfl) hl.1 dX8_init_119 (fun H locs hW hS => ?_)
  refine a_putF (pc := 122) (k := 0) (ci := 8) C hW hS tyX8 (by decide) rfl ⟨Nat.le_add_right _ _, Nat.add_lt_add_left (by decide) _⟩ rfl lays_X8 tyX8_ok nmX8 7 (by decide) fm_X8_52 rfl hin rfl (x := .ref (z + 75)) rfl rfl (Nat.le_of_ble_eq_true rfl) dX8_init_122 (fun H locs hW hS => ?_)
  refine lv_aload_n (pc := 125) hx hb dX8_init_125 rfl (lv_at hl 1 rfl) ?_
  refine a_new (pc := 126) (ci := 1) (n := 76) (n1 := 77) C hW hS tyX1 rfl lays_X1 tyX1_ok [.int 0, .int 0, .int 0, .int 0, .int 0, .int 0] (fun j hj => by match j, hj with | 0, _ => rfl | 1, _ => rfl | 2, _ => rfl | 3, _ => rfl | 4, _ => rfl | 5, _ => rfl) cl_X8_49 rfl (Nat.le_of_ble_eq_true rfl) (Nat.le_of_ble_eq_true rfl) dX8_init_126 (fun H hW hS => ?_)
  refine lv_dup (pc := 129) hx hb dX8_init_129 rfl ?_
  refine a_call (pc := 130) (k := 76) (rest := [.ref (z + 76), .ref (z + 0)]) C hW hS (a_X1 (K := K - 1) (by omega) (fun q hq => hq.1)) mi_X8_51 (aRoom (by omega) (by decide) (Nat.le_of_ble_eq_true rfl) (Nat.le_of_ble_eq_true rfl)) rfl rfl (Nat.le_of_ble_eq_true rfl) hl.1 dX8_init_130 (fun H locs hW hS => ?_)
  refine a_putF (pc := 133) (k := 0) (ci := 8) C hW hS tyX8 (by decide) rfl ⟨Nat.le_add_right _ _, Nat.add_lt_add_left (by decide) _⟩ rfl lays_X8 tyX8_ok nmX8 8 (by decide) fm_X8_56 rfl hin rfl (x := .ref (z + 76)) rfl rfl (Nat.le_of_ble_eq_true rfl) dX8_init_133 (fun H locs hW hS => ?_)
  refine lv_aload_n (pc := 136) hx hb dX8_init_136 rfl (lv_at hl 1 rfl) ?_
  refine a_new (pc := 137) (ci := 0) (n := 77) (n1 := 78) C hW hS tyX0 rfl lays_X0 tyX0_ok [.null, .null, .int 0, .int 0, .int 0] (fun j hj => by match j, hj with | 0, _ => rfl | 1, _ => rfl | 2, _ => rfl | 3, _ => rfl | 4, _ => rfl) cl_X8_59 rfl (Nat.le_of_ble_eq_true rfl) (Nat.le_of_ble_eq_true rfl) dX8_init_137 (fun H hW hS => ?_)
  refine lv_dup (pc := 140) hx hb dX8_init_140 rfl ?_
  refine a_call (pc := 141) (k := 77) (rest := [.ref (z + 77), .ref (z + 0)]) C hW hS (a_X0_77 (K := K - 1) (by omega) rfl) mi_X8_61 (aRoom (by omega) (by decide) (Nat.le_of_ble_eq_true rfl) (Nat.le_of_ble_eq_true rfl)) rfl rfl (Nat.le_of_ble_eq_true rfl) hl.1 dX8_init_141 (fun H locs hW hS => ?_)
  refine a_putF (pc := 144) (k := 0) (ci := 8) C hW hS tyX8 (by decide) rfl ⟨Nat.le_add_right _ _, Nat.add_lt_add_left (by decide) _⟩ rfl lays_X8 tyX8_ok nmX8 9 (by decide) fm_X8_62 rfl hin rfl (x := .ref (z + 77)) rfl rfl (Nat.le_of_ble_eq_true rfl) dX8_init_144 (fun H locs hW hS => ?_)
  refine a_vret (pc := 147) C hW hS dX8_init_147 rfl rfl rfl (fun q hq a H => ?_)
  have hc : q = 0 ∨ q = 1 ∨ q = 2 ∨ q = 3 ∨ q = 4 ∨ q = 5 ∨ q = 6 ∨ q = 7 ∨ q = 8 ∨ q = 9 ∨ q = 10 ∨ q = 11 ∨ q = 12 ∨ q = 13 ∨ q = 14 ∨ q = 15 ∨ q = 16 ∨ q = 17 ∨ q = 18 ∨ q = 19 ∨ q = 20 ∨ q = 21 ∨ q = 22 ∨ q = 23 ∨ q = 24 ∨ q = 25 ∨ q = 26 ∨ q = 27 ∨ q = 28 ∨ q = 29 ∨ q = 30 ∨ q = 31 ∨ q = 32 ∨ q = 33 ∨ q = 34 ∨ q = 35 ∨ q = 36 ∨ q = 37 ∨ q = 38 ∨ q = 39 ∨ q = 40 ∨ q = 41 ∨ q = 42 ∨ q = 43 ∨ q = 44 ∨ q = 45 ∨ q = 46 ∨ q = 47 ∨ q = 48 ∨ q = 49 ∨ q = 50 ∨ q = 51 ∨ q = 52 ∨ q = 53 ∨ q = 54 ∨ q = 55 ∨ q = 56 ∨ q = 57 ∨ q = 58 ∨ q = 59 ∨ q = 60 ∨ q = 61 ∨ q = 62 ∨ q = 63 ∨ q = 64 ∨ q = 65 ∨ q = 66 ∨ q = 67 ∨ q = 68 ∨ q = 69 ∨ q = 70 ∨ q = 71 ∨ q = 72 ∨ q = 73 ∨ q = 74 ∨ q = 75 ∨ q = 76 ∨ q = 77 ∨ q = 78 ∨ q = 79 := by omega
  rcases hc with rfl | rfl | rfl | rfl | rfl | rfl | rfl | rfl | rfl | rfl | rfl | rfl | rfl | rfl | rfl | rfl | rfl | rfl | rfl | rfl | rfl | rfl | rfl | rfl | rfl | rfl | rfl | rfl | rfl | rfl | rfl | rfl | rfl | rfl | rfl | rfl | rfl | rfl | rfl | rfl | rfl | rfl | rfl | rfl | rfl | rfl | rfl | rfl | rfl | rfl | rfl | rfl | rfl | rfl | rfl | rfl | rfl | rfl | rfl | rfl | rfl | rfl | rfl | rfl | rfl | rfl | rfl | rfl | rfl | rfl | rfl | rfl | rfl | rfl | rfl | rfl | rfl | rfl | rfl | rfl
  · exact id
  · exact id
  · exact id
  · exact id
  · exact id
  · exact id
  · exact id
  · exact id
  · exact id
  · exact id
  · exact id
  · exact id
  · exact id
  · exact id
  · exact id
  · exact id
  · exact id
  · exact id
  · exact id
  · exact id
  · exact id
  · exact id
  · exact id
  · exact id
  · exact id
  · exact id
  · exact id
  · exact id
  · exact id
  · exact id
  · exact id
  · exact id
  · exact id
  · exact id
  · exact id
  · exact id
  · exact id
  · exact id
  · exact id
  · exact id
  · exact id
  · exact id
  · exact id
  · exact id
  · exact id
  · exact id
  · exact id
  · exact id
  · exact id
  · exact id
  · exact id
  · exact id
  · exact id
  · exact id
  · exact id
  · exact id
  · exact id
  · exact id
  · exact id
  · exact id
  · exact id
  · exact id
  · exact id
  · exact id
  · exact id
  · exact id
  · refine at_refs (cA := ac 3) (N := 4) ?_ a H
    intro i hi
    have hi2 : i = 0 ∨ i = 1 ∨ i = 2 ∨ i = 3 := by omega
    rcases hi2 with rfl | rfl | rfl | rfl <;> rfl
  · exact id
  · exact id
  · exact id
  · exact id
  · exact id
  · exact id
  · exact id
  · exact id
  · exact id
  · exact id
  · exact id
  · exact id
  · exact id

end
