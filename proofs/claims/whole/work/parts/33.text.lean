/-! TEXT(): what makes cells while the objects stand, printed by wip/whole/gen_text.py -/
theorem dX2_codeOf_0 : decode cX2_codeOf 0 = .ok (.iload_n 1, 1) := by decide +kernel
theorem dX2_codeOf_1 : decode cX2_codeOf 1 = .ok (.ifCond .lt 12, 3) := by decide +kernel
theorem dX2_codeOf_4 : decode cX2_codeOf 4 = .ok (.iload_n 1, 1) := by decide +kernel
theorem dX2_codeOf_5 : decode cX2_codeOf 5 = .ok (.aload_n 0, 1) := by decide +kernel
theorem dX2_codeOf_6 : decode cX2_codeOf 6 = .ok (.getfield 24, 3) := by decide +kernel
theorem dX2_codeOf_9 : decode cX2_codeOf 9 = .ok (.arraylength, 1) := by decide +kernel
theorem dX2_codeOf_10 : decode cX2_codeOf 10 = .ok (.if_icmp .lt 7, 3) := by decide +kernel
theorem dX2_codeOf_13 : decode cX2_codeOf 13 = .ok (.iconst 0, 1) := by decide +kernel
theorem dX2_codeOf_14 : decode cX2_codeOf 14 = .ok (.newarray .int, 2) := by decide +kernel
theorem dX2_codeOf_16 : decode cX2_codeOf 16 = .ok (.areturn, 1) := by decide +kernel
theorem dX2_codeOf_17 : decode cX2_codeOf 17 = .ok (.iload_n 1, 1) := by decide +kernel
theorem dX2_codeOf_18 : decode cX2_codeOf 18 = .ok (.ifCond .ne 7, 3) := by decide +kernel
theorem dX2_codeOf_21 : decode cX2_codeOf 21 = .ok (.iconst 0, 1) := by decide +kernel
theorem dX2_codeOf_22 : decode cX2_codeOf 22 = .ok (.goto 11, 3) := by decide +kernel
theorem dX2_codeOf_25 : decode cX2_codeOf 25 = .ok (.aload_n 0, 1) := by decide +kernel
theorem dX2_codeOf_26 : decode cX2_codeOf 26 = .ok (.getfield 24, 3) := by decide +kernel
theorem dX2_codeOf_29 : decode cX2_codeOf 29 = .ok (.iload_n 1, 1) := by decide +kernel
theorem dX2_codeOf_30 : decode cX2_codeOf 30 = .ok (.iconst 1, 1) := by decide +kernel
theorem dX2_codeOf_31 : decode cX2_codeOf 31 = .ok (.isub, 1) := by decide +kernel
theorem dX2_codeOf_32 : decode cX2_codeOf 32 = .ok (.iaload, 1) := by decide +kernel
theorem dX2_codeOf_33 : decode cX2_codeOf 33 = .ok (.istore_n 2, 1) := by decide +kernel
theorem dX2_codeOf_34 : decode cX2_codeOf 34 = .ok (.aload_n 0, 1) := by decide +kernel
theorem dX2_codeOf_35 : decode cX2_codeOf 35 = .ok (.getfield 24, 3) := by decide +kernel
theorem dX2_codeOf_38 : decode cX2_codeOf 38 = .ok (.iload_n 1, 1) := by decide +kernel
theorem dX2_codeOf_39 : decode cX2_codeOf 39 = .ok (.iaload, 1) := by decide +kernel
theorem dX2_codeOf_40 : decode cX2_codeOf 40 = .ok (.istore_n 3, 1) := by decide +kernel
theorem dX2_codeOf_41 : decode cX2_codeOf 41 = .ok (.iload_n 2, 1) := by decide +kernel
theorem dX2_codeOf_42 : decode cX2_codeOf 42 = .ok (.ifCond .lt 21, 3) := by decide +kernel
theorem dX2_codeOf_45 : decode cX2_codeOf 45 = .ok (.iload_n 2, 1) := by decide +kernel
theorem dX2_codeOf_46 : decode cX2_codeOf 46 = .ok (.iload_n 3, 1) := by decide +kernel
theorem dX2_codeOf_47 : decode cX2_codeOf 47 = .ok (.if_icmp .gt 16, 3) := by decide +kernel
theorem dX2_codeOf_50 : decode cX2_codeOf 50 = .ok (.iload_n 3, 1) := by decide +kernel
theorem dX2_codeOf_51 : decode cX2_codeOf 51 = .ok (.aload_n 0, 1) := by decide +kernel
theorem dX2_codeOf_52 : decode cX2_codeOf 52 = .ok (.getfield 21, 3) := by decide +kernel
theorem dX2_codeOf_55 : decode cX2_codeOf 55 = .ok (.arraylength, 1) := by decide +kernel
theorem dX2_codeOf_56 : decode cX2_codeOf 56 = .ok (.if_icmp .gt 7, 3) := by decide +kernel
theorem dX2_codeOf_59 : decode cX2_codeOf 59 = .ok (.iconst 1, 1) := by decide +kernel
theorem dX2_codeOf_60 : decode cX2_codeOf 60 = .ok (.goto 4, 3) := by decide +kernel
theorem dX2_codeOf_63 : decode cX2_codeOf 63 = .ok (.iconst 0, 1) := by decide +kernel
theorem dX2_codeOf_64 : decode cX2_codeOf 64 = .ok (.istore 4, 2) := by decide +kernel
theorem dX2_codeOf_66 : decode cX2_codeOf 66 = .ok (.iload 4, 2) := by decide +kernel
theorem dX2_codeOf_68 : decode cX2_codeOf 68 = .ok (.ifCond .eq 15, 3) := by decide +kernel
theorem dX2_codeOf_71 : decode cX2_codeOf 71 = .ok (.aload_n 0, 1) := by decide +kernel
theorem dX2_codeOf_72 : decode cX2_codeOf 72 = .ok (.getfield 21, 3) := by decide +kernel
theorem dX2_codeOf_75 : decode cX2_codeOf 75 = .ok (.iload_n 2, 1) := by decide +kernel
theorem dX2_codeOf_76 : decode cX2_codeOf 76 = .ok (.iload_n 3, 1) := by decide +kernel
theorem dX2_codeOf_77 : decode cX2_codeOf 77 = .ok (.invokestatic 31, 3) := by decide +kernel
theorem dX2_codeOf_80 : decode cX2_codeOf 80 = .ok (.goto 6, 3) := by decide +kernel
theorem dX2_codeOf_83 : decode cX2_codeOf 83 = .ok (.iconst 0, 1) := by decide +kernel
theorem dX2_codeOf_84 : decode cX2_codeOf 84 = .ok (.newarray .int, 2) := by decide +kernel
theorem dX2_codeOf_86 : decode cX2_codeOf 86 = .ok (.areturn, 1) := by decide +kernel
theorem dX3_add_0 : decode cX3_add 0 = .ok (.aload_n 0, 1) := by decide +kernel
theorem dX3_add_1 : decode cX3_add 1 = .ok (.getfield 27, 3) := by decide +kernel
theorem dX3_add_4 : decode cX3_add 4 = .ok (.ifCond .lt 15, 3) := by decide +kernel
theorem dX3_add_7 : decode cX3_add 7 = .ok (.aload_n 0, 1) := by decide +kernel
theorem dX3_add_8 : decode cX3_add 8 = .ok (.getfield 27, 3) := by decide +kernel
theorem dX3_add_11 : decode cX3_add 11 = .ok (.aload_n 0, 1) := by decide +kernel
theorem dX3_add_12 : decode cX3_add 12 = .ok (.getfield 11, 3) := by decide +kernel
theorem dX3_add_15 : decode cX3_add 15 = .ok (.arraylength, 1) := by decide +kernel
theorem dX3_add_16 : decode cX3_add 16 = .ok (.if_icmp .lt 6, 3) := by decide +kernel
theorem dX3_add_19 : decode cX3_add 19 = .ok (.bipush (-4), 2) := by decide +kernel
theorem dX3_add_21 : decode cX3_add 21 = .ok (.ireturn, 1) := by decide +kernel
theorem dX3_add_22 : decode cX3_add 22 = .ok (.aload_n 0, 1) := by decide +kernel
theorem dX3_add_23 : decode cX3_add 23 = .ok (.getfield 11, 3) := by decide +kernel
theorem dX3_add_26 : decode cX3_add 26 = .ok (.aload_n 0, 1) := by decide +kernel
theorem dX3_add_27 : decode cX3_add 27 = .ok (.getfield 27, 3) := by decide +kernel
theorem dX3_add_30 : decode cX3_add 30 = .ok (.aload_n 1, 1) := by decide +kernel
theorem dX3_add_31 : decode cX3_add 31 = .ok (.aastore, 1) := by decide +kernel
theorem dX3_add_32 : decode cX3_add 32 = .ok (.aload_n 0, 1) := by decide +kernel
theorem dX3_add_33 : decode cX3_add 33 = .ok (.dup, 1) := by decide +kernel
theorem dX3_add_34 : decode cX3_add 34 = .ok (.getfield 27, 3) := by decide +kernel
theorem dX3_add_37 : decode cX3_add 37 = .ok (.iconst 1, 1) := by decide +kernel
theorem dX3_add_38 : decode cX3_add 38 = .ok (.iadd, 1) := by decide +kernel
theorem dX3_add_39 : decode cX3_add 39 = .ok (.putfield 27, 3) := by decide +kernel
theorem dX3_add_42 : decode cX3_add 42 = .ok (.aload_n 0, 1) := by decide +kernel
theorem dX3_add_43 : decode cX3_add 43 = .ok (.getfield 27, 3) := by decide +kernel
theorem dX3_add_46 : decode cX3_add 46 = .ok (.iconst 1, 1) := by decide +kernel
theorem dX3_add_47 : decode cX3_add 47 = .ok (.isub, 1) := by decide +kernel
theorem dX3_add_48 : decode cX3_add 48 = .ok (.ireturn, 1) := by decide +kernel
theorem dX8_text_0 : decode cX8_text 0 = .ok (.aload_n 0, 1) := by decide +kernel
theorem dX8_text_1 : decode cX8_text 1 = .ok (.getfield 10, 3) := by decide +kernel
theorem dX8_text_4 : decode cX8_text 4 = .ok (.getfield 76, 3) := by decide +kernel
theorem dX8_text_7 : decode cX8_text 7 = .ok (.bipush 6, 2) := by decide +kernel
theorem dX8_text_9 : decode cX8_text 9 = .ok (.if_icmp .lt 6, 3) := by decide +kernel
theorem dX8_text_12 : decode cX8_text 12 = .ok (.bipush (-4), 2) := by decide +kernel
theorem dX8_text_14 : decode cX8_text 14 = .ok (.ireturn, 1) := by decide +kernel
theorem dX8_text_15 : decode cX8_text 15 = .ok (.aload_n 0, 1) := by decide +kernel
theorem dX8_text_16 : decode cX8_text 16 = .ok (.getfield 19, 3) := by decide +kernel
theorem dX8_text_19 : decode cX8_text 19 = .ok (.invokevirtual 93, 3) := by decide +kernel
theorem dX8_text_22 : decode cX8_text 22 = .ok (.istore_n 1, 1) := by decide +kernel
theorem dX8_text_23 : decode cX8_text 23 = .ok (.aload_n 0, 1) := by decide +kernel
theorem dX8_text_24 : decode cX8_text 24 = .ok (.getfield 19, 3) := by decide +kernel
theorem dX8_text_27 : decode cX8_text 27 = .ok (.iconst 0, 1) := by decide +kernel
theorem dX8_text_28 : decode cX8_text 28 = .ok (.putfield 82, 3) := by decide +kernel
theorem dX8_text_31 : decode cX8_text 31 = .ok (.iload_n 1, 1) := by decide +kernel
theorem dX8_text_32 : decode cX8_text 32 = .ok (.ifCond .lt 8, 3) := by decide +kernel
theorem dX8_text_35 : decode cX8_text 35 = .ok (.bipush (-100), 2) := by decide +kernel
theorem dX8_text_37 : decode cX8_text 37 = .ok (.iload_n 1, 1) := by decide +kernel
theorem dX8_text_38 : decode cX8_text 38 = .ok (.isub, 1) := by decide +kernel
theorem dX8_text_39 : decode cX8_text 39 = .ok (.ireturn, 1) := by decide +kernel
theorem dX8_text_40 : decode cX8_text 40 = .ok (.aload_n 0, 1) := by decide +kernel
theorem dX8_text_41 : decode cX8_text 41 = .ok (.getfield 10, 3) := by decide +kernel
theorem dX8_text_44 : decode cX8_text 44 = .ok (.new 97, 3) := by decide +kernel
theorem dX8_text_47 : decode cX8_text 47 = .ok (.dup, 1) := by decide +kernel
theorem dX8_text_48 : decode cX8_text 48 = .ok (.aload_n 0, 1) := by decide +kernel
theorem dX8_text_49 : decode cX8_text 49 = .ok (.getfield 19, 3) := by decide +kernel
theorem dX8_text_52 : decode cX8_text 52 = .ok (.iconst 0, 1) := by decide +kernel
theorem dX8_text_53 : decode cX8_text 53 = .ok (.invokevirtual 99, 3) := by decide +kernel
theorem dX8_text_56 : decode cX8_text 56 = .ok (.aload_n 0, 1) := by decide +kernel
theorem dX8_text_57 : decode cX8_text 57 = .ok (.getfield 19, 3) := by decide +kernel
theorem dX8_text_60 : decode cX8_text 60 = .ok (.iconst 1, 1) := by decide +kernel
theorem dX8_text_61 : decode cX8_text 61 = .ok (.invokevirtual 99, 3) := by decide +kernel
theorem dX8_text_64 : decode cX8_text 64 = .ok (.aload_n 0, 1) := by decide +kernel
theorem dX8_text_65 : decode cX8_text 65 = .ok (.getfield 19, 3) := by decide +kernel
theorem dX8_text_68 : decode cX8_text 68 = .ok (.iconst 2, 1) := by decide +kernel
theorem dX8_text_69 : decode cX8_text 69 = .ok (.invokevirtual 99, 3) := by decide +kernel
theorem dX8_text_72 : decode cX8_text 72 = .ok (.invokespecial 103, 3) := by decide +kernel
theorem dX8_text_75 : decode cX8_text 75 = .ok (.invokevirtual 106, 3) := by decide +kernel
theorem dX8_text_78 : decode cX8_text 78 = .ok (.ireturn, 1) := by decide +kernel
theorem dJ7_checkLength_df160_0 : decode cJ7_checkLength_df160 0 = .ok (.iload_n 1, 1) := by decide +kernel
theorem dJ7_checkLength_df160_1 : decode cJ7_checkLength_df160 1 = .ok (.iload_n 0, 1) := by decide +kernel
theorem dJ7_checkLength_df160_2 : decode cJ7_checkLength_df160 2 = .ok (.if_icmp .ge 35, 3) := by decide +kernel
theorem dJ7_checkLength_df160_5 : decode cJ7_checkLength_df160 5 = .ok (.new 43, 3) := by decide +kernel
theorem dJ7_checkLength_df160_8 : decode cJ7_checkLength_df160 8 = .ok (.dup, 1) := by decide +kernel
theorem dJ7_checkLength_df160_9 : decode cJ7_checkLength_df160 9 = .ok (.new 45, 3) := by decide +kernel
theorem dJ7_checkLength_df160_12 : decode cJ7_checkLength_df160 12 = .ok (.dup, 1) := by decide +kernel
theorem dJ7_checkLength_df160_13 : decode cJ7_checkLength_df160 13 = .ok (.invokespecial 47, 3) := by decide +kernel
theorem dJ7_checkLength_df160_16 : decode cJ7_checkLength_df160 16 = .ok (.iload_n 0, 1) := by decide +kernel
theorem dJ7_checkLength_df160_17 : decode cJ7_checkLength_df160 17 = .ok (.invokevirtual 54, 3) := by decide +kernel
theorem dJ7_checkLength_df160_20 : decode cJ7_checkLength_df160 20 = .ok (.ldc_w 337, 3) := by decide +kernel
theorem dJ7_checkLength_df160_23 : decode cJ7_checkLength_df160 23 = .ok (.invokevirtual 50, 3) := by decide +kernel
theorem dJ7_checkLength_df160_26 : decode cJ7_checkLength_df160 26 = .ok (.iload_n 1, 1) := by decide +kernel
theorem dJ7_checkLength_df160_27 : decode cJ7_checkLength_df160 27 = .ok (.invokevirtual 54, 3) := by decide +kernel
theorem dJ7_checkLength_df160_30 : decode cJ7_checkLength_df160 30 = .ok (.invokevirtual 61, 3) := by decide +kernel
theorem dJ7_checkLength_df160_33 : decode cJ7_checkLength_df160 33 = .ok (.invokespecial 65, 3) := by decide +kernel
theorem dJ7_checkLength_df160_36 : decode cJ7_checkLength_df160 36 = .ok (.athrow, 1) := by decide +kernel
theorem dJ7_checkLength_df160_37 : decode cJ7_checkLength_df160 37 = .ok (.return_, 1) := by decide +kernel
theorem dJ7_copyOfRange_feecc_0 : decode cJ7_copyOfRange_feecc 0 = .ok (.iload_n 1, 1) := by decide +kernel
theorem dJ7_copyOfRange_feecc_1 : decode cJ7_copyOfRange_feecc 1 = .ok (.ifCond .ne 9, 3) := by decide +kernel
theorem dJ7_copyOfRange_feecc_4 : decode cJ7_copyOfRange_feecc 4 = .ok (.iload_n 2, 1) := by decide +kernel
theorem dJ7_copyOfRange_feecc_5 : decode cJ7_copyOfRange_feecc 5 = .ok (.aload_n 0, 1) := by decide +kernel
theorem dJ7_copyOfRange_feecc_6 : decode cJ7_copyOfRange_feecc 6 = .ok (.arraylength, 1) := by decide +kernel
theorem dJ7_copyOfRange_feecc_7 : decode cJ7_copyOfRange_feecc 7 = .ok (.if_icmp .eq 10, 3) := by decide +kernel
theorem dJ7_copyOfRange_feecc_10 : decode cJ7_copyOfRange_feecc 10 = .ok (.aload_n 0, 1) := by decide +kernel
theorem dJ7_copyOfRange_feecc_11 : decode cJ7_copyOfRange_feecc 11 = .ok (.iload_n 1, 1) := by decide +kernel
theorem dJ7_copyOfRange_feecc_12 : decode cJ7_copyOfRange_feecc 12 = .ok (.iload_n 2, 1) := by decide +kernel
theorem dJ7_copyOfRange_feecc_13 : decode cJ7_copyOfRange_feecc 13 = .ok (.invokestatic 351, 3) := by decide +kernel
theorem dJ7_copyOfRange_feecc_16 : decode cJ7_copyOfRange_feecc 16 = .ok (.areturn, 1) := by decide +kernel
theorem dJ7_copyOfRange_feecc_17 : decode cJ7_copyOfRange_feecc 17 = .ok (.aload_n 0, 1) := by decide +kernel
theorem dJ7_copyOfRange_feecc_18 : decode cJ7_copyOfRange_feecc 18 = .ok (.invokevirtual 316, 3) := by decide +kernel
theorem dJ7_copyOfRange_feecc_21 : decode cJ7_copyOfRange_feecc 21 = .ok (.checkcast 317, 3) := by decide +kernel
theorem dJ7_copyOfRange_feecc_24 : decode cJ7_copyOfRange_feecc 24 = .ok (.areturn, 1) := by decide +kernel
theorem dJ7_copyOfRangeInt_feecc_0 : decode cJ7_copyOfRangeInt_feecc 0 = .ok (.iload_n 1, 1) := by decide +kernel
theorem dJ7_copyOfRangeInt_feecc_1 : decode cJ7_copyOfRangeInt_feecc 1 = .ok (.iload_n 2, 1) := by decide +kernel
theorem dJ7_copyOfRangeInt_feecc_2 : decode cJ7_copyOfRangeInt_feecc 2 = .ok (.invokestatic 343, 3) := by decide +kernel
theorem dJ7_copyOfRangeInt_feecc_5 : decode cJ7_copyOfRangeInt_feecc 5 = .ok (.iload_n 2, 1) := by decide +kernel
theorem dJ7_copyOfRangeInt_feecc_6 : decode cJ7_copyOfRangeInt_feecc 6 = .ok (.iload_n 1, 1) := by decide +kernel
theorem dJ7_copyOfRangeInt_feecc_7 : decode cJ7_copyOfRangeInt_feecc 7 = .ok (.isub, 1) := by decide +kernel
theorem dJ7_copyOfRangeInt_feecc_8 : decode cJ7_copyOfRangeInt_feecc 8 = .ok (.istore_n 3, 1) := by decide +kernel
theorem dJ7_copyOfRangeInt_feecc_9 : decode cJ7_copyOfRangeInt_feecc 9 = .ok (.iload_n 3, 1) := by decide +kernel
theorem dJ7_copyOfRangeInt_feecc_10 : decode cJ7_copyOfRangeInt_feecc 10 = .ok (.newarray .int, 2) := by decide +kernel
theorem dJ7_copyOfRangeInt_feecc_12 : decode cJ7_copyOfRangeInt_feecc 12 = .ok (.astore 4, 2) := by decide +kernel
theorem dJ7_copyOfRangeInt_feecc_14 : decode cJ7_copyOfRangeInt_feecc 14 = .ok (.aload_n 0, 1) := by decide +kernel
theorem dJ7_copyOfRangeInt_feecc_15 : decode cJ7_copyOfRangeInt_feecc 15 = .ok (.iload_n 1, 1) := by decide +kernel
theorem dJ7_copyOfRangeInt_feecc_16 : decode cJ7_copyOfRangeInt_feecc 16 = .ok (.aload 4, 2) := by decide +kernel
theorem dJ7_copyOfRangeInt_feecc_18 : decode cJ7_copyOfRangeInt_feecc 18 = .ok (.iconst 0, 1) := by decide +kernel
theorem dJ7_copyOfRangeInt_feecc_19 : decode cJ7_copyOfRangeInt_feecc 19 = .ok (.aload_n 0, 1) := by decide +kernel
theorem dJ7_copyOfRangeInt_feecc_20 : decode cJ7_copyOfRangeInt_feecc 20 = .ok (.arraylength, 1) := by decide +kernel
theorem dJ7_copyOfRangeInt_feecc_21 : decode cJ7_copyOfRangeInt_feecc 21 = .ok (.iload_n 1, 1) := by decide +kernel
theorem dJ7_copyOfRangeInt_feecc_22 : decode cJ7_copyOfRangeInt_feecc 22 = .ok (.isub, 1) := by decide +kernel
theorem dJ7_copyOfRangeInt_feecc_23 : decode cJ7_copyOfRangeInt_feecc 23 = .ok (.iload_n 3, 1) := by decide +kernel
theorem dJ7_copyOfRangeInt_feecc_24 : decode cJ7_copyOfRangeInt_feecc 24 = .ok (.invokestatic 304, 3) := by decide +kernel
theorem dJ7_copyOfRangeInt_feecc_27 : decode cJ7_copyOfRangeInt_feecc 27 = .ok (.invokestatic 150, 3) := by decide +kernel
theorem dJ7_copyOfRangeInt_feecc_30 : decode cJ7_copyOfRangeInt_feecc 30 = .ok (.aload 4, 2) := by decide +kernel
theorem dJ7_copyOfRangeInt_feecc_32 : decode cJ7_copyOfRangeInt_feecc 32 = .ok (.areturn, 1) := by decide +kernel
theorem ms_J7_31 : MS RX2 31 yJ7_copyOfRange_feecc cJ7_copyOfRange_feecc 3 (some (.array .int)) 3 := ⟨tb_in 565 (by decide +kernel) rfl, tb_in 563 (by decide +kernel) rfl, tb_in 564 (by decide +kernel) rfl, tb_in 94 (by decide +kernel) rfl, by decide, by decide, by decide +kernel⟩
theorem ms_J7_351 : MS RJ7 351 yJ7_copyOfRangeInt_feecc cJ7_copyOfRangeInt_feecc 5 (some (.array .int)) 3 := ⟨tb_in 568 (by decide +kernel) rfl, tb_in 566 (by decide +kernel) rfl, tb_in 567 (by decide +kernel) rfl, tb_in 94 (by decide +kernel) rfl, by decide, by decide, by decide +kernel⟩
theorem ms_J7_343 : MS RJ7 343 yJ7_checkLength_df160 cJ7_checkLength_df160 2 none 2 := ⟨tb_in 571 (by decide +kernel) rfl, tb_in 569 (by decide +kernel) rfl, tb_in 570 (by decide +kernel) rfl, tb_in 94 (by decide +kernel) rfl, by decide, by decide, by decide +kernel⟩
theorem ms_J7_304 : MS RJ7 304 yJ9_min_7cf53 cJ9_min_7cf53 2 (some .int) 2 := ⟨tb_in 574 (by decide +kernel) rfl, tb_in 572 (by decide +kernel) rfl, tb_in 573 (by decide +kernel) rfl, tb_in 95 (by decide +kernel) rfl, by decide, by decide, by decide +kernel⟩
theorem ml_J7_150 : Cond.methodLink RJ7 150 arraycopyName ∈ TB ∧ Cond.native arraycopyName ∈ TB ∧ Cond.static arraycopyName ∈ TB ∧ Cond.initialized "java/lang/System" ∈ TB := ⟨tb_in 575 (by decide +kernel) rfl, tb_in 577 (by decide +kernel) rfl, tb_in 576 (by decide +kernel) rfl, tb_in 96 (by decide +kernel) rfl⟩
theorem mw_X8_99 : MW RX8 99 yX2_codeOf cX2_codeOf 5 (some (.array .int)) 1 := ⟨tb_in 562 (by decide +kernel) rfl, tb_in 559 (by decide +kernel) rfl, tb_in 560 (by decide +kernel) rfl, tb_in 561 (by decide +kernel) rfl, tb_in 83 (by decide +kernel) rfl, by decide, by decide, by decide +kernel⟩
theorem mw_X8_106 : MW RX8 106 yX3_add cX3_add 2 (some .int) 1 := ⟨tb_in 589 (by decide +kernel) rfl, tb_in 586 (by decide +kernel) rfl, tb_in 587 (by decide +kernel) rfl, tb_in 588 (by decide +kernel) rfl, tb_in 81 (by decide +kernel) rfl, by decide, by decide, by decide +kernel⟩
theorem mw_X8_93 : MW RX8 93 yX2_read cX2_read 2 (some .int) 0 := ⟨tb_in 412 (by decide +kernel) rfl, tb_in 409 (by decide +kernel) rfl, tb_in 410 (by decide +kernel) rfl, tb_in 411 (by decide +kernel) rfl, tb_in 83 (by decide +kernel) rfl, by decide, by decide, by decide +kernel⟩
theorem cl_X8_97 : Cond.classLink RX8 97 RX5 ∈ TB ∧ Cond.instantiable RX5 3 ∈ TB ∧ Cond.initialized RX5 ∈ TB := ⟨tb_in 558 (by decide +kernel) rfl, tb_in 114 (by decide +kernel) rfl, tb_in 82 (by decide +kernel) rfl⟩
theorem mi_X8_103 : MI RX8 103 yX5_init cX5_init 4 3 := ⟨tb_in 117 (by decide +kernel) rfl, tb_in 116 (by decide +kernel) rfl, tb_in 82 (by decide +kernel) rfl, ⟨by decide, by decide, by decide +kernel⟩, rfl, Or.inl (tb_in 585 (by decide +kernel) rfl)⟩
def PT (D : va_G) (ac : Nat → ClassId) (S : SP) (vs : List Value) (Wa : Heap → Prop) : Array Value → State → Prop := va_Pc vs (fun U => Wa U.heap ∧ va_K D cls (tysA ac) U ∧ SX S U)
def QT (v : Option Value) (Wb : Heap → Prop) (A : Nat → Prop) : Array Value → State → Outcome → State → Prop := fun _ st oc t => (oc = .returned v ∧ Wb t.heap) ∧ va_F A st t
def MT (l : Launch) (D : va_G) (ac : Nat → ClassId) (S : SP) (A : Nat → Prop) (y : MethodName) (cc : ByteArray) (nL : Nat) (ret : Option FieldType) (K mc ms : Nat) (vs : List Value) (Wa : Heap → Prop) (v : Option Value) (Wb : Heap → Prop) : Prop :=
  Met l y (wl y cc nL ret) (rma K mc ms) (PT D ac S vs Wa) (QT v Wb A) mc ms A
theorem PT.blind {D : va_G} {ac : Nat → ClassId} {S : SP} {vs : List Value} {Wa : Heap → Prop} : FrameBlind (PT D ac S vs Wa) := by
  intro a U g mk q
  obtain ⟨q0, q1, q2, q3⟩ := q
  exact ⟨q0, q1, va_K.moved (u := U) (U := U.calling g mk a) (Vm.Alike.refl U.vm) q2, SX.step (s := U) (U := U.calling g mk a) (State.WarmedH.refl U) (fun _ _ _ => rfl) q3⟩
theorem MQ.up {below : List Frame} {Qc : Array Value → State → Outcome → State → Prop} {a : Array Value} {s t : State} {k n k' n' : Nat} {free : Addr → Prop} (h1 : k ≤ k') (h2 : n ≤ n') (h : MQ below Qc a s k n free t) : MQ below Qc a s k' n' free t := by
  obtain ⟨o, e1, e2, e3, L, ⟨f1, f2, g1, g2, g3, g4, g5, g6⟩, hL⟩ := h
  exact ⟨o, e1, e2, e3, L, ⟨f1, f2, g1, g2, Nat.le_trans g3 (Nat.add_le_add_left h1 _), g4, Nat.le_trans g5 h2, g6⟩, hL⟩
theorem W.up {p : Program} {l : Launch} {e : Env} {R : Room} {s : State} {m : MethodId} {args : Array Value} {below : List Frame} {meth : Method} {c : Code} {H : Heap} {locs : List Loc} {cells slots : Nat} {Q Q' : State → Prop} {g : JFrame} (h : W p l e R s m args below meth c H locs cells slots Q g) (hq : ∀ t, Q t → Q' t) : W p l e R s m args below meth c H locs cells slots Q' g := fun T hT X => by
  obtain ⟨t, a1, b1⟩ := h T hT X
  exact ⟨t, a1, hq t b1⟩
theorem CX.to {cc : ByteArray} {nL : Nat} {own : String} {ret : Option FieldType} {D : va_G} {ac : Nat → ClassId} {p : Program} {m : MethodId} {c : Code} {s : State} {args : Array Value} {meth : Method} {S : SP} {A B : Nat → Prop} (C : CX cc nL own ret D ac p m c s args meth S A) (hB : ∀ q, B q → S.1 ≤ q) : CX cc nL own ret D ac p m c s args meth S B := ⟨C.1, C.2.1, C.2.2.1, C.2.2.2.1, C.2.2.2.2.1, hB⟩
section GT
variable {p : Program} {l : Launch} {e : Env} {R : Room} {s : State} {m : MethodId} {args : Array Value} {below : List Frame} {meth : Method} {c : Code} {H : Heap} {locs : List Loc} {cells slots : Nat} {Q : State → Prop}
variable {cc : ByteArray} {nL : Nat} {own : String} {ret : Option FieldType} {D : va_G} {ac : Nat → ClassId} {z idx : Nat} {A : Nat → Prop} {S : SP} {pc : Nat} {ls : Array Slot} {st rest : List Value} {v : Option Value} {Wa Wb : Heap → Prop}
theorem MT.of {y : MethodName} {K mc ms : Nat} {vs : List Value} (hA : ∀ q, A q → S.1 ≤ q) (hy : plainFor y = true) (hn : (lg_sl vs).length ≤ nL)
    (body : ∀ (p : Program) (e : Env) (s : State) (m : MethodId) (below : List Frame) (meth : Method) (c : Code) (args : Array Value), CX cc nL y.cls ret D ac p m c s args meth S A → Wa s.heap → ∀ ls, lv_has ls nL (lv_args 0 vs) →
      W p l e (rma K mc ms) s m args below meth c s.heap [] 0 0 (MQ below (QT v Wb A) args s mc ms A) (F0 m 0 ls [])) : MT l D ac S A y cc nL ret K mc ms vs Wa v Wb := by
  unfold MT Met
  refine MetFree.of_bodySF (code := cc) (maxLocals := nL) (ret := ret) hy (fun args s m h hn => ?_) (fun p e s m args below meth c s₁ B hml hv _ => ?_)
  · obtain ⟨meth, c, h1, h2, h3, h4, h5, h6, -, -⟩ := Cond.code_spec hn (atoms_spec (ws := wl y cc nL ret) h _ List.mem_cons_self)
    exact ⟨meth, c, h1, h2, h3, h4, h5, h6⟩
  · obtain ⟨rfl, hW, hK, hSX⟩ := hv
    have hts0 := atoms_spec (ws := wl y cc nL ret) B.pre
    have hl := lv_entry vs (n := nL) hn
    have hh0 : s₁.heap = s.heap := by rw [B.state]; rfl
    have hk := body p e s m below meth c _ ⟨⟨B.exec, B.bytes, hml, findClass_of_methodNamed B.named, fun w hw => hts0 w (List.mem_cons_of_mem _ hw)⟩, B.returns, B.notSynchronized, hK, hSX, hA⟩ hW _ hl
    rw [← lg_entry_eq] at hk
    obtain ⟨t, a1, o, b1, b2, b3⟩ := hk s₁ hh0 (Stand.of_body B)
    exact ⟨t, o, a1, b1, b2, ⟨b3.1, b3.2⟩⟩
theorem t_iret {ty : FieldType} {mc ms : Nat} (C : CX cc nL own (some ty) D ac p m c s args meth S A) (hW : Wb H) (hS : va_S A s.heap H locs) {x : Int32} (hn : narrow ty (.int x) = .int x) (hd : decode cc pc = .ok (.ireturn, 1)) (hv : v = some (.int x)) (h1 : cells ≤ mc) (h2 : slots ≤ ms) :
    W p l e R s m args below meth c H locs cells slots (MQ below (QT v Wb A) args s mc ms A) (F0 m pc ls [.int x]) := by
  subst hv
  exact (W.zret C.1.1 C.1.2.1 C.2.1 hn (fun t ht hWm => ⟨⟨rfl, by rw [ht]; exact hW⟩, hS.F ht⟩) hS.2.2 hd C.2.2.1).up (fun t h => h.up h1 h2)
theorem t_aret {rt : FieldType} {mc ms a : Nat} (C : CX cc nL own (some rt) D ac p m c s args meth S A) (hrt : (∃ n, rt = .object n) ∨ ∃ t, rt = .array t) (hW : Wb H) (hS : va_S A s.heap H locs) (hd : decode cc pc = .ok (.areturn, 1)) (hv : v = some (.ref a)) (h1 : cells ≤ mc) (h2 : slots ≤ ms) :
    W p l e R s m args below meth c H locs cells slots (MQ below (QT v Wb A) args s mc ms A) (F0 m pc ls [.ref a]) := by
  subst hv
  exact (W.aret C.1.1 C.1.2.1 C.2.1 hrt (Or.inr ⟨a, rfl⟩) (fun t ht hWm => ⟨⟨rfl, by rw [ht]; exact hW⟩, hS.F ht⟩) hS.2.2 hd C.2.2.1).up (fun t h => h.up h1 h2)
theorem t_vret {mc ms : Nat} (C : CX cc nL own none D ac p m c s args meth S A) (hW : Wb H) (hS : va_S A s.heap H locs) (hd : decode cc pc = .ok (.return_, 1)) (hv : v = none) (h1 : cells ≤ mc) (h2 : slots ≤ ms) :
    W p l e R s m args below meth c H locs cells slots (MQ below (QT v Wb A) args s mc ms A) (F0 m pc ls []) := by
  subst hv
  exact (W.vret C.1.1 C.1.2.1 C.2.1 (fun t ht hWm => ⟨⟨rfl, by rw [ht]; exact hW⟩, hS.F ht⟩) hS.2.2 hd C.2.2.1).up (fun t h => h.up h1 h2)
theorem t_run {A' : Nat → Prop} {st0 : List Value} {a : Array Value} {mc ms : Nat} (hr : va_Run p l e R s m args below meth c H locs cells slots mc ms (F0 m pc ls st0) rest (QT v Wb A' a) A') (hS : va_S A s.heap H locs) (hAA : ∀ q, A' q → A q)
    (kk : ∀ (H' : Heap) (locs' : List Loc), Wb H' → (∀ q : Nat, q < H.size → ¬ A' q → H'[q]? = H[q]?) → va_S A s.heap H' locs' → W p l e R s m args below meth c H' locs' (cells + mc) (slots + ms) Q (F0 m (pc + 3) ls (v.toList ++ rest))) : W p l e R s m args below meth c H locs cells slots Q (F0 m pc ls st0) := by
  intro T hT X
  obtain ⟨v', st₀, t, T', L, h0, X', hL, e1, e2, ⟨⟨hv, hw⟩, hz, hk⟩, st⟩ := hr T hT X
  cases hv
  rw [h0] at hz hk
  obtain ⟨t2, a1, b1⟩ := kk T'.heap (locs ++ L) (by rw [e1]; exact hw) (fun q h1 h2 => by rw [e1]; exact hk q h1 h2)
    ⟨Nat.le_trans hS.1 (by rw [e1]; exact hz), fun q h1 h2 => by rw [e1, hk q (Nat.lt_of_lt_of_le h1 hS.1) (fun h => h2 (hAA q h))]; exact hS.2.1 q h1 h2, fun q hq => by
      rcases List.mem_append.mp hq with h | h
      · exact hS.2.2 q h
      · exact hAA _ (hL q h)⟩ T' rfl X'
  exact ⟨t2, st t2 a1, b1⟩
theorem t_stat {A' : Nat → Prop} {st2 : List Value} (C : CX cc nL own ret D ac p m c s args meth S A) {maxL K' n mc ms : Nat} {As : List Value} {y : MethodName} {bytes : ByteArray} {ret' : Option FieldType} (hW : Wa H) (hS : va_S A s.heap H locs)
    (hM : MT l D ac S A' y bytes maxL ret' K' mc ms As Wa v Wb) (hAA : ∀ q, A' q → A q) (mw : MS own idx y bytes maxL ret' n)
    (hR : K' + 1 ≤ R.frames ∧ 8 + (maxL + 11) + 40 * K' ≤ R.locals ∧ cells + mc ≤ R.cells ∧ slots + ms ≤ R.slots) (hn : As.length = n) (hst : st = As.reverse ++ rest) (hst2 : v.toList ++ rest = st2) (hrest0 : (rest.map fun v => v.category).sum ≤ 8) (hsz : ls.size = nL) (hd : decode cc pc = .ok (.invokestatic idx, 3))
    (kk : ∀ (H' : Heap) (locs' : List Loc), Wb H' → (∀ q : Nat, q < H.size → ¬ A' q → H'[q]? = H[q]?) → va_S A s.heap H' locs' → W p l e R s m args below meth c H' locs' (cells + mc) (slots + ms) Q (F0 m (pc + 3) ls st2)) : W p l e R s m args below meth c H locs cells slots Q (F0 m pc ls st) := by
  obtain ⟨hF, hr, hlk, hK, hSX, hA⟩ := C
  obtain ⟨hx, hb, hml, ho, hts⟩ := id hF
  subst hst2
  obtain ⟨m1, m2, m3, m5, m6⟩ := mw
  have cw : CallB R s args own idx y bytes maxL ret' (wl y bytes maxL ret') (rma K' mc ms) mc ms n ∧ (Cond.static y).before args s = true := ⟨callB_of n hts (gIn m1) rfl rfl rfl (hts _ m5) (hts _ m2) m6 ⟨hR.1, hR.2.1⟩, hts _ m3⟩
  exact t_run (va_runS (As := As) (rest := rest) hF hM cw ⟨PT.blind, fun U hU hWm => ⟨rfl, by rw [hU]; exact hW, va_K.moved hWm.alike hK, hSX.step hWm (fun q h1 h2 => by rw [hU]; exact hS.2.1 q h1 (fun h3 => h2 (hA q h3)))⟩⟩ rfl hn hsz hst (lv_room hrest0) hd ⟨hR.2.2.1, hR.2.2.2⟩) hS hAA kk
theorem t_virt {A' : Nat → Prop} {st2 : List Value} (C : CX cc nL own ret D ac p m c s args meth S A) {b ci maxL K' N n mc ms : Nat} {fs As : List Value} {y : MethodName} {bytes : ByteArray} {ret' : Option FieldType} {T : u_T} (hW : Wa H) (hS : va_S A s.heap H locs)
    (hM : MT l D ac S A' y bytes maxL ret' K' mc ms (.ref b :: As) Wa v Wb) (hAA : ∀ q, A' q → A q) (mw : MW own idx y bytes maxL ret' n) (hrec : va_at D cls (b, .inr (ci, fs)) H) (hc : cls[ci]? = some (y.cls, T, N))
    (hR : K' + 1 ≤ R.frames ∧ 8 + (maxL + 11) + 40 * K' ≤ R.locals ∧ cells + mc ≤ R.cells ∧ slots + ms ≤ R.slots) (hn : As.length = n) (hst : st = As.reverse ++ .ref b :: rest) (hst2 : v.toList ++ rest = st2) (hrest0 : (rest.map fun v => v.category).sum ≤ 8) (hsz : ls.size = nL) (hd : decode cc pc = .ok (.invokevirtual idx, 3))
    (kk : ∀ (H' : Heap) (locs' : List Loc), Wb H' → (∀ q : Nat, q < H.size → ¬ A' q → H'[q]? = H[q]?) → va_S A s.heap H' locs' → W p l e R s m args below meth c H' locs' (cells + mc) (slots + ms) Q (F0 m (pc + 3) ls st2)) : W p l e R s m args below meth c H locs cells slots Q (F0 m pc ls st) := by
  obtain ⟨hF, hr, hlk, hK, hSX, hA⟩ := C
  obtain ⟨hx, hb, hml, ho, hts⟩ := id hF
  subst hst2
  obtain ⟨m1, m2, m3, m4, m5, m6⟩ := mw
  have hP : va_P D cls [(b, .inr (ci, fs))] H := by
    intro i q hq
    have hz : i < 1 := (List.getElem?_eq_some_iff.mp hq).1
    rw [show i = 0 by omega] at hq
    cases hq
    exact hrec
  have cw : CallW R s args own y.cls idx y bytes maxL ret' (wl y bytes maxL ret') (rma K' mc ms) mc ms n := ⟨callB_of n hts (gIn m1) rfl rfl rfl (hts _ m5) (hts _ m2) m6 ⟨hR.1, hR.2.1⟩, hts _ m3, hts _ m4⟩
  exact t_run (va_runV (As := As) (rest := rest) hF hM cw ⟨PT.blind, va_recv hK hP (ci := ci) (q0 := 0) hc rfl, fun U hU hWm => ⟨rfl, by rw [hU]; exact hW, va_K.moved hWm.alike hK, hSX.step hWm (fun q h1 h2 => by rw [hU]; exact hS.2.1 q h1 (fun h3 => h2 (hA q h3)))⟩⟩ rfl hn hsz hst (lv_room hrest0) hd ⟨hR.2.2.1, hR.2.2.2⟩) hS hAA kk
theorem t_spec {A' : Nat → Prop} (C : CX cc nL own ret D ac p m c s args meth S A) {b maxL K' np mc ms : Nat} {As : List Value} {y : MethodName} {bytes : ByteArray} (hW : Wa H) (hS : va_S A s.heap H locs)
    (hM : MT l D ac S A' y bytes maxL none K' mc ms (.ref b :: As) Wa none Wb) (hAA : ∀ q, A' q → A q) (mw : MI own idx y bytes maxL np)
    (hR : K' + 1 ≤ R.frames ∧ 8 + (maxL + 11) + 40 * K' ≤ R.locals ∧ cells + mc ≤ R.cells ∧ slots + ms ≤ R.slots) (hn : As.length = np) (hst : st = As.reverse ++ .ref b :: rest) (hrest0 : (rest.map fun v => v.category).sum ≤ 8) (hsz : ls.size = nL) (hd : decode cc pc = .ok (.invokespecial idx, 3))
    (kk : ∀ (H' : Heap) (locs' : List Loc), Wb H' → (∀ q : Nat, q < H.size → ¬ A' q → H'[q]? = H[q]?) → va_S A s.heap H' locs' → W p l e R s m args below meth c H' locs' (cells + mc) (slots + ms) Q (F0 m (pc + 3) ls rest)) : W p l e R s m args below meth c H locs cells slots Q (F0 m pc ls st) := by
  obtain ⟨hF, hr, hlk, hK, hSX, hA⟩ := C
  obtain ⟨hx, hb, hml, ho, hts⟩ := id hF
  obtain ⟨m1, m3, m5, m6, m7, m8⟩ := mw
  have hp : PreS s H (PT D ac S (.ref b :: As) Wa) (.ref b :: As) := ⟨PT.blind, fun U hU hWm => ⟨rfl, by rw [hU]; exact hW, va_K.moved hWm.alike hK, hSX.step hWm (fun q h1 h2 => by rw [hU]; exact hS.2.1 q h1 (fun h3 => h2 (hA q h3)))⟩⟩
  have hGI := gIn m1
  rcases m8 with m8 | m8
  · exact t_run (va_runI (As := As) (rest := rest) hF hM ⟨callB_of np hts hGI rfl rfl rfl (hts _ m5) (hts _ m8) m6 ⟨hR.1, hR.2.1⟩, m7, hts _ m3⟩ hp rfl hn hsz hst (lv_room hrest0) hd ⟨hR.2.2.1, hR.2.2.2⟩) hS hAA kk
  · exact t_run (va_runIN (As := As) (rest := rest) hF hM ⟨va_cnB np hts hGI rfl rfl rfl (hSX.2.2.2.2.1 _ m8) (hts _ m5) m6 ⟨hR.1, hR.2.1⟩, m7, hts _ m3⟩ hp rfl hn hsz hst (lv_room hrest0) hd ⟨hR.2.2.1, hR.2.2.2⟩) hS hAA kk
theorem r_copy (C : CX cc nL own ret D ac p m c s args meth S A) (hS : va_S A s.heap H locs) {a b Na Nb : Nat} {f g : Nat → Int32} (ha : H[a]? = some (vp_cell (ac 0) (Na, .inl f))) (hbb : H[b]? = some (vp_cell (ac 0) (Nb, .inl g))) (hab : A b) {i j n : Int32} (c1 : 0 ≤ i) (c2 : 0 ≤ j) (c3 : 0 ≤ n) (c4 : i.toNatClampNeg + n.toNatClampNeg ≤ Na) (c5 : j.toNatClampNeg + n.toNatClampNeg ≤ Nb) (hsz : ls.size = nL)
    (hR : 1 ≤ R.frames ∧ (rest.map fun v => v.category).sum + (nativeFrameWords "java/lang/System" "arraycopy" 5 + 11) ≤ R.locals) (hl : Cond.methodLink own idx arraycopyName ∈ TB ∧ Cond.native arraycopyName ∈ TB ∧ Cond.static arraycopyName ∈ TB ∧ Cond.initialized "java/lang/System" ∈ TB) (hd : decode cc pc = .ok (.invokestatic idx, 3))
    (kk : ∀ (H' : Heap) (locs' : List Loc), H'[b]? = some (vp_cell (ac 0) (Nb, .inl (va_cpy f g i.toNatClampNeg j.toNatClampNeg n.toNatClampNeg))) → H'.size = H.size → (∀ q : Nat, q ≠ b → H'[q]? = H[q]?) → va_S A s.heap H' locs' → W p l e R s m args below meth c H' locs' cells slots Q (F0 m (pc + 3) ls rest)) : W p l e R s m args below meth c H locs cells slots Q (F0 m pc ls (.int n :: .int j :: .ref b :: .int i :: .ref a :: rest)) := by
  obtain ⟨⟨hx, hb, hml, ho, hts⟩, hr, hlk, hK, -, -⟩ := C
  obtain ⟨-, k0, hk0, cm0, hkk0⟩ := (hK.2 0 _ rfl).1 40 (fun j => .int (f j))
  intro T hT X
  have sz : ∀ (N : Nat) (k : Nat → Int32), (vp_cell (ac 0) (N, .inl k)).slots.size = N := fun N k => by rw [vp_cell_i, arrV_size]
  obtain ⟨vm', X', step⟩ := X.arraycopy hx ho (hts _ hl.1) (hts _ hl.2.1) (hts _ hl.2.2.1) (hts _ hl.2.2.2) (src := a) (dst := b) (cs := vp_cell (ac 0) (Na, .inl f)) (cd := vp_cell (ac 0) (Nb, .inl g)) (srcPos := i) (destPos := j) (n := n) (by rw [hT]; exact ha) (by rw [hT]; exact hbb)
    (fun _ h => by cases h) (fun _ h => by cases h) (fun h => by cases h) (fun h => by cases h) hk0 hk0 hkk0 hkk0 (by simp [refKind]) (Int32.not_lt.mpr c1) (Int32.not_lt.mpr c2) (Int32.not_lt.mpr c3)
    (by rw [nn_int c1, nn_int c3, sz]; omega) (by rw [nn_int c2, nn_int c3, sz]; omega)
    (fun vm₁ _ q hq => by
      have e : (vp_cell (ac 0) (Na, .inl f)).slots.getD (i.toNatClampNeg + q) .null = .int (f (i.toNatClampNeg + q)) := by
        rw [vp_cell_i, Array.getD_eq_getD_getElem?, arrV_read _ _ (by omega)]
        rfl
      rw [e]
      exact ⟨rfl, trivial⟩)
    (g := F0 m pc ls (.int n :: .int j :: .ref b :: .int i :: .ref a :: rest)) rfl (by rw [hml]; exact hsz) (rest := rest) rfl (by rw [hb]; exact hd) hR.1 (by have h2 := hR.2; show 2 * 0 + _ + _ ≤ _; omega)
  have e1 : copied (vp_cell (ac 0) (Na, .inl f)) (vp_cell (ac 0) (Nb, .inl g)) i j n = vp_cell (ac 0) (Nb, .inl (va_cpy f g i.toNatClampNeg j.toNatClampNeg n.toNatClampNeg)) := va_copied (fun x => .int x) (ac 0) (ac 0) f g c4
  rw [e1] at X' step
  have hlt : b < H.size := (Array.getElem?_eq_some_iff.mp hbb).1
  have oq : ∀ (x : Cell) (q : Nat), q ≠ b → (H.setIfInBounds b x)[q]? = H[q]? := fun x q hq => by simp [Array.getElem?_setIfInBounds, Ne.symm hq]
  obtain ⟨t, a1, b1⟩ := kk (H.setIfInBounds b (vp_cell (ac 0) (Nb, .inl (va_cpy f g i.toNatClampNeg j.toNatClampNeg n.toNatClampNeg)))) _ (by simp [Array.getElem?_setIfInBounds, hlt]) (by simp) (oq _)
    (⟨by simp; exact hS.1, fun q g1 g2 => by
      rw [oq _ q (fun h => g2 (by rw [h]; exact hab))]
      exact hS.2.1 q g1 g2, fun q hq => by
      rcases List.mem_append.mp hq with h | h
      · exact hS.2.2 q h
      · obtain ⟨y, -, hy⟩ := List.mem_map.mp h
        rw [← hy]
        exact hab⟩) _ (by rw [← hT]; rfl) X'
  exact ⟨t, step t a1, b1⟩
theorem r_aast (C : CX cc nL own ret D ac p m c s args meth S A) (hS : va_S A s.heap H locs) {a b N ci Nf : Nat} (t0 : Nat) {cA : ClassId} {Cn : String} {T : u_T} {fs : List Value} {f : Nat → Option Nat} (ha : H[a]? = some (vp_cell cA (N, .inr (.inr (.inr (.inr f)))))) (hA : A a) (ht : (tysA ac)[t0]? = some (cA, .object Cn)) (hq : va_at D cls (b, .inr (ci, fs)) H) (hc : cls[ci]? = some (Cn, T, Nf)) {i : Int32} (hin : vp_in i N) (hd : decode cc pc = .ok (.aastore, 1))
    (kk : ∀ (H' : Heap) (locs' : List Loc), H'[a]? = some (vp_cell cA (N, .inr (.inr (.inr (.inr (va_up f i.toNatClampNeg (some b))))))) → H'.size = H.size → (∀ q : Nat, q ≠ a → H'[q]? = H[q]?) → va_S A s.heap H' locs' → W p l e R s m args below meth c H' locs' cells slots Q (F0 m (pc + 1) ls rest)) : W p l e R s m args below meth c H locs cells slots Q (F0 m pc ls (.ref b :: .int i :: .ref a :: rest)) := by
  obtain ⟨⟨hx, hb, hml, ho, hts⟩, hr, hlk, hK, -, -⟩ := C
  have hlt : i.toNatClampNeg < N := Nat.not_le.mp fun q => hin (Or.inr q)
  have h0 : ¬ i < 0 := fun q => hin (Or.inl q)
  obtain ⟨r', hr', cellV, g1, g2, g3, -⟩ := hq
  have hcls := (hK.1 ci _ hc).2
  obtain ⟨kA, comp, k1, k2, k3, -⟩ := (hK.2 t0 _ ht).2
  have hcomp : comp = D.1 ci := Option.some.inj (k3.symm.trans hcls.1)
  subst hcomp
  obtain ⟨kC, hkC, -⟩ := hcls.2
  refine W.aast hx hb ha (fun q h => by cases h) (fun h => by cases h) k1 k2 rfl hkC ⟨h0, by show _ < (arrV _ _ _).slots.size; rw [arrV_size]; exact hlt⟩ g1 (fun q h => by rw [g3] at h; cases h) (by rw [g2]; exact hkC) (by rw [g2]; exact va_assign hcls) rfl rfl hd fun H1 e1 z1 oq => ?_
  refine kk H1 _ ?_ z1 oq (hS.put z1 oq hA)
  rw [e1]
  show some ((vp_cell _ _).setSlot _ _) = _
  rw [vp_cell_q, vp_cell_q, arrV_store]
  congr 2
  funext q'
  by_cases hq' : q' = i.toNatClampNeg
  · subst hq'
    simp [updV, va_up, va_rf]
  · simp [updV, va_up, hq']
theorem r_new (C : CX cc nL own ret D ac p m c s args meth S A) (hS : va_S A s.heap H locs) {ci N : Nat} {Cn : String} {T : u_T} (ty0 : Nat → FieldType) (hc : cls[ci]? = some (Cn, T, N)) (hlays : ∀ w ∈ u_ws Cn T N, w ∈ TB) (hty : ∀ k, k < N → parseFieldDescriptor (T k).2.2.1 = some (ty0 k)) (fs : List Value) (hfs : ∀ j, j < N → defaultValue (ty0 j) = vp_V fs j)
    (hl : Cond.classLink own idx Cn ∈ TB ∧ Cond.instantiable Cn N ∈ TB ∧ Cond.initialized Cn ∈ TB) {h : Nat} (hsz : H.size = h) (hcells : cells + 1 ≤ R.cells) (hslots : slots + N ≤ R.slots) (hd : decode cc pc = .ok (.new idx, 3))
    (kk : ∀ (H' : Heap), va_at D cls (h, .inr (ci, fs)) H' → H'.size = h + 1 → (∀ q : Nat, q < h → H'[q]? = H[q]?) → va_S A s.heap H' locs → W p l e R s m args below meth c H' locs (cells + 1) (slots + N) Q (F0 m (pc + 3) ls (.ref h :: rest))) : W p l e R s m args below meth c H locs cells slots Q (F0 m pc ls rest) := by
  obtain ⟨⟨hx, hb, hml, ho, hts⟩, hr, hlk, hK, -, -⟩ := C
  have hKn := hK.1 ci _ hc
  refine W.newcK hx hb ho (hts _ hl.1) (hts _ hl.2.1) (hts _ hl.2.2) rfl hd hcells hslots hKn.2.1 hsz fun H1 kC hkC e1 z1 o1 => ?_
  exact kk H1 ⟨_, hc, (u_born ty0 hts hlays hKn hkC e1 hty).to hfs⟩ z1 o1 ⟨Nat.le_trans hS.1 (by omega), fun x h1 h2 => (o1 x (by have := hS.1; omega)).trans (hS.2.1 x h1 h2), hS.2.2⟩
theorem r_alen (C : CX cc nL own ret D ac p m c s args meth S A) {a N : Nat} {f : Nat → Int32} (ha : H[a]? = some (vp_cell (ac 0) (N, .inl f))) {w : Int32} (hv : Int32.ofNat N = w) (hd : decode cc pc = .ok (.arraylength, 1))
    (kk : W p l e R s m args below meth c H locs cells slots Q (F0 m (pc + 1) ls (.int w :: rest))) : W p l e R s m args below meth c H locs cells slots Q (F0 m pc ls (.ref a :: rest)) := by
  have hW : Wd D (fun _ _ => .inl (ac 0, N, .inl f)) (fun _ k => k = 0) a (fun _ _ => 0) H := fun k hk => by
    subst hk
    exact ha
  exact g_alen C hW (k := 0) 0 rfl rfl rfl hv hd kk
end GT
section
variable {l : Launch} {D : va_G} {ac : Nat → ClassId} {z : Nat} {aK aV : Nat → Nat}
theorem c_check {K : Nat} {S : SP} {Wa : Heap → Prop} {x y : Int32} (hxy : ¬ y < x) : MT l D ac S (fun _ => False) yJ7_checkLength_df160 cJ7_checkLength_df160 2 none K 0 0 [.int x, .int y] Wa none Wa := by
  refine MT.of (fun q hq => hq.elim) (plainFor_of_name (by decide)) (Nat.le_of_ble_eq_true rfl) ?_
  intro p e s m below meth c args C hW ls hl
  replace hl : lv_has ls 2 [(0, .int x), (1, .int y)] := hl
  have hS : va_S (fun _ => False) s.heap s.heap [] := va_S.rf
  have hx := C.1.1
  have hb := C.1.2.1
  refine lv_iload_n (pc := 0) hx hb dJ7_checkLength_df160_0 rfl (lv_at hl 1 rfl) ?_
  refine lv_iload_n (pc := 1) hx hb dJ7_checkLength_df160_1 rfl (lv_at hl 0 rfl) ?_
  refine lv_icmp_ge (pc := 2) (tgt := 37) hx hb dJ7_checkLength_df160_2 (by decide) (fun _ => ?_) (fun hc => absurd (Int32.not_lt.mp hxy) hc)
  exact t_vret (pc := 37) C hW hS dJ7_checkLength_df160_37 rfl (Nat.le_refl _) (Nat.le_refl _)
theorem c_min {K : Nat} {S : SP} {Wa : Heap → Prop} {x y r : Int32} (hr : (if y < x then y else x) = r) : MT l D ac S (fun _ => False) yJ9_min_7cf53 cJ9_min_7cf53 2 (some .int) K 0 0 [.int x, .int y] Wa (some (.int r)) Wa := by
  refine MT.of (fun q hq => hq.elim) (by decide +kernel) (Nat.le_of_ble_eq_true rfl) ?_
  intro p e s m below meth c args C hW ls hl
  replace hl : lv_has ls 2 [(0, .int x), (1, .int y)] := hl
  have hS : va_S (fun _ => False) s.heap s.heap [] := va_S.rf
  have hx := C.1.1
  have hb := C.1.2.1
  refine lv_iload_n (pc := 0) hx hb dJ9_min_7cf53_0 rfl (lv_at hl 0 rfl) ?_
  refine lv_iload_n (pc := 1) hx hb dJ9_min_7cf53_1 rfl (lv_at hl 1 rfl) ?_
  refine lv_icmp_gt (pc := 2) (tgt := 9) hx hb dJ9_min_7cf53_2 (by decide) (fun hc => ?_) (fun hc => ?_)
  · rw [if_pos hc] at hr
    refine lv_iload_n (pc := 9) hx hb dJ9_min_7cf53_9 rfl (lv_at hl 1 rfl) ?_
    exact t_iret (pc := 10) C hW hS rfl dJ9_min_7cf53_10 (by rw [hr]) (Nat.le_refl _) (Nat.le_refl _)
  · rw [if_neg hc] at hr
    refine lv_iload_n (pc := 5) hx hb dJ9_min_7cf53_5 rfl (lv_at hl 0 rfl) ?_
    refine lv_goto (pc := 6) (tgt := 10) hx hb dJ9_min_7cf53_6 (by decide) ?_
    exact t_iret (pc := 10) C hW hS rfl dJ9_min_7cf53_10 (by rw [hr]) (Nat.le_refl _) (Nat.le_refl _)
theorem sub_nn {a b : Int32} (h1 : 0 ≤ a) (h2 : a ≤ b) : 0 ≤ b - a ∧ (b - a).toNatClampNeg = b.toNatClampNeg - a.toNatClampNeg := by
  have e1 := Int32.le_iff_toInt_le.mp h1
  have e2 := Int32.le_iff_toInt_le.mp h2
  have e3 : (b - a).toInt = b.toInt - a.toInt := by
    rw [Int32.toInt_sub]
    have := Int32.le_toInt a
    have := Int32.toInt_lt b
    have h0 : (0 : Int32).toInt = 0 := rfl
    rw [h0] at e1
    rw [Int.bmod_def]
    have := Int32.toInt_lt a
    split <;> omega
  have h0 : (0 : Int32).toInt = 0 := rfl
  rw [h0] at e1
  refine ⟨Int32.le_iff_toInt_le.mpr (by rw [e3, h0]; omega), ?_⟩
  show (b - a).toInt.toNat = b.toInt.toNat - a.toInt.toNat
  rw [e3]
  omega
theorem c_copyInt {K : Nat} (hK : 2 ≤ K) {S : SP} {a h len : Nat} {f : Nat → Int32} {x y : Int32} (hz : S.1 ≤ h) (hah : a < h) (h1 : 0 ≤ x) (h2 : x ≤ y) (h3 : y ≤ 160) (hlen : (y - x).toNatClampNeg = len) : MT l D ac S (fun q => h ≤ q) yJ7_copyOfRangeInt_feecc cJ7_copyOfRangeInt_feecc 5 (some (.array .int)) K 1 160 [.ref a, .int x, .int y] (fun H => H[a]? = some (vp_cell (ac 0) (160, .inl f)) ∧ H.size = h) (some (.ref h))
    (fun H => H[h]? = some (vp_cell (ac 0) (len, .inl (fun i => f (x.toNatClampNeg + i)))) ∧ H.size = h + 1) := by
  refine MT.of (fun q hq => Nat.le_trans hz hq) (plainFor_of_name (by decide)) (Nat.le_of_ble_eq_true rfl) ?_
  intro p e s m below meth c args C hW ls hl
  replace hl : lv_has ls 5 [(0, .ref a), (1, .int x), (2, .int y)] := hl
  have hS : va_S (fun q => h ≤ q) s.heap s.heap [] := va_S.rf
  have hx := C.1.1
  have hb := C.1.2.1
  obtain ⟨d0, d1⟩ := sub_nn h1 h2
  have y160 : y.toNatClampNeg ≤ 160 := by
    have := Int32.le_iff_toInt_le.mp h3
    have e : (160 : Int32).toInt = 160 := rfl
    rw [e] at this
    show y.toInt.toNat ≤ 160
    omega
  have xy : x.toNatClampNeg ≤ y.toNatClampNeg := by
    have := Int32.le_iff_toInt_le.mp h2
    show x.toInt.toNat ≤ y.toInt.toNat
    omega
  have hlen2 : len = y.toNatClampNeg - x.toNatClampNeg := by rw [← hlen]; exact d1
  refine lv_iload_n (pc := 0) hx hb dJ7_copyOfRangeInt_feecc_0 rfl (lv_at hl 1 rfl) ?_
  refine lv_iload_n (pc := 1) hx hb dJ7_copyOfRangeInt_feecc_1 rfl (lv_at hl 2 rfl) ?_
  refine t_stat (Wa := fun H => H[a]? = some (vp_cell (ac 0) (160, .inl f)) ∧ H.size = h) (pc := 2) (st2 := []) (rest := []) C hW hS (c_check (K := K - 1) (Int32.not_lt.mpr h2)) (fun q hq => hq.elim) ms_J7_343 ⟨by show K - 1 + 1 ≤ K; omega, by show 8 + (2 + 11) + 40 * (K - 1) ≤ 40 * K; omega, Nat.le_of_ble_eq_true rfl, Nat.le_of_ble_eq_true rfl⟩ rfl rfl rfl (Nat.le_of_ble_eq_true rfl) hl.1 dJ7_copyOfRangeInt_feecc_2 (fun H locs hW hH hS => ?_)
  refine lv_iload_n (pc := 5) hx hb dJ7_copyOfRangeInt_feecc_5 rfl (lv_at hl 2 rfl) ?_
  refine lv_iload_n (pc := 6) hx hb dJ7_copyOfRangeInt_feecc_6 rfl (lv_at hl 1 rfl) ?_
  refine lv_isub (pc := 7) hx hb dJ7_copyOfRangeInt_feecc_7 ?_
  refine lv_istore_n (pc := 8) (lv' := [(3, .int (y - x)), (0, .ref a), (1, .int x), (2, .int y)]) hx hb dJ7_copyOfRangeInt_feecc_8 rfl hl (by decide) rfl (fun ls hl => ?_)
  refine lv_iload_n (pc := 9) hx hb dJ7_copyOfRangeInt_feecc_9 rfl (lv_at hl 0 rfl) ?_
  refine va_newaK (atype := .int) (g := F0 m 10 ls [.int (y - x)]) hx hb (C.1.2.2.2.2 _ ai_tb) rfl dJ7_copyOfRangeInt_feecc_10 (rest := []) rfl (Int32.not_lt.mpr d0) hlen (by show len * 4 ≤ _; omega) (by show 0 + 0 + 1 ≤ 1; omega) (by show 0 + 0 + len ≤ 160; omega) hW.2 fun H1 cA e1 z1 o1 hAr hNm => ?_
  have hcA : cA = ac 0 := by
    have h2 : s.vm.findClass ("[" ++ FieldType.int.toString) = some (ac 0) := (C.2.2.2.1.2 0 _ rfl).2
    exact Option.some.inj (hNm.symm.trans h2)
  subst hcA
  replace hS : va_S (fun q => h ≤ q) s.heap H1 locs := ⟨Nat.le_trans hS.1 (by have := hW.2; omega), fun q g1 g2 => (o1 q (by have := hS.1; have := hW.2; omega)).trans (hS.2.1 q g1 g2), hS.2.2⟩
  have ha1 : H1[a]? = some (vp_cell (ac 0) (160, .inl f)) := (o1 a hah).trans hW.1
  have hh1 : H1[h]? = some (vp_cell (ac 0) (len, .inl (fun _ => 0))) := e1
  refine lv_astore (pc := 12) (lv' := [(4, .ref h), (3, .int (y - x)), (0, .ref a), (1, .int x), (2, .int y)]) hx hb dJ7_copyOfRangeInt_feecc_12 hl (by decide) rfl (fun ls hl => ?_)
  refine lv_aload_n (pc := 14) hx hb dJ7_copyOfRangeInt_feecc_14 rfl (lv_at hl 2 rfl) ?_
  refine lv_iload_n (pc := 15) hx hb dJ7_copyOfRangeInt_feecc_15 rfl (lv_at hl 3 rfl) ?_
  refine lv_aload (pc := 16) hx hb dJ7_copyOfRangeInt_feecc_16 (lv_at hl 0 rfl) ?_
  refine lv_iconst (pc := 18) (v := 0) hx hb dJ7_copyOfRangeInt_feecc_18 (by decide) ?_
  refine lv_aload_n (pc := 19) hx hb dJ7_copyOfRangeInt_feecc_19 rfl (lv_at hl 2 rfl) ?_
  refine r_alen (pc := 20) (w := 160) C ha1 rfl dJ7_copyOfRangeInt_feecc_20 ?_
  refine lv_iload_n (pc := 21) hx hb dJ7_copyOfRangeInt_feecc_21 rfl (lv_at hl 3 rfl) ?_
  refine lv_isub (pc := 22) hx hb dJ7_copyOfRangeInt_feecc_22 ?_
  refine lv_iload_n (pc := 23) hx hb dJ7_copyOfRangeInt_feecc_23 rfl (lv_at hl 1 rfl) ?_
  have hmin : (if y - x < 160 - x then y - x else 160 - x) = y - x := by
    have hle : x ≤ 160 := Int32.le_trans h2 h3
    obtain ⟨p0, p1⟩ := sub_nn h1 hle
    by_cases hlt : y - x < 160 - x
    · rw [if_pos hlt]
    · rw [if_neg hlt]
      have q1 : 160 - x ≤ y - x := Int32.not_lt.mp hlt
      refine Int32.le_antisymm q1 ?_
      refine Int32.le_iff_toInt_le.mpr ?_
      have r1 := nn_int d0
      have r2 := nn_int p0
      rw [r1, r2, d1, p1]
      have : (160 : Int32).toNatClampNeg = 160 := rfl
      omega
  refine t_stat (Wa := fun H => H = H1) (pc := 24) (st2 := [.int (y - x), .int 0, .ref h, .int x, .ref a]) (rest := [.int 0, .ref h, .int x, .ref a]) C rfl hS (c_min (K := K - 1) hmin) (fun q hq => hq.elim) ms_J7_304 ⟨by show K - 1 + 1 ≤ K; omega, by show 8 + (2 + 11) + 40 * (K - 1) ≤ 40 * K; omega, Nat.le_of_ble_eq_true rfl, by show 0 + 0 + len + 0 ≤ 160; omega⟩ rfl rfl rfl (Nat.le_of_ble_eq_true rfl) hl.1 dJ7_copyOfRangeInt_feecc_24 (fun H locs hE hH hS9 => ?_)
  subst hE
  refine r_copy (R := rma K 1 160) (pc := 27) (rest := []) C hS9 ha1 hh1 (Nat.le_refl h) h1 (Int32.le_refl 0) d0 (by rw [d1]; omega) (by have : (0 : Int32).toNatClampNeg = 0 := rfl; rw [hlen]; omega) hl.1 ⟨by show 1 ≤ K; omega, by have h := (hRoomC (K := K) (rest := []) (by omega)).2; exact h⟩ ml_J7_150 dJ7_copyOfRangeInt_feecc_27 (fun H' locs' hh2 zz oq hS => ?_)
  refine lv_aload (pc := 30) hx hb dJ7_copyOfRangeInt_feecc_30 (lv_at hl 0 rfl) ?_
  refine t_aret (pc := 32) C (Or.inr ⟨.int, rfl⟩) ⟨?_, zz.trans z1⟩ hS dJ7_copyOfRangeInt_feecc_32 rfl (Nat.le_of_ble_eq_true rfl) (by omega)
  refine at_ints (D := D) (cA := ac 0) (N := len) (f := va_cpy f (fun _ => 0) x.toNatClampNeg (0 : Int32).toNatClampNeg (y - x).toNatClampNeg) ?_ h H' hh2
  intro i hi
  have h0 : (0 : Int32).toNatClampNeg = 0 := rfl
  unfold va_cpy
  rw [h0, if_pos ⟨Nat.zero_le _, by omega⟩]
  simp
theorem c_copyRange {K : Nat} (hK : 3 ≤ K) {S : SP} {a h len : Nat} {f : Nat → Int32} {x y : Int32} (hz : S.1 ≤ h) (hah : a < h) (h1 : 0 ≤ x) (h2 : x ≤ y) (h3 : y ≤ 160) (h4 : ¬ (x = 0 ∧ y = 160)) (hlen : (y - x).toNatClampNeg = len) : MT l D ac S (fun q => h ≤ q) yJ7_copyOfRange_feecc cJ7_copyOfRange_feecc 3 (some (.array .int)) K 1 160 [.ref a, .int x, .int y] (fun H => H[a]? = some (vp_cell (ac 0) (160, .inl f)) ∧ H.size = h) (some (.ref h))
    (fun H => H[h]? = some (vp_cell (ac 0) (len, .inl (fun i => f (x.toNatClampNeg + i)))) ∧ H.size = h + 1) := by
  refine MT.of (fun q hq => Nat.le_trans hz hq) (plainFor_of_name (by decide)) (Nat.le_of_ble_eq_true rfl) ?_
  intro p e s m below meth c args C hW ls hl
  replace hl : lv_has ls 3 [(0, .ref a), (1, .int x), (2, .int y)] := hl
  have hS : va_S (fun q => h ≤ q) s.heap s.heap [] := va_S.rf
  have hx := C.1.1
  have hb := C.1.2.1
  have fin : W p l e (rma K 1 160) s m args below meth c s.heap [] 0 0 (MQ below (QT (some (.ref h)) (fun H => H[h]? = some (vp_cell (ac 0) (len, .inl (fun i => f (x.toNatClampNeg + i)))) ∧ H.size = h + 1) (fun q => h ≤ q)) args s 1 160 (fun q => h ≤ q)) (F0 m 10 ls []) := by
    refine lv_aload_n (pc := 10) hx hb dJ7_copyOfRange_feecc_10 rfl (lv_at hl 0 rfl) ?_
    refine lv_iload_n (pc := 11) hx hb dJ7_copyOfRange_feecc_11 rfl (lv_at hl 1 rfl) ?_
    refine lv_iload_n (pc := 12) hx hb dJ7_copyOfRange_feecc_12 rfl (lv_at hl 2 rfl) ?_
    refine t_stat (Wa := fun H => H[a]? = some (vp_cell (ac 0) (160, .inl f)) ∧ H.size = h) (pc := 13) (st2 := [.ref h]) (rest := []) C hW hS (c_copyInt (K := K - 1) (by omega) hz hah h1 h2 h3 hlen) (fun q hq => hq) ms_J7_351 ⟨by show K - 1 + 1 ≤ K; omega, by show 8 + (5 + 11) + 40 * (K - 1) ≤ 40 * K; omega, Nat.le_of_ble_eq_true rfl, Nat.le_of_ble_eq_true rfl⟩ rfl rfl rfl (Nat.le_of_ble_eq_true rfl) hl.1 dJ7_copyOfRange_feecc_13 (fun H locs hW hH hS => ?_)
    exact t_aret (pc := 16) C (Or.inr ⟨.int, rfl⟩) hW hS dJ7_copyOfRange_feecc_16 rfl (Nat.le_of_ble_eq_true rfl) (Nat.le_of_ble_eq_true rfl)
  refine lv_iload_n (pc := 0) hx hb dJ7_copyOfRange_feecc_0 rfl (lv_at hl 1 rfl) ?_
  refine lv_if_ne (pc := 1) (tgt := 10) hx hb dJ7_copyOfRange_feecc_1 (by decide) (fun _ => fin) (fun hc => ?_)
  refine lv_iload_n (pc := 4) hx hb dJ7_copyOfRange_feecc_4 rfl (lv_at hl 2 rfl) ?_
  refine lv_aload_n (pc := 5) hx hb dJ7_copyOfRange_feecc_5 rfl (lv_at hl 0 rfl) ?_
  refine r_alen (pc := 6) (w := 160) C hW.1 rfl dJ7_copyOfRange_feecc_6 ?_
  exact lv_icmp_eq (pc := 7) (tgt := 17) hx hb dJ7_copyOfRange_feecc_7 (by decide) (fun hy => absurd ⟨hc, hy⟩ h4) (fun _ => fin)
theorem c_codeOf_0 {K : Nat} (hK : 4 ≤ K) {σ : Mem} {h : Nat} (hz : z + 14 < h) (hc : codeOK σ 0) (hin : ∀ k, inC σ k → z + k < h) : MT l D ac (z, aK, aV) (fun q => h ≤ q) yX2_codeOf cX2_codeOf 5 (some (.array .int)) K 1 160 [.ref (z + 9), .int 0] (fun H => WC D ac z σ H ∧ H.size = h) (some (.ref h))
    (fun H => H[h]? = some (vp_cell (ac 0) (codeN σ 0, .inl (fun i => σ 13 ((codeF σ 0).toNatClampNeg + i)))) ∧ H.size = h + 1) := by
  refine MT.of (fun q hq => by show z ≤ q; omega) (plainFor_of_name (by decide)) (Nat.le_of_ble_eq_true rfl) ?_
  intro p e s m below meth c args C hW ls hl
  replace hl : lv_has ls 5 [(0, .ref (z + 9)), (1, .int 0)] := hl
  have hS : va_S (fun q => h ≤ q) s.heap s.heap [] := va_S.rf
  have hx := C.1.1
  have hb := C.1.2.1
  have C' := C.to (B := Ac z) (fun q hq => hq.1)
  obtain ⟨c1, c2, c3, c4⟩ := hc
  change 0 ≤ 0 at c1
  change 0 ≤ _ at c2
  change ¬ (0 = 0 ∧ _) at c4
  have c13 : s.heap[z + 13]? = some (vp_cell (ac 0) (160, .inl (σ 13))) := by
    have := hW.1 13 (kin_3 kdc_13)
    rw [Ek_3 kdc_13, alc_13] at this
    exact this
  refine lv_iload_n (pc := 0) hx hb dX2_codeOf_0 rfl (lv_at hl 1 rfl) ?_
  refine lv_if_lt (pc := 1) (tgt := 13) hx hb dX2_codeOf_1 (by decide) (fun hc => absurd hc (by decide)) (fun _ => ?_)
  refine lv_iload_n (pc := 4) hx hb dX2_codeOf_4 rfl (lv_at hl 1 rfl) ?_
  refine lv_aload_n (pc := 5) hx hb dX2_codeOf_5 rfl (lv_at hl 0 rfl) ?_
  refine gf_X2_8 (pc := 6) C' hW.1 kdc_9 fl_X2_24 dX2_codeOf_6 ?_
  refine g_alen (pc := 9) C' hW.1 (k := 14) 0 (kin_3 kdc_14) (Ek_3 kdc_14) rfl (v := 3) rfl dX2_codeOf_9 ?_
  refine lv_icmp_lt (pc := 10) (tgt := 17) hx hb dX2_codeOf_10 (by decide) (fun _ => ?_) (fun hc => absurd (by decide) hc)
  refine lv_iload_n (pc := 17) hx hb dX2_codeOf_17 rfl (lv_at hl 1 rfl) ?_
  refine lv_if_ne (pc := 18) (tgt := 25) hx hb dX2_codeOf_18 (by decide) (fun hc => absurd rfl hc) (fun _ => ?_)
  refine lv_iconst (pc := 21) (v := 0) hx hb dX2_codeOf_21 (by decide) ?_
  refine lv_goto (pc := 22) (tgt := 33) hx hb dX2_codeOf_22 (by decide) ?_
  refine lv_istore_n (pc := 33) (lv' := [(2, .int 0), (0, .ref (z + 9)), (1, .int 0)]) hx hb dX2_codeOf_33 rfl hl (by decide) rfl (fun ls hl => ?_)
  refine lv_aload_n (pc := 34) hx hb dX2_codeOf_34 rfl (lv_at hl 1 rfl) ?_
  refine gf_X2_8 (pc := 35) C' hW.1 kdc_9 fl_X2_24 dX2_codeOf_35 ?_
  refine lv_iload_n (pc := 38) hx hb dX2_codeOf_38 rfl (lv_at hl 2 rfl) ?_
  refine g_iald (pc := 39) C' hW.1 (k := 14) (i := 0) (kin_3 kdc_14) (Ek_3 kdc_14) (inb_in (by decide)) dX2_codeOf_39 ?_
  refine lv_istore_n (pc := 40) (lv' := [(3, .int (σ 14 0)), (2, .int 0), (0, .ref (z + 9)), (1, .int 0)]) hx hb dX2_codeOf_40 rfl hl (by decide) rfl (fun ls hl => ?_)
  refine lv_iload_n (pc := 41) hx hb dX2_codeOf_41 rfl (lv_at hl 1 rfl) ?_
  refine lv_if_lt (pc := 42) (tgt := 63) hx hb dX2_codeOf_42 (by decide) (fun hc => absurd hc (Int32.not_lt.mpr c1)) (fun _ => ?_)
  refine lv_iload_n (pc := 45) hx hb dX2_codeOf_45 rfl (lv_at hl 1 rfl) ?_
  refine lv_iload_n (pc := 46) hx hb dX2_codeOf_46 rfl (lv_at hl 0 rfl) ?_
  refine lv_icmp_gt (pc := 47) (tgt := 63) hx hb dX2_codeOf_47 (by decide) (fun hc => absurd hc (Int32.not_lt.mpr c2)) (fun _ => ?_)
  refine lv_iload_n (pc := 50) hx hb dX2_codeOf_50 rfl (lv_at hl 0 rfl) ?_
  refine lv_aload_n (pc := 51) hx hb dX2_codeOf_51 rfl (lv_at hl 2 rfl) ?_
  refine gf_X2_6 (pc := 52) C' hW.1 kdc_9 fl_X2_21 dX2_codeOf_52 ?_
  refine g_alen (pc := 55) C' hW.1 (k := 13) 0 (kin_3 kdc_13) (Ek_3 kdc_13) rfl (v := 160) rfl dX2_codeOf_55 ?_
  refine lv_icmp_gt (pc := 56) (tgt := 63) hx hb dX2_codeOf_56 (by decide) (fun hc => absurd hc (Int32.not_lt.mpr c3)) (fun _ => ?_)
  refine lv_iconst (pc := 59) (v := 1) hx hb dX2_codeOf_59 (by decide) ?_
  refine lv_goto (pc := 60) (tgt := 64) hx hb dX2_codeOf_60 (by decide) ?_
  refine lv_istore (pc := 64) (lv' := [(4, .int 1), (3, .int (σ 14 0)), (2, .int 0), (0, .ref (z + 9)), (1, .int 0)]) hx hb dX2_codeOf_64 hl (by decide) rfl (fun ls hl => ?_)
  refine lv_iload (pc := 66) hx hb dX2_codeOf_66 (lv_at hl 0 rfl) ?_
  refine lv_if_eq (pc := 68) (tgt := 83) hx hb dX2_codeOf_68 (by decide) (fun hc => absurd hc (by decide)) (fun _ => ?_)
  refine lv_aload_n (pc := 71) hx hb dX2_codeOf_71 rfl (lv_at hl 3 rfl) ?_
  refine gf_X2_6 (pc := 72) C' hW.1 kdc_9 fl_X2_21 dX2_codeOf_72 ?_
  refine lv_iload_n (pc := 75) hx hb dX2_codeOf_75 rfl (lv_at hl 2 rfl) ?_
  refine lv_iload_n (pc := 76) hx hb dX2_codeOf_76 rfl (lv_at hl 1 rfl) ?_
  refine t_stat (Wa := fun H => H[z + 13]? = some (vp_cell (ac 0) (160, .inl (σ 13))) ∧ H.size = h) (pc := 77) (st2 := [.ref h]) (rest := []) C ⟨c13, hW.2⟩ hS (c_copyRange (K := K - 1) (by omega) (by show z ≤ h; omega) (by omega) c1 c2 c3 c4 rfl) (fun q hq => hq) ms_J7_31 ⟨by show K - 1 + 1 ≤ K; omega, by show 8 + (3 + 11) + 40 * (K - 1) ≤ 40 * K; omega, Nat.le_of_ble_eq_true rfl, Nat.le_of_ble_eq_true rfl⟩ rfl rfl rfl (Nat.le_of_ble_eq_true rfl) hl.1 dX2_codeOf_77 (fun H locs hW hH hS => ?_)
  refine lv_goto (pc := 80) (tgt := 86) hx hb dX2_codeOf_80 (by decide) ?_
  exact t_aret (pc := 86) C (Or.inr ⟨.int, rfl⟩) hW hS dX2_codeOf_86 rfl (Nat.le_of_ble_eq_true rfl) (Nat.le_of_ble_eq_true rfl)
theorem c_codeOf_1 {K : Nat} (hK : 4 ≤ K) {σ : Mem} {h : Nat} (hz : z + 14 < h) (hc : codeOK σ 1) (hin : ∀ k, inC σ k → z + k < h) : MT l D ac (z, aK, aV) (fun q => h ≤ q) yX2_codeOf cX2_codeOf 5 (some (.array .int)) K 1 160 [.ref (z + 9), .int 1] (fun H => WC D ac z σ H ∧ H.size = h) (some (.ref h))
    (fun H => H[h]? = some (vp_cell (ac 0) (codeN σ 1, .inl (fun i => σ 13 ((codeF σ 1).toNatClampNeg + i)))) ∧ H.size = h + 1) := by
  refine MT.of (fun q hq => by show z ≤ q; omega) (plainFor_of_name (by decide)) (Nat.le_of_ble_eq_true rfl) ?_
  intro p e s m below meth c args C hW ls hl
  replace hl : lv_has ls 5 [(0, .ref (z + 9)), (1, .int 1)] := hl
  have hS : va_S (fun q => h ≤ q) s.heap s.heap [] := va_S.rf
  have hx := C.1.1
  have hb := C.1.2.1
  have C' := C.to (B := Ac z) (fun q hq => hq.1)
  obtain ⟨c1, c2, c3, c4⟩ := hc
  change 0 ≤ (σ 14 0) at c1
  change (σ 14 0) ≤ _ at c2
  change ¬ ((σ 14 0) = 0 ∧ _) at c4
  have c13 : s.heap[z + 13]? = some (vp_cell (ac 0) (160, .inl (σ 13))) := by
    have := hW.1 13 (kin_3 kdc_13)
    rw [Ek_3 kdc_13, alc_13] at this
    exact this
  refine lv_iload_n (pc := 0) hx hb dX2_codeOf_0 rfl (lv_at hl 1 rfl) ?_
  refine lv_if_lt (pc := 1) (tgt := 13) hx hb dX2_codeOf_1 (by decide) (fun hc => absurd hc (by decide)) (fun _ => ?_)
  refine lv_iload_n (pc := 4) hx hb dX2_codeOf_4 rfl (lv_at hl 1 rfl) ?_
  refine lv_aload_n (pc := 5) hx hb dX2_codeOf_5 rfl (lv_at hl 0 rfl) ?_
  refine gf_X2_8 (pc := 6) C' hW.1 kdc_9 fl_X2_24 dX2_codeOf_6 ?_
  refine g_alen (pc := 9) C' hW.1 (k := 14) 0 (kin_3 kdc_14) (Ek_3 kdc_14) rfl (v := 3) rfl dX2_codeOf_9 ?_
  refine lv_icmp_lt (pc := 10) (tgt := 17) hx hb dX2_codeOf_10 (by decide) (fun _ => ?_) (fun hc => absurd (by decide) hc)
  refine lv_iload_n (pc := 17) hx hb dX2_codeOf_17 rfl (lv_at hl 1 rfl) ?_
  refine lv_if_ne (pc := 18) (tgt := 25) hx hb dX2_codeOf_18 (by decide) (fun _ => ?_) (fun hc => absurd hc (by decide))
  refine lv_aload_n (pc := 25) hx hb dX2_codeOf_25 rfl (lv_at hl 0 rfl) ?_
  refine gf_X2_8 (pc := 26) C' hW.1 kdc_9 fl_X2_24 dX2_codeOf_26 ?_
  refine lv_iload_n (pc := 29) hx hb dX2_codeOf_29 rfl (lv_at hl 1 rfl) ?_
  refine lv_iconst (pc := 30) (v := 1) hx hb dX2_codeOf_30 (by decide) ?_
  refine lv_isub (pc := 31) hx hb dX2_codeOf_31 ?_
  refine g_iald (pc := 32) C' hW.1 (k := 14) (i := 1 - 1) (kin_3 kdc_14) (Ek_3 kdc_14) (inb_in (by decide)) dX2_codeOf_32 ?_
  refine lv_istore_n (pc := 33) (lv' := [(2, .int (σ 14 0)), (0, .ref (z + 9)), (1, .int 1)]) hx hb dX2_codeOf_33 rfl hl (by decide) rfl (fun ls hl => ?_)
  refine lv_aload_n (pc := 34) hx hb dX2_codeOf_34 rfl (lv_at hl 1 rfl) ?_
  refine gf_X2_8 (pc := 35) C' hW.1 kdc_9 fl_X2_24 dX2_codeOf_35 ?_
  refine lv_iload_n (pc := 38) hx hb dX2_codeOf_38 rfl (lv_at hl 2 rfl) ?_
  refine g_iald (pc := 39) C' hW.1 (k := 14) (i := 1) (kin_3 kdc_14) (Ek_3 kdc_14) (inb_in (by decide)) dX2_codeOf_39 ?_
  refine lv_istore_n (pc := 40) (lv' := [(3, .int (σ 14 1)), (2, .int (σ 14 0)), (0, .ref (z + 9)), (1, .int 1)]) hx hb dX2_codeOf_40 rfl hl (by decide) rfl (fun ls hl => ?_)
  refine lv_iload_n (pc := 41) hx hb dX2_codeOf_41 rfl (lv_at hl 1 rfl) ?_
  refine lv_if_lt (pc := 42) (tgt := 63) hx hb dX2_codeOf_42 (by decide) (fun hc => absurd hc (Int32.not_lt.mpr c1)) (fun _ => ?_)
  refine lv_iload_n (pc := 45) hx hb dX2_codeOf_45 rfl (lv_at hl 1 rfl) ?_
  refine lv_iload_n (pc := 46) hx hb dX2_codeOf_46 rfl (lv_at hl 0 rfl) ?_
  refine lv_icmp_gt (pc := 47) (tgt := 63) hx hb dX2_codeOf_47 (by decide) (fun hc => absurd hc (Int32.not_lt.mpr c2)) (fun _ => ?_)
  refine lv_iload_n (pc := 50) hx hb dX2_codeOf_50 rfl (lv_at hl 0 rfl) ?_
  refine lv_aload_n (pc := 51) hx hb dX2_codeOf_51 rfl (lv_at hl 2 rfl) ?_
  refine gf_X2_6 (pc := 52) C' hW.1 kdc_9 fl_X2_21 dX2_codeOf_52 ?_
  refine g_alen (pc := 55) C' hW.1 (k := 13) 0 (kin_3 kdc_13) (Ek_3 kdc_13) rfl (v := 160) rfl dX2_codeOf_55 ?_
  refine lv_icmp_gt (pc := 56) (tgt := 63) hx hb dX2_codeOf_56 (by decide) (fun hc => absurd hc (Int32.not_lt.mpr c3)) (fun _ => ?_)
  refine lv_iconst (pc := 59) (v := 1) hx hb dX2_codeOf_59 (by decide) ?_
  refine lv_goto (pc := 60) (tgt := 64) hx hb dX2_codeOf_60 (by decide) ?_
  refine lv_istore (pc := 64) (lv' := [(4, .int 1), (3, .int (σ 14 1)), (2, .int (σ 14 0)), (0, .ref (z + 9)), (1, .int 1)]) hx hb dX2_codeOf_64 hl (by decide) rfl (fun ls hl => ?_)
  refine lv_iload (pc := 66) hx hb dX2_codeOf_66 (lv_at hl 0 rfl) ?_
  refine lv_if_eq (pc := 68) (tgt := 83) hx hb dX2_codeOf_68 (by decide) (fun hc => absurd hc (by decide)) (fun _ => ?_)
  refine lv_aload_n (pc := 71) hx hb dX2_codeOf_71 rfl (lv_at hl 3 rfl) ?_
  refine gf_X2_6 (pc := 72) C' hW.1 kdc_9 fl_X2_21 dX2_codeOf_72 ?_
  refine lv_iload_n (pc := 75) hx hb dX2_codeOf_75 rfl (lv_at hl 2 rfl) ?_
  refine lv_iload_n (pc := 76) hx hb dX2_codeOf_76 rfl (lv_at hl 1 rfl) ?_
  refine t_stat (Wa := fun H => H[z + 13]? = some (vp_cell (ac 0) (160, .inl (σ 13))) ∧ H.size = h) (pc := 77) (st2 := [.ref h]) (rest := []) C ⟨c13, hW.2⟩ hS (c_copyRange (K := K - 1) (by omega) (by show z ≤ h; omega) (by omega) c1 c2 c3 c4 rfl) (fun q hq => hq) ms_J7_31 ⟨by show K - 1 + 1 ≤ K; omega, by show 8 + (3 + 11) + 40 * (K - 1) ≤ 40 * K; omega, Nat.le_of_ble_eq_true rfl, Nat.le_of_ble_eq_true rfl⟩ rfl rfl rfl (Nat.le_of_ble_eq_true rfl) hl.1 dX2_codeOf_77 (fun H locs hW hH hS => ?_)
  refine lv_goto (pc := 80) (tgt := 86) hx hb dX2_codeOf_80 (by decide) ?_
  exact t_aret (pc := 86) C (Or.inr ⟨.int, rfl⟩) hW hS dX2_codeOf_86 rfl (Nat.le_of_ble_eq_true rfl) (Nat.le_of_ble_eq_true rfl)
theorem c_codeOf_2 {K : Nat} (hK : 4 ≤ K) {σ : Mem} {h : Nat} (hz : z + 14 < h) (hc : codeOK σ 2) (hin : ∀ k, inC σ k → z + k < h) : MT l D ac (z, aK, aV) (fun q => h ≤ q) yX2_codeOf cX2_codeOf 5 (some (.array .int)) K 1 160 [.ref (z + 9), .int 2] (fun H => WC D ac z σ H ∧ H.size = h) (some (.ref h))
    (fun H => H[h]? = some (vp_cell (ac 0) (codeN σ 2, .inl (fun i => σ 13 ((codeF σ 2).toNatClampNeg + i)))) ∧ H.size = h + 1) := by
  refine MT.of (fun q hq => by show z ≤ q; omega) (plainFor_of_name (by decide)) (Nat.le_of_ble_eq_true rfl) ?_
  intro p e s m below meth c args C hW ls hl
  replace hl : lv_has ls 5 [(0, .ref (z + 9)), (1, .int 2)] := hl
  have hS : va_S (fun q => h ≤ q) s.heap s.heap [] := va_S.rf
  have hx := C.1.1
  have hb := C.1.2.1
  have C' := C.to (B := Ac z) (fun q hq => hq.1)
  obtain ⟨c1, c2, c3, c4⟩ := hc
  change 0 ≤ (σ 14 1) at c1
  change (σ 14 1) ≤ _ at c2
  change ¬ ((σ 14 1) = 0 ∧ _) at c4
  have c13 : s.heap[z + 13]? = some (vp_cell (ac 0) (160, .inl (σ 13))) := by
    have := hW.1 13 (kin_3 kdc_13)
    rw [Ek_3 kdc_13, alc_13] at this
    exact this
  refine lv_iload_n (pc := 0) hx hb dX2_codeOf_0 rfl (lv_at hl 1 rfl) ?_
  refine lv_if_lt (pc := 1) (tgt := 13) hx hb dX2_codeOf_1 (by decide) (fun hc => absurd hc (by decide)) (fun _ => ?_)
  refine lv_iload_n (pc := 4) hx hb dX2_codeOf_4 rfl (lv_at hl 1 rfl) ?_
  refine lv_aload_n (pc := 5) hx hb dX2_codeOf_5 rfl (lv_at hl 0 rfl) ?_
  refine gf_X2_8 (pc := 6) C' hW.1 kdc_9 fl_X2_24 dX2_codeOf_6 ?_
  refine g_alen (pc := 9) C' hW.1 (k := 14) 0 (kin_3 kdc_14) (Ek_3 kdc_14) rfl (v := 3) rfl dX2_codeOf_9 ?_
  refine lv_icmp_lt (pc := 10) (tgt := 17) hx hb dX2_codeOf_10 (by decide) (fun _ => ?_) (fun hc => absurd (by decide) hc)
  refine lv_iload_n (pc := 17) hx hb dX2_codeOf_17 rfl (lv_at hl 1 rfl) ?_
  refine lv_if_ne (pc := 18) (tgt := 25) hx hb dX2_codeOf_18 (by decide) (fun _ => ?_) (fun hc => absurd hc (by decide))
  refine lv_aload_n (pc := 25) hx hb dX2_codeOf_25 rfl (lv_at hl 0 rfl) ?_
  refine gf_X2_8 (pc := 26) C' hW.1 kdc_9 fl_X2_24 dX2_codeOf_26 ?_
  refine lv_iload_n (pc := 29) hx hb dX2_codeOf_29 rfl (lv_at hl 1 rfl) ?_
  refine lv_iconst (pc := 30) (v := 1) hx hb dX2_codeOf_30 (by decide) ?_
  refine lv_isub (pc := 31) hx hb dX2_codeOf_31 ?_
  refine g_iald (pc := 32) C' hW.1 (k := 14) (i := 2 - 1) (kin_3 kdc_14) (Ek_3 kdc_14) (inb_in (by decide)) dX2_codeOf_32 ?_
  refine lv_istore_n (pc := 33) (lv' := [(2, .int (σ 14 1)), (0, .ref (z + 9)), (1, .int 2)]) hx hb dX2_codeOf_33 rfl hl (by decide) rfl (fun ls hl => ?_)
  refine lv_aload_n (pc := 34) hx hb dX2_codeOf_34 rfl (lv_at hl 1 rfl) ?_
  refine gf_X2_8 (pc := 35) C' hW.1 kdc_9 fl_X2_24 dX2_codeOf_35 ?_
  refine lv_iload_n (pc := 38) hx hb dX2_codeOf_38 rfl (lv_at hl 2 rfl) ?_
  refine g_iald (pc := 39) C' hW.1 (k := 14) (i := 2) (kin_3 kdc_14) (Ek_3 kdc_14) (inb_in (by decide)) dX2_codeOf_39 ?_
  refine lv_istore_n (pc := 40) (lv' := [(3, .int (σ 14 2)), (2, .int (σ 14 1)), (0, .ref (z + 9)), (1, .int 2)]) hx hb dX2_codeOf_40 rfl hl (by decide) rfl (fun ls hl => ?_)
  refine lv_iload_n (pc := 41) hx hb dX2_codeOf_41 rfl (lv_at hl 1 rfl) ?_
  refine lv_if_lt (pc := 42) (tgt := 63) hx hb dX2_codeOf_42 (by decide) (fun hc => absurd hc (Int32.not_lt.mpr c1)) (fun _ => ?_)
  refine lv_iload_n (pc := 45) hx hb dX2_codeOf_45 rfl (lv_at hl 1 rfl) ?_
  refine lv_iload_n (pc := 46) hx hb dX2_codeOf_46 rfl (lv_at hl 0 rfl) ?_
  refine lv_icmp_gt (pc := 47) (tgt := 63) hx hb dX2_codeOf_47 (by decide) (fun hc => absurd hc (Int32.not_lt.mpr c2)) (fun _ => ?_)
  refine lv_iload_n (pc := 50) hx hb dX2_codeOf_50 rfl (lv_at hl 0 rfl) ?_
  refine lv_aload_n (pc := 51) hx hb dX2_codeOf_51 rfl (lv_at hl 2 rfl) ?_
  refine gf_X2_6 (pc := 52) C' hW.1 kdc_9 fl_X2_21 dX2_codeOf_52 ?_
  refine g_alen (pc := 55) C' hW.1 (k := 13) 0 (kin_3 kdc_13) (Ek_3 kdc_13) rfl (v := 160) rfl dX2_codeOf_55 ?_
  refine lv_icmp_gt (pc := 56) (tgt := 63) hx hb dX2_codeOf_56 (by decide) (fun hc => absurd hc (Int32.not_lt.mpr c3)) (fun _ => ?_)
  refine lv_iconst (pc := 59) (v := 1) hx hb dX2_codeOf_59 (by decide) ?_
  refine lv_goto (pc := 60) (tgt := 64) hx hb dX2_codeOf_60 (by decide) ?_
  refine lv_istore (pc := 64) (lv' := [(4, .int 1), (3, .int (σ 14 2)), (2, .int (σ 14 1)), (0, .ref (z + 9)), (1, .int 2)]) hx hb dX2_codeOf_64 hl (by decide) rfl (fun ls hl => ?_)
  refine lv_iload (pc := 66) hx hb dX2_codeOf_66 (lv_at hl 0 rfl) ?_
  refine lv_if_eq (pc := 68) (tgt := 83) hx hb dX2_codeOf_68 (by decide) (fun hc => absurd hc (by decide)) (fun _ => ?_)
  refine lv_aload_n (pc := 71) hx hb dX2_codeOf_71 rfl (lv_at hl 3 rfl) ?_
  refine gf_X2_6 (pc := 72) C' hW.1 kdc_9 fl_X2_21 dX2_codeOf_72 ?_
  refine lv_iload_n (pc := 75) hx hb dX2_codeOf_75 rfl (lv_at hl 2 rfl) ?_
  refine lv_iload_n (pc := 76) hx hb dX2_codeOf_76 rfl (lv_at hl 1 rfl) ?_
  refine t_stat (Wa := fun H => H[z + 13]? = some (vp_cell (ac 0) (160, .inl (σ 13))) ∧ H.size = h) (pc := 77) (st2 := [.ref h]) (rest := []) C ⟨c13, hW.2⟩ hS (c_copyRange (K := K - 1) (by omega) (by show z ≤ h; omega) (by omega) c1 c2 c3 c4 rfl) (fun q hq => hq) ms_J7_31 ⟨by show K - 1 + 1 ≤ K; omega, by show 8 + (3 + 11) + 40 * (K - 1) ≤ 40 * K; omega, Nat.le_of_ble_eq_true rfl, Nat.le_of_ble_eq_true rfl⟩ rfl rfl rfl (Nat.le_of_ble_eq_true rfl) hl.1 dX2_codeOf_77 (fun H locs hW hH hS => ?_)
  refine lv_goto (pc := 80) (tgt := 86) hx hb dX2_codeOf_80 (by decide) ?_
  exact t_aret (pc := 86) C (Or.inr ⟨.int, rfl⟩) hW hS dX2_codeOf_86 rfl (Nat.le_of_ble_eq_true rfl) (Nat.le_of_ble_eq_true rfl)
theorem tmem_old {σ : Mem} {k : Nat} (h1 : k ≠ 1) (h2 : k < 98 + 4 * txn σ + 1) : tmem σ k = σ k := by
  funext j
  unfold tmem
  rw [if_neg h1, if_neg (by omega), if_neg (by omega), if_neg (by omega)]
theorem txn_of {σ : Mem} (h0 : 0 ≤ σ 1 1) : (σ 1 1).toInt = (txn σ : Int) := nn_int h0
theorem txn_tmem {σ : Mem} (h0 : 0 ≤ σ 1 1) (h6 : σ 1 1 < 6) : txn (tmem σ) = txn σ + 1 := by
  have e : tmem σ 1 1 = σ 1 1 + 1 := by unfold tmem; rw [if_pos rfl, if_pos rfl]
  have e1 := Int32.lt_iff_toInt_lt.mp h6
  have e2 := Int32.le_iff_toInt_le.mp h0
  have k6 : (6 : Int32).toInt = 6 := rfl
  have k0 : (0 : Int32).toInt = 0 := rfl
  rw [k6] at e1
  rw [k0] at e2
  have k1 : (1 : Int32).toInt = 1 := rfl
  show (tmem σ 1 1).toInt.toNat = (σ 1 1).toInt.toNat + 1
  rw [e, Int32.toInt_add, k1, Int.bmod_def]
  split <;> omega
theorem txn_lt {σ : Mem} (h0 : 0 ≤ σ 1 1) (h6 : σ 1 1 < 6) : txn σ < 6 := by
  have e1 := Int32.lt_iff_toInt_lt.mp h6
  have k6 : (6 : Int32).toInt = 6 := rfl
  rw [k6, txn_of h0] at e1
  omega
theorem kd1 {k : Nat} (h : kd k = 1) : k = 1 := by
  have h1 : ∀ k, k < 80 → kd k = 1 → k = 1 := by decide +kernel
  exact h1 k (klt_1 h) h
theorem kd2 {k : Nat} (h : kd k = 2) : k = 2 := by
  have h1 : ∀ k, k < 80 → kd k = 2 → k = 2 := by decide +kernel
  exact h1 k (klt_2 h) h
theorem Ec_tmem {ac : Nat → ClassId} {z : Nat} {σ : Mem} {k : Nat} (h1 : k ≠ 1) (h2 : k ≠ 2) (h3 : k < 98 + 4 * txn σ + 1) : Ec ac z (tmem σ) k = Ec ac z σ k := by
  unfold Ec alen
  rw [tmem_old h1 h3]
  split <;> first | rfl | (rename_i hk; exact absurd (kd2 hk) h2)
theorem kd_new {t d : Nat} (ht : 1 ≤ t) (hd : d < 4) : kd (98 + 4 * t + d) = if d = 0 then 4 else 14 := by
  unfold kd
  rw [if_neg (by omega), if_neg (by omega)]
  by_cases h : d = 0
  · rw [if_pos (by omega), if_pos h]
  · rw [if_neg (by omega), if_neg h]
def At (z : Nat) : Nat → Prop := fun q => z ≤ q ∧ (q < z + 80 ∨ z + 102 ≤ q)
/-- the marks of X3.add: 0: the array has the text, the count doesn't; 1: done -/
def E4 (ac : Nat → ClassId) (z : Nat) (σ : Mem) : Mem → Nat → va_E := fun μ k => if μ 0 0 = 0 then (if k = 1 then Ec ac z σ 1 else Ec ac z (tmem σ) k) else Ec ac z (tmem σ) k
def P4 (σ : Mem) : Mem → Nat → Prop := fun _ k => inC (tmem σ) k
theorem inC_old {σ : Mem} {k : Nat} (h0 : 0 ≤ σ 1 1) (h6 : σ 1 1 < 6) (h : inC (tmem σ) k) : inC σ k ∨ ∃ d, d < 4 ∧ k = 98 + 4 * txn σ + d := by
  unfold inC at h ⊢
  rw [txn_tmem h0 h6] at h
  by_cases hk : k < 80 ∨ k < 98 + 4 * txn σ
  · exact Or.inl ⟨h.1, hk⟩
  · exact Or.inr ⟨k - (98 + 4 * txn σ), by omega, by omega⟩
theorem c_X3_add {K : Nat} {σ : Mem} (hK : 1 ≤ K) (h0 : 1 ≤ σ 1 1) (h6 : σ 1 1 < 6) : MT l D ac (z, aK, aV) (At z) yX3_add cX3_add 2 (some .int) K 0 0 [.ref (z + 1), .ref (z + (98 + 4 * txn σ))] (fun H => (WC D ac z σ H ∧ ∀ d, d < 4 → va_at D cls (z + (98 + 4 * txn σ + d), Ec ac z (tmem σ) (98 + 4 * txn σ + d)) H) ∧ H.size = z + (98 + 4 * txn (tmem σ))) (some (.int (σ 1 1)))
    (fun H => WC D ac z (tmem σ) H ∧ H.size = z + (98 + 4 * txn (tmem σ))) := by
  refine MT.of (fun q hq => hq.1) (plainFor_of_name (by decide)) (Nat.le_of_ble_eq_true rfl) ?_
  intro p e s m below meth c args C hW ls hl
  replace hl : lv_has ls 2 [(0, .ref (z + 1)), (1, .ref (z + (98 + 4 * txn σ)))] := hl
  have hS : va_S (At z) s.heap s.heap [] := va_S.rf
  have hx := C.1.1
  have hb := C.1.2.1
  have C' := C.to (B := Ac z) (fun q hq => hq.1)
  obtain ⟨⟨hW, hN⟩, hsz⟩ := hW
  have h00 : 0 ≤ σ 1 1 := Int32.le_trans (by decide) h0
  have ht1 : 1 ≤ txn σ := by
    have e := Int32.le_iff_toInt_le.mp h0
    have k1 : (1 : Int32).toInt = 1 := rfl
    rw [k1, txn_of h00] at e
    omega
  have ht6 := txn_lt h00 h6
  refine lv_aload_n (pc := 0) hx hb dX3_add_0 rfl (lv_at hl 0 rfl) ?_
  refine gf_X3_1 (pc := 1) C' hW kdc_1 fl_X3_27 dX3_add_1 ?_
  refine lv_if_lt (pc := 4) (tgt := 19) hx hb dX3_add_4 (by decide) (fun hc => absurd hc (Int32.not_lt.mpr h00)) (fun _ => ?_)
  refine lv_aload_n (pc := 7) hx hb dX3_add_7 rfl (lv_at hl 0 rfl) ?_
  refine gf_X3_1 (pc := 8) C' hW kdc_1 fl_X3_27 dX3_add_8 ?_
  refine lv_aload_n (pc := 11) hx hb dX3_add_11 rfl (lv_at hl 0 rfl) ?_
  refine gf_X3_0 (pc := 12) C' hW kdc_1 fl_X3_11 dX3_add_12 ?_
  refine g_alen (pc := 15) C' hW (k := 2) 4 (kin_2 kdc_2) (Ek_2 kdc_2) rfl (v := 6) rfl dX3_add_15 ?_
  refine lv_icmp_lt (pc := 16) (tgt := 22) hx hb dX3_add_16 (by decide) (fun _ => ?_) (fun hc => absurd h6 hc)
  refine lv_aload_n (pc := 22) hx hb dX3_add_22 rfl (lv_at hl 0 rfl) ?_
  refine gf_X3_0 (pc := 23) C' hW kdc_1 fl_X3_11 dX3_add_23 ?_
  refine lv_aload_n (pc := 26) hx hb dX3_add_26 rfl (lv_at hl 0 rfl) ?_
  refine gf_X3_1 (pc := 27) C' hW kdc_1 fl_X3_27 dX3_add_27 ?_
  refine lv_aload_n (pc := 30) hx hb dX3_add_30 rfl (lv_at hl 1 rfl) ?_
  have hk0 : kd (98 + 4 * txn σ) = 4 := kd_new (d := 0) ht1 (by decide)
  have hq : va_at D cls (z + (98 + 4 * txn σ), .inr (5, [.ref (z + (98 + 4 * txn σ + 1)), .ref (z + (98 + 4 * txn σ + 2)), .ref (z + (98 + 4 * txn σ + 3))])) s.heap := by
    have h := hN 0 (by decide)
    rw [Ek_4 (k := 98 + 4 * txn σ + 0) hk0] at h
    exact h
  have ha : s.heap[z + 2]? = some (vp_cell (ac 4) (6, .inr (.inr (.inr (.inr (fun i => if i < txn σ then some (z + tad i) else none)))))) := by
    have := hW 2 (kin_2 kdc_2)
    rw [Ek_2 kdc_2] at this
    exact this
  refine r_aast (pc := 31) C hS (t0 := 4) ha ⟨Nat.le_add_right _ _, Or.inl (by omega)⟩ rfl hq rfl (inb_in (by
    have h1 := Int32.le_iff_toInt_le.mp h00
    unfold inb
    simp only [Bool.and_eq_true, decide_eq_true_eq]
    exact ⟨h00, ht6⟩)) dX3_add_31 (fun H locs e1 z1 oq hS => ?_)
  have ot : ∀ k, k ≠ 2 → H[z + k]? = s.heap[z + k]? := fun k hk => oq (z + k) (fun h => hk (Nat.add_left_cancel h))
  have hW4 : Wd D (E4 ac z σ) (P4 σ) z (fun _ _ => 0) H := by
    intro k hk
    have hE : E4 ac z σ (fun _ _ => 0) k = if k = 1 then Ec ac z σ 1 else Ec ac z (tmem σ) k := if_pos rfl
    rw [hE]
    by_cases k1 : k = 1
    · subst k1
      rw [if_pos rfl]
      exact (hW 1 (kin_1 kdc_1)).kept (ot 1 (by decide))
    · rw [if_neg k1]
      by_cases k2 : k = 2
      · subst k2
        rw [Ek_2 kdc_2]
        have hf : (fun i => if i < txn (tmem σ) then some (z + tad i) else none) = va_up (fun i => if i < txn σ then some (z + tad i) else none) (σ 1 1).toNatClampNeg (some (z + (98 + 4 * txn σ))) := by
          funext i
          rw [txn_tmem h00 h6]
          unfold va_up
          by_cases hi : i = txn σ
          · rw [if_pos (show i = (σ 1 1).toNatClampNeg from hi), if_pos (by omega)]
            unfold tad
            rw [if_neg (by omega), hi]
          · rw [if_neg (show ¬ i = (σ 1 1).toNatClampNeg from hi)]
            by_cases hi2 : i < txn σ
            · show _ = if i < txn σ then some (z + tad i) else none
              rw [if_pos hi2, if_pos (by omega)]
            · show _ = if i < txn σ then some (z + tad i) else none
              rw [if_neg hi2, if_neg (by omega)]
        rw [hf]
        exact e1
      · rcases inC_old h00 h6 hk with h | ⟨d, hd, rfl⟩
        · have hlt : k < 98 + 4 * txn σ + 1 := by
            have := h.2
            omega
          rw [Ec_tmem k1 k2 hlt]
          exact (hW k h).kept (ot k k2)
        · exact (hN d hd).kept (ot _ k2)
  have e41 : E4 ac z σ (fun _ _ => 0) 1 = .inr (3, [.ref (z + 2), .int (σ 1 1), .ref (z + 3), .ref (z + 4)]) := (if_pos rfl).trans ((if_pos rfl).trans (Ek_1 kdc_1))
  have p41 : ∀ μ, P4 σ μ 1 := fun μ => kin_1 kdc_1
  refine lv_aload_n (pc := 32) hx hb dX3_add_32 rfl (lv_at hl 0 rfl) ?_
  refine lv_dup (pc := 33) hx hb dX3_add_33 rfl ?_
  refine g_get (pc := 34) C hW4 (k := 1) (p41 _) e41 rfl lays_X3 1 (by decide) fl_X3_27 rfl dX3_add_34 ?_
  refine lv_iconst (pc := 37) (v := 1) hx hb dX3_add_37 (by decide) ?_
  refine lv_iadd (pc := 38) hx hb dX3_add_38 ?_
  refine g_putZ (pc := 39) C (σ1 := fun _ _ => 1) hW4 hS tyX3 (k := 1) (p41 _) e41 ⟨Nat.le_add_right _ _, Or.inl (by omega)⟩ rfl lays_X3 tyX3_ok nmX3 1 (by decide) fl_X3_27 rfl rfl rfl (by simp) ?_ ?_ (fun q h => h) dX3_add_39 (fun H' locs' h1 h2 h3 => ?_)
  · have hE : E4 ac z σ (fun _ _ => 1) 1 = Ec ac z (tmem σ) 1 := if_neg (by decide)
    rw [hE, Ek_1 kdc_1]
    have : tmem σ 1 1 = σ 1 1 + 1 := by unfold tmem; rw [if_pos rfl, if_pos rfl]
    rw [this]
    rfl
  · intro q hq
    have hE : E4 ac z σ (fun _ _ => 1) q = Ec ac z (tmem σ) q := if_neg (by decide)
    have hE0 : E4 ac z σ (fun _ _ => 0) q = if q = 1 then Ec ac z σ 1 else Ec ac z (tmem σ) q := if_pos rfl
    rw [hE, hE0, if_neg hq]
  have hW5 : WC D ac z (tmem σ) H' := fun k hk => by
    have := h1 k hk
    have hE : E4 ac z σ (fun _ _ => 1) k = Ec ac z (tmem σ) k := if_neg (by decide)
    rw [hE] at this
    exact this
  refine lv_aload_n (pc := 42) hx hb dX3_add_42 rfl (lv_at hl 0 rfl) ?_
  refine gf_X3_1 (pc := 43) C' hW5 kdc_1 fl_X3_27 dX3_add_43 ?_
  refine lv_iconst (pc := 46) (v := 1) hx hb dX3_add_46 (by decide) ?_
  refine lv_isub (pc := 47) hx hb dX3_add_47 ?_
  refine t_iret (pc := 48) C ⟨hW5, h3.trans (z1.trans hsz)⟩ h2 rfl dX3_add_48 ?_ (Nat.le_refl _) (Nat.le_refl _)
  have : tmem σ 1 1 = σ 1 1 + 1 := by unfold tmem; rw [if_pos rfl, if_pos rfl]
  rw [this, Int32.add_sub_cancel]
theorem codeN_le {σ : Mem} {i : Nat} (h : codeOK σ i) : codeN σ i ≤ 160 := by
  obtain ⟨c1, c2, c3, -⟩ := h
  unfold codeN
  rw [(sub_nn c1 c2).2]
  have := Int32.le_iff_toInt_le.mp c3
  have e : (160 : Int32).toInt = 160 := rfl
  rw [e] at this
  show (σ 14 i).toInt.toNat - _ ≤ 160
  omega
theorem ofNat_toNat {n : Nat} (h : n ≤ 160) : (Int32.ofNat n).toNatClampNeg = n := by
  have h1 : ∀ n, n ≤ 160 → (Int32.ofNat n).toNatClampNeg = n := by decide +kernel
  exact h1 n h
theorem c_X8_text {K : Nat} (hK : 120 ≤ K) {σ σf : Mem} {r : Int32} (hf : f_X8_text σ = some (r, σf)) : MT l D ac (z, aK, aV) (At z) yX8_text cX8_text 2 (some .int) K 4 483 [.ref (z + 0)] (fun H => WC D ac z σ H ∧ H.size = z + (98 + 4 * txn σ)) (some (.int r))
    (fun H => WC D ac z σf H ∧ H.size = z + (98 + 4 * txn σf)) := by
  refine MT.of (fun q hq => hq.1) (plainFor_of_name (by decide)) (Nat.le_of_ble_eq_true rfl) ?_
  intro p e s m below meth c args C hW ls hl
  replace hl : lv_has ls 2 [(0, .ref (z + 0))] := hl
  have hS : va_S (Ac z) s.heap s.heap [] := va_S.rf
  have hx := C.1.1
  have hb := C.1.2.1
  have C' := C.to (B := Ac z) (fun q hq => hq.1)
  have hAt : ∀ q, Ac z q → At z q := fun q hq => ⟨hq.1, Or.inl hq.2⟩
  obtain ⟨hW, hsz⟩ := hW
  unfold f_X8_text at hf
  refine lv_aload_n (pc := 0) hx hb dX8_text_0 rfl (lv_at hl 0 rfl) ?_
  refine gf_X8_0 (pc := 1) C' hW kdc_0 fl_X8_10 dX8_text_1 ?_
  refine gf_X3_1 (pc := 4) C' hW kdc_1 fl_X8_76 dX8_text_4 ?_
  refine lv_bipush (pc := 7) (v := 6) hx hb dX8_text_7 (by decide) ?_
  refine lv_icmp_lt (pc := 9) (tgt := 15) hx hb dX8_text_9 (by decide) (fun hc => ?_) (fun hc => ?_)
  rotate_left
  · rw [if_pos (Int32.not_lt.mp hc)] at hf
    cases hf
    refine lv_bipush (pc := 12) (v := -4) hx hb dX8_text_12 (by decide) ?_
    exact t_iret (pc := 14) C ⟨hW, hsz⟩ (va_S.wk hAt hS) rfl dX8_text_14 rfl (Nat.zero_le _) (Nat.zero_le _)
  rw [if_neg (Int32.not_le.mpr hc)] at hf
  rcases hread : f_X2_read σ with _ | ⟨q, σ1⟩
  · rw [hread] at hf
    cases hf
  rw [hread] at hf
  dsimp only at hf
  refine lv_aload_n (pc := 15) hx hb dX8_text_15 rfl (lv_at hl 0 rfl) ?_
  refine gf_X8_1 (pc := 16) C' hW kdc_0 fl_X8_19 dX8_text_16 ?_
  refine g_virtZ (pc := 19) (st2 := [.int q]) (rest := []) C' hW hS (c_X2_read (K := K - 1) (by omega) hread) mw_X8_93 (kin_5 kdc_9) (Ek_5 kdc_9) rfl ⟨by show K - 1 + 1 ≤ K; omega, by show 8 + (2 + 11) + 40 * (K - 1) ≤ 40 * K; omega, Nat.le_of_ble_eq_true rfl, Nat.le_of_ble_eq_true rfl⟩ rfl rfl rfl (Nat.le_of_ble_eq_true rfl) hl.1 dX8_text_19 (fun H locs hW hS hz => ?_)
  refine lv_istore_n (pc := 22) (lv' := [(1, .int q), (0, .ref (z + 0))]) hx hb dX8_text_22 rfl hl (by decide) rfl (fun ls hl => ?_)
  refine lv_aload_n (pc := 23) hx hb dX8_text_23 rfl (lv_at hl 1 rfl) ?_
  refine gf_X8_1 (pc := 24) C' hW kdc_0 fl_X8_19 dX8_text_24 ?_
  refine lv_iconst (pc := 27) (v := 0) hx hb dX8_text_27 (by decide) ?_
  have hz1 := hW
  refine g_putZ (pc := 28) C' (σ1 := ms σ1 9 1 0) hW hS tyX2 (k := 9) (kin_5 kdc_9) (Ek_5 kdc_9) (kA_5 kdc_9) rfl lays_X2 tyX2_ok nmX2 1 (by decide) fl_X8_82 rfl rfl rfl (by simp) (by rw [Ek_5 kdc_9]; simp [ms, List.set]) (fun q h => Ec_ne (Or.inl (by decide)) h) (fun q h => inC_ms (Or.inl (by decide)) h) dX8_text_28 (fun H' locs' hW2 hS2 hz2 => ?_)
  by_cases hqq : σ1 1 1 = σ 1 1
  rotate_left
  · rw [if_neg hqq] at hf
    cases hf
  rw [if_pos hqq] at hf
  have hT1 : txn (ms σ1 9 1 0) = txn σ := by
    rw [ms_txn (Or.inl (by decide))]
    unfold txn
    rw [hqq]
  have h11 : ms σ1 9 1 0 1 1 = σ1 1 1 := rfl
  have hsz2 : H'.size = z + (98 + 4 * txn (ms σ1 9 1 0)) := by rw [hT1]; exact hz2.trans (hz.trans hsz)
  clear hW hz1
  refine lv_iload_n (pc := 31) hx hb dX8_text_31 rfl (lv_at hl 0 rfl) ?_
  refine lv_if_lt (pc := 32) (tgt := 40) hx hb dX8_text_32 (by decide) (fun hq => ?_) (fun hq => ?_)
  rotate_left
  · rw [if_pos (Int32.not_lt.mp hq)] at hf
    obtain ⟨hr, hσf⟩ := Prod.mk.inj (Option.some.inj hf)
    subst hr
    subst hσf
    refine lv_bipush (pc := 35) (v := -100) hx hb dX8_text_35 (by decide) ?_
    refine lv_iload_n (pc := 37) hx hb dX8_text_37 rfl (lv_at hl 0 rfl) ?_
    refine lv_isub (pc := 38) hx hb dX8_text_38 ?_
    exact t_iret (pc := 39) C ⟨hW2, hsz2⟩ (va_S.wk hAt hS2) rfl dX8_text_39 rfl (Nat.zero_le _) (Nat.zero_le _)
  rw [if_neg (Int32.not_le.mpr hq)] at hf
  split at hf
  rotate_left
  · cases hf
  rename_i hall
  cases hf
  obtain ⟨⟨g1, g6⟩, k0, k1, k2⟩ := hall
  rw [← h11] at g1 g6
  generalize hτ : ms σ1 9 1 0 = τ at *
  rw [← h11]
  have g0 : 0 ≤ τ 1 1 := Int32.le_trans (by decide) g1
  have ht1 : 1 ≤ txn τ := by
    have e := Int32.le_iff_toInt_le.mp g1
    have k1 : (1 : Int32).toInt = 1 := rfl
    rw [k1, txn_of g0] at e
    omega
  have hin : ∀ k, inC τ k → z + k < z + (98 + 4 * txn τ) := fun k hk => by
    have := hk.2
    omega
  have hS3 := va_S.wk hAt hS2
  have hZA : ∀ q, z + (98 + 4 * txn τ) ≤ q → At z q := fun q hq => ⟨by omega, Or.inr (by omega)⟩
  generalize hZ : z + (98 + 4 * txn τ) = Z at *
  refine lv_aload_n (pc := 40) hx hb dX8_text_40 rfl (lv_at hl 1 rfl) ?_
  refine gf_X8_0 (pc := 41) C' hW2 kdc_0 fl_X8_10 dX8_text_41 ?_
  refine r_new (pc := 44) (ci := 5) (N := 3) C hS3 tyX5 rfl lays_X5 tyX5_ok [.null, .null, .null] (fun j hj => by match j, hj with | 0, _ => rfl | 1, _ => rfl | 2, _ => rfl) cl_X8_97 hsz2 (Nat.le_of_ble_eq_true rfl) (Nat.le_of_ble_eq_true rfl) dX8_text_44 (fun H1 n1 z1 o1 hS => ?_)
  have hW3 : WC D ac z τ H1 := fun k hk => (hW2 k hk).kept (o1 _ (hin k hk))
  clear hW2 hS2 hS3
  refine lv_dup (pc := 47) hx hb dX8_text_47 rfl ?_
  refine lv_aload_n (pc := 48) hx hb dX8_text_48 rfl (lv_at hl 1 rfl) ?_
  refine gf_X8_1 (pc := 49) C' hW3 kdc_0 fl_X8_19 dX8_text_49 ?_
  refine lv_iconst (pc := 52) (v := 0) hx hb dX8_text_52 (by decide) ?_
  have r9 : ∀ H, WC D ac z τ H → va_at D cls (z + 9, _) H := fun H h => by
    have := h 9 (kin_5 kdc_9)
    rw [Ek_5 kdc_9] at this
    exact this
  refine t_virt (Wa := fun H => WC D ac z τ H ∧ H.size = Z + 1) (pc := 53) (st2 := [.ref (Z + 1), .ref Z, .ref Z, .ref (z + 1)]) (rest := [.ref Z, .ref Z, .ref (z + 1)]) C ⟨hW3, z1⟩ hS (c_codeOf_0 (K := K - 1) (by omega) (by omega) k0 (fun k hk => by have := hin k hk; omega)) (fun q hq => hZA q (by omega)) mw_X8_99 (r9 H1 hW3) rfl ⟨by show K - 1 + 1 ≤ K; omega, by show 8 + (5 + 11) + 40 * (K - 1) ≤ 40 * K; omega, Nat.le_of_ble_eq_true rfl, Nat.le_of_ble_eq_true rfl⟩ rfl rfl rfl (Nat.le_of_ble_eq_true rfl) hl.1 dX8_text_53 (fun H2 locs2 hN2 f2 hS => ?_)
  have o2 : ∀ q : Nat, q < Z + 1 → H2[q]? = H1[q]? := fun q hq => f2 q (by omega) (by omega)
  have hW4 : WC D ac z τ H2 := fun k hk => (hW3 k hk).kept (o2 _ (by have := hin k hk; omega))
  refine lv_aload_n (pc := 56) hx hb dX8_text_56 rfl (lv_at hl 1 rfl) ?_
  refine gf_X8_1 (pc := 57) C' hW4 kdc_0 fl_X8_19 dX8_text_57 ?_
  refine lv_iconst (pc := 60) (v := 1) hx hb dX8_text_60 (by decide) ?_
  refine t_virt (Wa := fun H => WC D ac z τ H ∧ H.size = Z + 2) (pc := 61) (st2 := [.ref (Z + 2), .ref (Z + 1), .ref Z, .ref Z, .ref (z + 1)]) (rest := [.ref (Z + 1), .ref Z, .ref Z, .ref (z + 1)]) C ⟨hW4, hN2.2⟩ hS (c_codeOf_1 (K := K - 1) (by omega) (by omega) k1 (fun k hk => by have := hin k hk; omega)) (fun q hq => hZA q (by omega)) mw_X8_99 (r9 H2 hW4) rfl ⟨by show K - 1 + 1 ≤ K; omega, by show 8 + (5 + 11) + 40 * (K - 1) ≤ 40 * K; omega, Nat.le_of_ble_eq_true rfl, Nat.le_of_ble_eq_true rfl⟩ rfl rfl rfl (Nat.le_of_ble_eq_true rfl) hl.1 dX8_text_61 (fun H3 locs3 hN3 f3 hS => ?_)
  have o3 : ∀ q : Nat, q < Z + 2 → H3[q]? = H2[q]? := fun q hq => f3 q (by have := hN2.2; omega) (by omega)
  have hW5 : WC D ac z τ H3 := fun k hk => (hW4 k hk).kept (o3 _ (by have := hin k hk; omega))
  refine lv_aload_n (pc := 64) hx hb dX8_text_64 rfl (lv_at hl 1 rfl) ?_
  refine gf_X8_1 (pc := 65) C' hW5 kdc_0 fl_X8_19 dX8_text_65 ?_
  refine lv_iconst (pc := 68) (v := 2) hx hb dX8_text_68 (by decide) ?_
  refine t_virt (Wa := fun H => WC D ac z τ H ∧ H.size = Z + 3) (pc := 69) (st2 := [.ref (Z + 3), .ref (Z + 2), .ref (Z + 1), .ref Z, .ref Z, .ref (z + 1)]) (rest := [.ref (Z + 2), .ref (Z + 1), .ref Z, .ref Z, .ref (z + 1)]) C ⟨hW5, hN3.2⟩ hS (c_codeOf_2 (K := K - 1) (by omega) (by omega) k2 (fun k hk => by have := hin k hk; omega)) (fun q hq => hZA q (by omega)) mw_X8_99 (r9 H3 hW5) rfl ⟨by show K - 1 + 1 ≤ K; omega, by show 8 + (5 + 11) + 40 * (K - 1) ≤ 40 * K; omega, Nat.le_of_ble_eq_true rfl, Nat.le_of_ble_eq_true rfl⟩ rfl rfl rfl (Nat.le_of_ble_eq_true rfl) hl.1 dX8_text_69 (fun H4 locs4 hN4 f4 hS => ?_)
  have o4 : ∀ q : Nat, q < Z + 3 → H4[q]? = H3[q]? := fun q hq => f4 q (by have := hN3.2; omega) (by omega)
  have hW6 : WC D ac z τ H4 := fun k hk => (hW5 k hk).kept (o4 _ (by have := hin k hk; omega))
  have c0 : va_at D cls (Z + 0, .inr (5, [.null, .null, .null])) H4 := n1.kept ((o4 Z (by omega)).trans ((o3 Z (by omega)).trans (o2 Z (by omega))))
  have c1 : va_at D cls (Z + 1, .inl (ac 0, codeN τ 0, .inl (fun i => τ 13 ((codeF τ 0).toNatClampNeg + i)))) H4 := (o4 (Z + 1) (by omega)).trans ((o3 (Z + 1) (by omega)).trans hN2.1)
  have c2 : va_at D cls (Z + 2, .inl (ac 0, codeN τ 1, .inl (fun i => τ 13 ((codeF τ 1).toNatClampNeg + i)))) H4 := (o4 (Z + 2) (by omega)).trans hN3.1
  have c3 : va_at D cls (Z + 3, .inl (ac 0, codeN τ 2, .inl (fun i => τ 13 ((codeF τ 2).toNatClampNeg + i)))) H4 := hN4.1
  have hWg : Wg D Z 4 (fun q => if q = 0 then .inr (5, [.null, .null, .null]) else if q = 1 then .inl (ac 0, codeN τ 0, .inl (fun i => τ 13 ((codeF τ 0).toNatClampNeg + i))) else if q = 2 then .inl (ac 0, codeN τ 1, .inl (fun i => τ 13 ((codeF τ 1).toNatClampNeg + i))) else .inl (ac 0, codeN τ 2, .inl (fun i => τ 13 ((codeF τ 2).toNatClampNeg + i)))) H4 := ⟨hN4.2, fun q hq => by
    match q, hq with
    | 0, _ => exact c0
    | 1, _ => exact c1
    | 2, _ => exact c2
    | 3, _ => exact c3⟩
  refine t_spec (pc := 72) (b := Z + 0) (rest := [.ref Z, .ref (z + 1)]) (As := [.ref (Z + 1), .ref (Z + 2), .ref (Z + 3)]) (Wa := Wg D Z 4 _) (Wb := Wg D Z 4 _) (A' := fun q => Z ≤ q) C hWg hS (a_X5 (K := K - 1) (k := 0) (a1 := 1) (a2 := 2) (a3 := 3) (by omega) (fun q hq => by show z ≤ q; have h : Z ≤ q := hq; omega) (by decide) (by show Z ≤ Z + 0; omega) rfl) hZA mi_X8_103 ⟨by show K - 1 + 1 ≤ K; omega, by show 8 + (4 + 11) + 40 * (K - 1) ≤ 40 * K; omega, Nat.le_of_ble_eq_true rfl, Nat.le_of_ble_eq_true rfl⟩ rfl rfl (Nat.le_of_ble_eq_true rfl) hl.1 dX8_text_72 (fun H5 locs5 hN5 f5 hS => ?_)
  have o5 : ∀ q : Nat, q < Z → H5[q]? = H4[q]? := fun q hq => f5 q (by have := hN4.2; omega) (by omega)
  have hW7 : WC D ac z τ H5 := fun k hk => (hW6 k hk).kept (o5 _ (hin k hk))
  have hcell : ∀ i, i < 3 → ∀ K : Prop, K → K := fun _ _ _ h => h
  have hT := txn_tmem g0 g6
  have eZ : ∀ d, Z + d = z + (98 + 4 * txn τ + d) := fun d => by omega
  have hnew : ∀ d, d < 4 → va_at D cls (z + (98 + 4 * txn τ + d), Ec ac z (tmem τ) (98 + 4 * txn τ + d)) H5 := by
    intro d hd
    have h := hN5.2 d hd
    rw [eZ d] at h
    match d, hd with
    | 0, _ =>
      rw [Ek_4 (k := 98 + 4 * txn τ + 0) (kd_new (d := 0) ht1 (by decide))]
      have e1 : z + (98 + 4 * txn τ + 0 + 1) = Z + 1 := by omega
      have e2 : z + (98 + 4 * txn τ + 0 + 2) = Z + 2 := by omega
      have e3 : z + (98 + 4 * txn τ + 0 + 3) = Z + 3 := by omega
      rw [e1, e2, e3]
      exact h
    | 1, _ =>
      rw [Ek_14 (k := 98 + 4 * txn τ + 1) (kd_new (d := 1) ht1 (by decide))]
      have e : alen (tmem τ) (98 + 4 * txn τ + 1) = codeN τ 0 := by
        unfold alen tmem
        rw [if_neg (by omega), if_pos rfl, if_pos rfl]
        exact ofNat_toNat (codeN_le k0)
      rw [e]
      refine at_ints (cA := ac 0) (N := codeN τ 0) ?_ _ _ h
      intro i hi
      have := codeN_le k0
      show _ = tmem τ _ i
      unfold tmem
      rw [if_neg (by omega), if_pos rfl, if_neg (by omega)]
    | 2, _ =>
      rw [Ek_14 (k := 98 + 4 * txn τ + 2) (kd_new (d := 2) ht1 (by decide))]
      have e : alen (tmem τ) (98 + 4 * txn τ + 2) = codeN τ 1 := by
        unfold alen tmem
        rw [if_neg (by omega), if_neg (by omega), if_pos rfl, if_pos rfl]
        exact ofNat_toNat (codeN_le k1)
      rw [e]
      refine at_ints (cA := ac 0) (N := codeN τ 1) ?_ _ _ h
      intro i hi
      have := codeN_le k1
      show _ = tmem τ _ i
      unfold tmem
      rw [if_neg (by omega), if_neg (by omega), if_pos rfl, if_neg (by omega)]
    | 3, _ =>
      rw [Ek_14 (k := 98 + 4 * txn τ + 3) (kd_new (d := 3) ht1 (by decide))]
      have e : alen (tmem τ) (98 + 4 * txn τ + 3) = codeN τ 2 := by
        unfold alen tmem
        rw [if_neg (by omega), if_neg (by omega), if_neg (by omega), if_pos rfl, if_pos rfl]
        exact ofNat_toNat (codeN_le k2)
      rw [e]
      refine at_ints (cA := ac 0) (N := codeN τ 2) ?_ _ _ h
      intro i hi
      have := codeN_le k2
      show _ = tmem τ _ i
      unfold tmem
      rw [if_neg (by omega), if_neg (by omega), if_neg (by omega), if_pos rfl, if_neg (by omega)]
  have r1 : va_at D cls (z + 1, _) H5 := hW7 1 (kin_1 kdc_1)
  rw [Ek_1 kdc_1] at r1
  refine t_virt (Wa := fun H => (WC D ac z τ H ∧ ∀ d, d < 4 → va_at D cls (z + (98 + 4 * txn τ + d), Ec ac z (tmem τ) (98 + 4 * txn τ + d)) H) ∧ H.size = z + (98 + 4 * txn (tmem τ))) (pc := 75) (st2 := [.int (τ 1 1)]) (rest := []) (As := [.ref (z + (98 + 4 * txn τ))]) C ⟨⟨hW7, hnew⟩, by rw [hN5.1, hT]; omega⟩ hS (c_X3_add (K := K - 1) (by omega) g1 g6) (fun q hq => hq) mw_X8_106 r1 rfl ⟨by show K - 1 + 1 ≤ K; omega, by show 8 + (2 + 11) + 40 * (K - 1) ≤ 40 * K; omega, Nat.le_of_ble_eq_true rfl, Nat.le_of_ble_eq_true rfl⟩ rfl (by rw [hZ]; rfl) rfl (Nat.le_of_ble_eq_true rfl) hl.1 dX8_text_75 (fun H6 locs6 hN6 f6 hS => ?_)
  exact t_iret (pc := 78) C hN6 hS rfl dX8_text_78 rfl (Nat.le_of_ble_eq_true rfl) (Nat.le_of_ble_eq_true rfl)

end
