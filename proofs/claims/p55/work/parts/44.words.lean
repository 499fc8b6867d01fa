theorem dX3_isRowAhead_0 : decode cX3_isRowAhead 0 = .ok (.iload_n 0, 1) := by decide +kernel
theorem dX3_isRowAhead_1 : decode cX3_isRowAhead 1 = .ok (.iload_n 1, 1) := by decide +kernel
theorem dX3_isRowAhead_2 : decode cX3_isRowAhead 2 = .ok (.ixor, 1) := by decide +kernel
theorem dX3_isRowAhead_3 : decode cX3_isRowAhead 3 = .ok (.istore_n 2, 1) := by decide +kernel
theorem dX3_isRowAhead_4 : decode cX3_isRowAhead 4 = .ok (.iload_n 2, 1) := by decide +kernel
theorem dX3_isRowAhead_5 : decode cX3_isRowAhead 5 = .ok (.iload_n 2, 1) := by decide +kernel
theorem dX3_isRowAhead_6 : decode cX3_isRowAhead 6 = .ok (.ineg, 1) := by decide +kernel
theorem dX3_isRowAhead_7 : decode cX3_isRowAhead 7 = .ok (.iand, 1) := by decide +kernel
theorem dX3_isRowAhead_8 : decode cX3_isRowAhead 8 = .ok (.istore_n 3, 1) := by decide +kernel
theorem dX3_isRowAhead_9 : decode cX3_isRowAhead 9 = .ok (.iload_n 0, 1) := by decide +kernel
theorem dX3_isRowAhead_10 : decode cX3_isRowAhead 10 = .ok (.iload_n 3, 1) := by decide +kernel
theorem dX3_isRowAhead_11 : decode cX3_isRowAhead 11 = .ok (.iand, 1) := by decide +kernel
theorem dX3_isRowAhead_12 : decode cX3_isRowAhead 12 = .ok (.ifCond .eq 7, 3) := by decide +kernel
theorem dX3_isRowAhead_19 : decode cX3_isRowAhead 19 = .ok (.iconst 0, 1) := by decide +kernel
theorem dX3_isRowAhead_20 : decode cX3_isRowAhead 20 = .ok (.istore 4, 2) := by decide +kernel
theorem dX3_isRowAhead_22 : decode cX3_isRowAhead 22 = .ok (.iload 4, 2) := by decide +kernel
theorem dX3_isRowAhead_24 : decode cX3_isRowAhead 24 = .ok (.ifCond .eq 7, 3) := by decide +kernel
theorem dX3_isRowAhead_31 : decode cX3_isRowAhead 31 = .ok (.iload_n 0, 1) := by decide +kernel
theorem dX3_isRowAhead_32 : decode cX3_isRowAhead 32 = .ok (.istore 5, 2) := by decide +kernel
theorem dX3_isRowAhead_34 : decode cX3_isRowAhead 34 = .ok (.iload 5, 2) := by decide +kernel
theorem dX3_isRowAhead_36 : decode cX3_isRowAhead 36 = .ok (.iload_n 3, 1) := by decide +kernel
theorem dX3_isRowAhead_37 : decode cX3_isRowAhead 37 = .ok (.ineg, 1) := by decide +kernel
theorem dX3_isRowAhead_38 : decode cX3_isRowAhead 38 = .ok (.iand, 1) := by decide +kernel
theorem dX3_isRowAhead_39 : decode cX3_isRowAhead 39 = .ok (.ifCond .eq 7, 3) := by decide +kernel
theorem dX3_isRowAhead_46 : decode cX3_isRowAhead 46 = .ok (.iconst 0, 1) := by decide +kernel
theorem dX3_isRowAhead_47 : decode cX3_isRowAhead 47 = .ok (.istore 6, 2) := by decide +kernel
theorem dX3_isRowAhead_49 : decode cX3_isRowAhead 49 = .ok (.iload 6, 2) := by decide +kernel
theorem dX3_isRowAhead_51 : decode cX3_isRowAhead 51 = .ok (.iload 4, 2) := by decide +kernel
theorem dX3_isRowAhead_53 : decode cX3_isRowAhead 53 = .ok (.if_icmp .ne 7, 3) := by decide +kernel
theorem dX3_isRowAhead_56 : decode cX3_isRowAhead 56 = .ok (.iconst 1, 1) := by decide +kernel
theorem dX3_isRowAhead_57 : decode cX3_isRowAhead 57 = .ok (.goto 4, 3) := by decide +kernel
theorem dX3_isRowAhead_61 : decode cX3_isRowAhead 61 = .ok (.ireturn, 1) := by decide +kernel
theorem dX3_isRowAhead_42 : decode cX3_isRowAhead 42 = .ok (.iconst 1, 1) := by decide +kernel
theorem dX3_isRowAhead_43 : decode cX3_isRowAhead 43 = .ok (.goto 4, 3) := by decide +kernel
theorem dX3_isRowAhead_60 : decode cX3_isRowAhead 60 = .ok (.iconst 0, 1) := by decide +kernel
theorem dX3_isRowAhead_15 : decode cX3_isRowAhead 15 = .ok (.iconst 1, 1) := by decide +kernel
theorem dX3_isRowAhead_16 : decode cX3_isRowAhead 16 = .ok (.goto 4, 3) := by decide +kernel
theorem dX3_isRowAhead_27 : decode cX3_isRowAhead 27 = .ok (.iload_n 1, 1) := by decide +kernel
theorem dX3_isRowAhead_28 : decode cX3_isRowAhead 28 = .ok (.goto 4, 3) := by decide +kernel
theorem dX10_sumBackTurned_0 : decode cX10_sumBackTurned 0 = .ok (.aload_n 0, 1) := by decide +kernel
theorem dX10_sumBackTurned_1 : decode cX10_sumBackTurned 1 = .ok (.aload_n 1, 1) := by decide +kernel
theorem dX10_sumBackTurned_2 : decode cX10_sumBackTurned 2 = .ok (.aload_n 2, 1) := by decide +kernel
theorem dX10_sumBackTurned_3 : decode cX10_sumBackTurned 3 = .ok (.iload_n 3, 1) := by decide +kernel
theorem dX10_sumBackTurned_4 : decode cX10_sumBackTurned 4 = .ok (.invokevirtual 57, 3) := by decide +kernel
theorem dX10_sumBackTurned_7 : decode cX10_sumBackTurned 7 = .ok (.aload_n 0, 1) := by decide +kernel
theorem dX10_sumBackTurned_8 : decode cX10_sumBackTurned 8 = .ok (.getfield 9, 3) := by decide +kernel
theorem dX10_sumBackTurned_11 : decode cX10_sumBackTurned 11 = .ok (.aload_n 1, 1) := by decide +kernel
theorem dX10_sumBackTurned_12 : decode cX10_sumBackTurned 12 = .ok (.aload_n 2, 1) := by decide +kernel
theorem dX10_sumBackTurned_13 : decode cX10_sumBackTurned 13 = .ok (.invokevirtual 61, 3) := by decide +kernel
theorem dX10_sumBackTurned_16 : decode cX10_sumBackTurned 16 = .ok (.ifCond .eq 18, 3) := by decide +kernel
theorem dX10_sumBackTurned_34 : decode cX10_sumBackTurned 34 = .ok (.iload 4, 2) := by decide +kernel
theorem dX10_sumBackTurned_36 : decode cX10_sumBackTurned 36 = .ok (.istore 5, 2) := by decide +kernel
theorem dX10_sumBackTurned_38 : decode cX10_sumBackTurned 38 = .ok (.aload_n 0, 1) := by decide +kernel
theorem dX10_sumBackTurned_39 : decode cX10_sumBackTurned 39 = .ok (.aload_n 1, 1) := by decide +kernel
theorem dX10_sumBackTurned_40 : decode cX10_sumBackTurned 40 = .ok (.aload_n 2, 1) := by decide +kernel
theorem dX10_sumBackTurned_41 : decode cX10_sumBackTurned 41 = .ok (.iload_n 3, 1) := by decide +kernel
theorem dX10_sumBackTurned_42 : decode cX10_sumBackTurned 42 = .ok (.invokevirtual 57, 3) := by decide +kernel
theorem dX10_sumBackTurned_45 : decode cX10_sumBackTurned 45 = .ok (.iload 5, 2) := by decide +kernel
theorem dX10_sumBackTurned_47 : decode cX10_sumBackTurned 47 = .ok (.ireturn, 1) := by decide +kernel
theorem dX10_sumBackTurned_19 : decode cX10_sumBackTurned 19 = .ok (.aload_n 0, 1) := by decide +kernel
theorem dX10_sumBackTurned_20 : decode cX10_sumBackTurned 20 = .ok (.getfield 9, 3) := by decide +kernel
theorem dX10_sumBackTurned_23 : decode cX10_sumBackTurned 23 = .ok (.aload_n 1, 1) := by decide +kernel
theorem dX10_sumBackTurned_24 : decode cX10_sumBackTurned 24 = .ok (.aload_n 2, 1) := by decide +kernel
theorem dX10_sumBackTurned_25 : decode cX10_sumBackTurned 25 = .ok (.iconst 1, 1) := by decide +kernel
theorem dX10_sumBackTurned_26 : decode cX10_sumBackTurned 26 = .ok (.iload 4, 2) := by decide +kernel
theorem dX10_sumBackTurned_28 : decode cX10_sumBackTurned 28 = .ok (.invokevirtual 29, 3) := by decide +kernel
theorem dX10_sumBackTurned_31 : decode cX10_sumBackTurned 31 = .ok (.goto 5, 3) := by decide +kernel
theorem dX0_rate_0 : decode cX0_rate 0 = .ok (.iload_n 3, 1) := by decide +kernel
theorem dX0_rate_1 : decode cX0_rate 1 = .ok (.ifCond .eq 17, 3) := by decide +kernel
theorem dX0_rate_18 : decode cX0_rate 18 = .ok (.aload_n 0, 1) := by decide +kernel
theorem dX0_rate_19 : decode cX0_rate 19 = .ok (.getfield 15, 3) := by decide +kernel
theorem dX0_rate_22 : decode cX0_rate 22 = .ok (.aload_n 1, 1) := by decide +kernel
theorem dX0_rate_23 : decode cX0_rate 23 = .ok (.aload_n 2, 1) := by decide +kernel
theorem dX0_rate_24 : decode cX0_rate 24 = .ok (.iconst 0, 1) := by decide +kernel
theorem dX0_rate_25 : decode cX0_rate 25 = .ok (.iload 4, 2) := by decide +kernel
theorem dX0_rate_27 : decode cX0_rate 27 = .ok (.invokevirtual 65, 3) := by decide +kernel
theorem dX0_rate_30 : decode cX0_rate 30 = .ok (.ireturn, 1) := by decide +kernel
theorem dX0_rate_4 : decode cX0_rate 4 = .ok (.aload_n 0, 1) := by decide +kernel
theorem dX0_rate_5 : decode cX0_rate 5 = .ok (.getfield 15, 3) := by decide +kernel
theorem dX0_rate_8 : decode cX0_rate 8 = .ok (.aload_n 1, 1) := by decide +kernel
theorem dX0_rate_9 : decode cX0_rate 9 = .ok (.aload_n 2, 1) := by decide +kernel
theorem dX0_rate_10 : decode cX0_rate 10 = .ok (.iload 4, 2) := by decide +kernel
theorem dX0_rate_12 : decode cX0_rate 12 = .ok (.invokevirtual 62, 3) := by decide +kernel
theorem dX0_rate_15 : decode cX0_rate 15 = .ok (.goto 15, 3) := by decide +kernel
theorem dX3_weighChoices_0 : decode cX3_weighChoices 0 = .ok (.iconst 0, 1) := by decide +kernel
theorem dX3_weighChoices_1 : decode cX3_weighChoices 1 = .ok (.istore 5, 2) := by decide +kernel
theorem dX3_weighChoices_3 : decode cX3_weighChoices 3 = .ok (.iload 5, 2) := by decide +kernel
theorem dX3_weighChoices_5 : decode cX3_weighChoices 5 = .ok (.iconst 1, 1) := by decide +kernel
theorem dX3_weighChoices_6 : decode cX3_weighChoices 6 = .ok (.iload_n 3, 1) := by decide +kernel
theorem dX3_weighChoices_7 : decode cX3_weighChoices 7 = .ok (.ishl, 1) := by decide +kernel
theorem dX3_weighChoices_8 : decode cX3_weighChoices 8 = .ok (.if_icmp .ge 63, 3) := by decide +kernel
theorem dX3_weighChoices_11 : decode cX3_weighChoices 11 = .ok (.aload_n 0, 1) := by decide +kernel
theorem dX3_weighChoices_12 : decode cX3_weighChoices 12 = .ok (.getfield 18, 3) := by decide +kernel
theorem dX3_weighChoices_15 : decode cX3_weighChoices 15 = .ok (.iload 5, 2) := by decide +kernel
theorem dX3_weighChoices_17 : decode cX3_weighChoices 17 = .ok (.aload_n 0, 1) := by decide +kernel
theorem dX3_weighChoices_18 : decode cX3_weighChoices 18 = .ok (.aload_n 1, 1) := by decide +kernel
theorem dX3_weighChoices_19 : decode cX3_weighChoices 19 = .ok (.iload_n 3, 1) := by decide +kernel
theorem dX3_weighChoices_20 : decode cX3_weighChoices 20 = .ok (.iload 5, 2) := by decide +kernel
theorem dX3_weighChoices_22 : decode cX3_weighChoices 22 = .ok (.invokevirtual 64, 3) := by decide +kernel
theorem dX3_weighChoices_25 : decode cX3_weighChoices 25 = .ok (.iastore, 1) := by decide +kernel
theorem dX3_weighChoices_26 : decode cX3_weighChoices 26 = .ok (.aload_n 0, 1) := by decide +kernel
theorem dX3_weighChoices_27 : decode cX3_weighChoices 27 = .ok (.getfield 18, 3) := by decide +kernel
theorem dX3_weighChoices_30 : decode cX3_weighChoices 30 = .ok (.iload 5, 2) := by decide +kernel
theorem dX3_weighChoices_32 : decode cX3_weighChoices 32 = .ok (.iaload, 1) := by decide +kernel
theorem dX3_weighChoices_33 : decode cX3_weighChoices 33 = .ok (.iload 4, 2) := by decide +kernel
theorem dX3_weighChoices_35 : decode cX3_weighChoices 35 = .ok (.if_icmp .gt 30, 3) := by decide +kernel
theorem dX3_weighChoices_65 : decode cX3_weighChoices 65 = .ok (.iinc 5 1, 3) := by decide +kernel
theorem dX3_weighChoices_68 : decode cX3_weighChoices 68 = .ok (.goto (-65), 3) := by decide +kernel
theorem dX3_weighChoices_38 : decode cX3_weighChoices 38 = .ok (.aload_n 0, 1) := by decide +kernel
theorem dX3_weighChoices_39 : decode cX3_weighChoices 39 = .ok (.aload_n 2, 1) := by decide +kernel
theorem dX3_weighChoices_40 : decode cX3_weighChoices 40 = .ok (.iload_n 3, 1) := by decide +kernel
theorem dX3_weighChoices_41 : decode cX3_weighChoices 41 = .ok (.iload 5, 2) := by decide +kernel
theorem dX3_weighChoices_43 : decode cX3_weighChoices 43 = .ok (.invokevirtual 40, 3) := by decide +kernel
theorem dX3_weighChoices_46 : decode cX3_weighChoices 46 = .ok (.aload_n 0, 1) := by decide +kernel
theorem dX3_weighChoices_47 : decode cX3_weighChoices 47 = .ok (.getfield 21, 3) := by decide +kernel
theorem dX3_weighChoices_50 : decode cX3_weighChoices 50 = .ok (.iload 5, 2) := by decide +kernel
theorem dX3_weighChoices_52 : decode cX3_weighChoices 52 = .ok (.aload_n 0, 1) := by decide +kernel
theorem dX3_weighChoices_53 : decode cX3_weighChoices 53 = .ok (.getfield 24, 3) := by decide +kernel
theorem dX3_weighChoices_56 : decode cX3_weighChoices 56 = .ok (.aload_n 1, 1) := by decide +kernel
theorem dX3_weighChoices_57 : decode cX3_weighChoices 57 = .ok (.aload_n 2, 1) := by decide +kernel
theorem dX3_weighChoices_58 : decode cX3_weighChoices 58 = .ok (.iconst 0, 1) := by decide +kernel
theorem dX3_weighChoices_59 : decode cX3_weighChoices 59 = .ok (.ldc 44, 2) := by decide +kernel
theorem dX3_weighChoices_61 : decode cX3_weighChoices 61 = .ok (.invokevirtual 68, 3) := by decide +kernel
theorem dX3_weighChoices_64 : decode cX3_weighChoices 64 = .ok (.iastore, 1) := by decide +kernel
theorem dX3_weighChoices_71 : decode cX3_weighChoices 71 = .ok (.aload_n 0, 1) := by decide +kernel
theorem dX3_weighChoices_72 : decode cX3_weighChoices 72 = .ok (.aload_n 2, 1) := by decide +kernel
theorem dX3_weighChoices_73 : decode cX3_weighChoices 73 = .ok (.iload_n 3, 1) := by decide +kernel
theorem dX3_weighChoices_74 : decode cX3_weighChoices 74 = .ok (.iconst 0, 1) := by decide +kernel
theorem dX3_weighChoices_75 : decode cX3_weighChoices 75 = .ok (.invokevirtual 40, 3) := by decide +kernel
theorem dX3_weighChoices_78 : decode cX3_weighChoices 78 = .ok (.return_, 1) := by decide +kernel
theorem dX8_addGrid_0 : decode cX8_addGrid 0 = .ok (.aload_n 0, 1) := by decide +kernel
theorem dX8_addGrid_1 : decode cX8_addGrid 1 = .ok (.iload_n 1, 1) := by decide +kernel
theorem dX8_addGrid_2 : decode cX8_addGrid 2 = .ok (.iload_n 2, 1) := by decide +kernel
theorem dX8_addGrid_3 : decode cX8_addGrid 3 = .ok (.imul, 1) := by decide +kernel
theorem dX8_addGrid_4 : decode cX8_addGrid 4 = .ok (.putfield 15, 3) := by decide +kernel
theorem dX8_addGrid_7 : decode cX8_addGrid 7 = .ok (.aload_n 0, 1) := by decide +kernel
theorem dX8_addGrid_8 : decode cX8_addGrid 8 = .ok (.iload_n 1, 1) := by decide +kernel
theorem dX8_addGrid_9 : decode cX8_addGrid 9 = .ok (.putfield 24, 3) := by decide +kernel
theorem dX8_addGrid_12 : decode cX8_addGrid 12 = .ok (.aload_n 0, 1) := by decide +kernel
theorem dX8_addGrid_13 : decode cX8_addGrid 13 = .ok (.iload_n 2, 1) := by decide +kernel
theorem dX8_addGrid_14 : decode cX8_addGrid 14 = .ok (.putfield 27, 3) := by decide +kernel
theorem dX8_addGrid_17 : decode cX8_addGrid 17 = .ok (.iconst 0, 1) := by decide +kernel
theorem dX8_addGrid_18 : decode cX8_addGrid 18 = .ok (.istore 4, 2) := by decide +kernel
theorem dX8_addGrid_20 : decode cX8_addGrid 20 = .ok (.iload 4, 2) := by decide +kernel
theorem dX8_addGrid_22 : decode cX8_addGrid 22 = .ok (.iload_n 2, 1) := by decide +kernel
theorem dX8_addGrid_23 : decode cX8_addGrid 23 = .ok (.if_icmp .ge 48, 3) := by decide +kernel
theorem dX8_addGrid_26 : decode cX8_addGrid 26 = .ok (.iconst 0, 1) := by decide +kernel
theorem dX8_addGrid_27 : decode cX8_addGrid 27 = .ok (.istore 5, 2) := by decide +kernel
theorem dX8_addGrid_29 : decode cX8_addGrid 29 = .ok (.iload 5, 2) := by decide +kernel
theorem dX8_addGrid_31 : decode cX8_addGrid 31 = .ok (.iconst 1, 1) := by decide +kernel
theorem dX8_addGrid_32 : decode cX8_addGrid 32 = .ok (.iadd, 1) := by decide +kernel
theorem dX8_addGrid_33 : decode cX8_addGrid 33 = .ok (.iload_n 1, 1) := by decide +kernel
theorem dX8_addGrid_34 : decode cX8_addGrid 34 = .ok (.if_icmp .ge 31, 3) := by decide +kernel
theorem dX8_addGrid_37 : decode cX8_addGrid 37 = .ok (.aload_n 0, 1) := by decide +kernel
theorem dX8_addGrid_38 : decode cX8_addGrid 38 = .ok (.iload_n 1, 1) := by decide +kernel
theorem dX8_addGrid_39 : decode cX8_addGrid 39 = .ok (.iload 4, 2) := by decide +kernel
theorem dX8_addGrid_41 : decode cX8_addGrid 41 = .ok (.imul, 1) := by decide +kernel
theorem dX8_addGrid_42 : decode cX8_addGrid 42 = .ok (.iload 5, 2) := by decide +kernel
theorem dX8_addGrid_44 : decode cX8_addGrid 44 = .ok (.iadd, 1) := by decide +kernel
theorem dX8_addGrid_45 : decode cX8_addGrid 45 = .ok (.iload_n 1, 1) := by decide +kernel
theorem dX8_addGrid_46 : decode cX8_addGrid 46 = .ok (.iload 4, 2) := by decide +kernel
theorem dX8_addGrid_48 : decode cX8_addGrid 48 = .ok (.imul, 1) := by decide +kernel
theorem dX8_addGrid_49 : decode cX8_addGrid 49 = .ok (.iload 5, 2) := by decide +kernel
theorem dX8_addGrid_51 : decode cX8_addGrid 51 = .ok (.iadd, 1) := by decide +kernel
theorem dX8_addGrid_52 : decode cX8_addGrid 52 = .ok (.iconst 1, 1) := by decide +kernel
theorem dX8_addGrid_53 : decode cX8_addGrid 53 = .ok (.iadd, 1) := by decide +kernel
theorem dX8_addGrid_54 : decode cX8_addGrid 54 = .ok (.iload_n 3, 1) := by decide +kernel
theorem dX8_addGrid_55 : decode cX8_addGrid 55 = .ok (.iconst (-1), 1) := by decide +kernel
theorem dX8_addGrid_56 : decode cX8_addGrid 56 = .ok (.invokevirtual 94, 3) := by decide +kernel
theorem dX8_addGrid_59 : decode cX8_addGrid 59 = .ok (.iinc 5 1, 3) := by decide +kernel
theorem dX8_addGrid_62 : decode cX8_addGrid 62 = .ok (.goto (-33), 3) := by decide +kernel
theorem dX8_addGrid_65 : decode cX8_addGrid 65 = .ok (.iinc 4 1, 3) := by decide +kernel
theorem dX8_addGrid_68 : decode cX8_addGrid 68 = .ok (.goto (-48), 3) := by decide +kernel
theorem dX8_addGrid_71 : decode cX8_addGrid 71 = .ok (.iconst 0, 1) := by decide +kernel
theorem dX8_addGrid_72 : decode cX8_addGrid 72 = .ok (.istore 4, 2) := by decide +kernel
theorem dX8_addGrid_74 : decode cX8_addGrid 74 = .ok (.iload 4, 2) := by decide +kernel
theorem dX8_addGrid_76 : decode cX8_addGrid 76 = .ok (.iload_n 1, 1) := by decide +kernel
theorem dX8_addGrid_77 : decode cX8_addGrid 77 = .ok (.if_icmp .ge 48, 3) := by decide +kernel
theorem dX8_addGrid_80 : decode cX8_addGrid 80 = .ok (.iconst 0, 1) := by decide +kernel
theorem dX8_addGrid_81 : decode cX8_addGrid 81 = .ok (.istore 5, 2) := by decide +kernel
theorem dX8_addGrid_83 : decode cX8_addGrid 83 = .ok (.iload 5, 2) := by decide +kernel
theorem dX8_addGrid_85 : decode cX8_addGrid 85 = .ok (.iconst 1, 1) := by decide +kernel
theorem dX8_addGrid_86 : decode cX8_addGrid 86 = .ok (.iadd, 1) := by decide +kernel
theorem dX8_addGrid_87 : decode cX8_addGrid 87 = .ok (.iload_n 2, 1) := by decide +kernel
theorem dX8_addGrid_88 : decode cX8_addGrid 88 = .ok (.if_icmp .ge 31, 3) := by decide +kernel
theorem dX8_addGrid_91 : decode cX8_addGrid 91 = .ok (.aload_n 0, 1) := by decide +kernel
theorem dX8_addGrid_92 : decode cX8_addGrid 92 = .ok (.iload_n 1, 1) := by decide +kernel
theorem dX8_addGrid_93 : decode cX8_addGrid 93 = .ok (.iload 5, 2) := by decide +kernel
theorem dX8_addGrid_95 : decode cX8_addGrid 95 = .ok (.imul, 1) := by decide +kernel
theorem dX8_addGrid_96 : decode cX8_addGrid 96 = .ok (.iload 4, 2) := by decide +kernel
theorem dX8_addGrid_98 : decode cX8_addGrid 98 = .ok (.iadd, 1) := by decide +kernel
theorem dX8_addGrid_99 : decode cX8_addGrid 99 = .ok (.iload_n 1, 1) := by decide +kernel
theorem dX8_addGrid_100 : decode cX8_addGrid 100 = .ok (.iload 5, 2) := by decide +kernel
theorem dX8_addGrid_102 : decode cX8_addGrid 102 = .ok (.iconst 1, 1) := by decide +kernel
theorem dX8_addGrid_103 : decode cX8_addGrid 103 = .ok (.iadd, 1) := by decide +kernel
theorem dX8_addGrid_104 : decode cX8_addGrid 104 = .ok (.imul, 1) := by decide +kernel
theorem dX8_addGrid_105 : decode cX8_addGrid 105 = .ok (.iload 4, 2) := by decide +kernel
theorem dX8_addGrid_107 : decode cX8_addGrid 107 = .ok (.iadd, 1) := by decide +kernel
theorem dX8_addGrid_108 : decode cX8_addGrid 108 = .ok (.iload_n 3, 1) := by decide +kernel
theorem dX8_addGrid_109 : decode cX8_addGrid 109 = .ok (.iconst (-1), 1) := by decide +kernel
theorem dX8_addGrid_110 : decode cX8_addGrid 110 = .ok (.invokevirtual 94, 3) := by decide +kernel
theorem dX8_addGrid_113 : decode cX8_addGrid 113 = .ok (.iinc 5 1, 3) := by decide +kernel
theorem dX8_addGrid_116 : decode cX8_addGrid 116 = .ok (.goto (-33), 3) := by decide +kernel
theorem dX8_addGrid_119 : decode cX8_addGrid 119 = .ok (.iinc 4 1, 3) := by decide +kernel
theorem dX8_addGrid_122 : decode cX8_addGrid 122 = .ok (.goto (-48), 3) := by decide +kernel
theorem dX8_addGrid_125 : decode cX8_addGrid 125 = .ok (.return_, 1) := by decide +kernel
theorem dX2_settle_0 : decode cX2_settle 0 = .ok (.aload_n 1, 1) := by decide +kernel
theorem dX2_settle_1 : decode cX2_settle 1 = .ok (.invokevirtual 30, 3) := by decide +kernel
theorem dX2_settle_4 : decode cX2_settle 4 = .ok (.aload_n 0, 1) := by decide +kernel
theorem dX2_settle_5 : decode cX2_settle 5 = .ok (.aload_n 1, 1) := by decide +kernel
theorem dX2_settle_6 : decode cX2_settle 6 = .ok (.aload_n 0, 1) := by decide +kernel
theorem dX2_settle_7 : decode cX2_settle 7 = .ok (.getfield 27, 3) := by decide +kernel
theorem dX2_settle_10 : decode cX2_settle 10 = .ok (.aload_n 1, 1) := by decide +kernel
theorem dX2_settle_11 : decode cX2_settle 11 = .ok (.getfield 35, 3) := by decide +kernel
theorem dX2_settle_14 : decode cX2_settle 14 = .ok (.invokevirtual 38, 3) := by decide +kernel
theorem dX2_settle_17 : decode cX2_settle 17 = .ok (.aload_n 1, 1) := by decide +kernel
theorem dX2_settle_18 : decode cX2_settle 18 = .ok (.iconst 0, 1) := by decide +kernel
theorem dX2_settle_19 : decode cX2_settle 19 = .ok (.putfield 42, 3) := by decide +kernel
theorem dX2_settle_22 : decode cX2_settle 22 = .ok (.iconst 0, 1) := by decide +kernel
theorem dX2_settle_23 : decode cX2_settle 23 = .ok (.istore_n 2, 1) := by decide +kernel
theorem dX2_settle_24 : decode cX2_settle 24 = .ok (.iload_n 2, 1) := by decide +kernel
theorem dX2_settle_25 : decode cX2_settle 25 = .ok (.aload_n 1, 1) := by decide +kernel
theorem dX2_settle_26 : decode cX2_settle 26 = .ok (.getfield 46, 3) := by decide +kernel
theorem dX2_settle_29 : decode cX2_settle 29 = .ok (.if_icmp .ge 48, 3) := by decide +kernel
theorem dX2_settle_32 : decode cX2_settle 32 = .ok (.aload_n 0, 1) := by decide +kernel
theorem dX2_settle_33 : decode cX2_settle 33 = .ok (.aload_n 1, 1) := by decide +kernel
theorem dX2_settle_34 : decode cX2_settle 34 = .ok (.aload_n 0, 1) := by decide +kernel
theorem dX2_settle_35 : decode cX2_settle 35 = .ok (.getfield 27, 3) := by decide +kernel
theorem dX2_settle_38 : decode cX2_settle 38 = .ok (.iload_n 2, 1) := by decide +kernel
theorem dX2_settle_39 : decode cX2_settle 39 = .ok (.invokevirtual 49, 3) := by decide +kernel
theorem dX2_settle_42 : decode cX2_settle 42 = .ok (.aload_n 0, 1) := by decide +kernel
theorem dX2_settle_43 : decode cX2_settle 43 = .ok (.aload_n 1, 1) := by decide +kernel
theorem dX2_settle_44 : decode cX2_settle 44 = .ok (.aload_n 0, 1) := by decide +kernel
theorem dX2_settle_45 : decode cX2_settle 45 = .ok (.getfield 21, 3) := by decide +kernel
theorem dX2_settle_48 : decode cX2_settle 48 = .ok (.iconst 0, 1) := by decide +kernel
theorem dX2_settle_49 : decode cX2_settle 49 = .ok (.invokevirtual 53, 3) := by decide +kernel
theorem dX2_settle_52 : decode cX2_settle 52 = .ok (.aload_n 1, 1) := by decide +kernel
theorem dX2_settle_53 : decode cX2_settle 53 = .ok (.invokevirtual 57, 3) := by decide +kernel
theorem dX2_settle_56 : decode cX2_settle 56 = .ok (.if_icmp .eq 15, 3) := by decide +kernel
theorem dX2_settle_71 : decode cX2_settle 71 = .ok (.iinc 2 1, 3) := by decide +kernel
theorem dX2_settle_74 : decode cX2_settle 74 = .ok (.goto (-50), 3) := by decide +kernel
theorem dX2_settle_59 : decode cX2_settle 59 = .ok (.aload_n 1, 1) := by decide +kernel
theorem dX2_settle_60 : decode cX2_settle 60 = .ok (.dup, 1) := by decide +kernel
theorem dX2_settle_61 : decode cX2_settle 61 = .ok (.getfield 42, 3) := by decide +kernel
theorem dX2_settle_64 : decode cX2_settle 64 = .ok (.iconst 1, 1) := by decide +kernel
theorem dX2_settle_65 : decode cX2_settle 65 = .ok (.iload_n 2, 1) := by decide +kernel
theorem dX2_settle_66 : decode cX2_settle 66 = .ok (.ishl, 1) := by decide +kernel
theorem dX2_settle_67 : decode cX2_settle 67 = .ok (.ior, 1) := by decide +kernel
theorem dX2_settle_68 : decode cX2_settle 68 = .ok (.putfield 42, 3) := by decide +kernel
theorem dX2_settle_77 : decode cX2_settle 77 = .ok (.return_, 1) := by decide +kernel
theorem dX0_endAsBest_0 : decode cX0_endAsBest 0 = .ok (.aload_n 0, 1) := by decide +kernel
theorem dX0_endAsBest_1 : decode cX0_endAsBest 1 = .ok (.aload_n 1, 1) := by decide +kernel
theorem dX0_endAsBest_2 : decode cX0_endAsBest 2 = .ok (.aload_n 2, 1) := by decide +kernel
theorem dX0_endAsBest_3 : decode cX0_endAsBest 3 = .ok (.invokevirtual 49, 3) := by decide +kernel
theorem dX0_endAsBest_6 : decode cX0_endAsBest 6 = .ok (.istore 4, 2) := by decide +kernel
theorem dX0_endAsBest_8 : decode cX0_endAsBest 8 = .ok (.ldc 53, 2) := by decide +kernel
theorem dX0_endAsBest_10 : decode cX0_endAsBest 10 = .ok (.istore 5, 2) := by decide +kernel
theorem dX0_endAsBest_12 : decode cX0_endAsBest 12 = .ok (.iconst (-1), 1) := by decide +kernel
theorem dX0_endAsBest_13 : decode cX0_endAsBest 13 = .ok (.istore 6, 2) := by decide +kernel
theorem dX0_endAsBest_15 : decode cX0_endAsBest 15 = .ok (.iconst 0, 1) := by decide +kernel
theorem dX0_endAsBest_16 : decode cX0_endAsBest 16 = .ok (.istore 7, 2) := by decide +kernel
theorem dX0_endAsBest_18 : decode cX0_endAsBest 18 = .ok (.iload 7, 2) := by decide +kernel
theorem dX0_endAsBest_20 : decode cX0_endAsBest 20 = .ok (.iconst 1, 1) := by decide +kernel
theorem dX0_endAsBest_21 : decode cX0_endAsBest 21 = .ok (.iload 4, 2) := by decide +kernel
theorem dX0_endAsBest_23 : decode cX0_endAsBest 23 = .ok (.ishl, 1) := by decide +kernel
theorem dX0_endAsBest_24 : decode cX0_endAsBest 24 = .ok (.if_icmp .ge 66, 3) := by decide +kernel
theorem dX0_endAsBest_27 : decode cX0_endAsBest 27 = .ok (.iload 5, 2) := by decide +kernel
theorem dX0_endAsBest_29 : decode cX0_endAsBest 29 = .ok (.ifCond .le 61, 3) := by decide +kernel
theorem dX0_endAsBest_32 : decode cX0_endAsBest 32 = .ok (.aload_n 0, 1) := by decide +kernel
theorem dX0_endAsBest_33 : decode cX0_endAsBest 33 = .ok (.aload_n 2, 1) := by decide +kernel
theorem dX0_endAsBest_34 : decode cX0_endAsBest 34 = .ok (.iload 4, 2) := by decide +kernel
theorem dX0_endAsBest_36 : decode cX0_endAsBest 36 = .ok (.iload 7, 2) := by decide +kernel
theorem dX0_endAsBest_38 : decode cX0_endAsBest 38 = .ok (.invokevirtual 54, 3) := by decide +kernel
theorem dX0_endAsBest_41 : decode cX0_endAsBest 41 = .ok (.aload_n 0, 1) := by decide +kernel
theorem dX0_endAsBest_42 : decode cX0_endAsBest 42 = .ok (.getfield 15, 3) := by decide +kernel
theorem dX0_endAsBest_45 : decode cX0_endAsBest 45 = .ok (.aload_n 1, 1) := by decide +kernel
theorem dX0_endAsBest_46 : decode cX0_endAsBest 46 = .ok (.aload_n 2, 1) := by decide +kernel
theorem dX0_endAsBest_47 : decode cX0_endAsBest 47 = .ok (.invokevirtual 29, 3) := by decide +kernel
theorem dX0_endAsBest_50 : decode cX0_endAsBest 50 = .ok (.ifCond .eq 15, 3) := by decide +kernel
theorem dX0_endAsBest_65 : decode cX0_endAsBest 65 = .ok (.ldc 53, 2) := by decide +kernel
theorem dX0_endAsBest_67 : decode cX0_endAsBest 67 = .ok (.istore 8, 2) := by decide +kernel
theorem dX0_endAsBest_69 : decode cX0_endAsBest 69 = .ok (.iload 8, 2) := by decide +kernel
theorem dX0_endAsBest_71 : decode cX0_endAsBest 71 = .ok (.iload 5, 2) := by decide +kernel
theorem dX0_endAsBest_73 : decode cX0_endAsBest 73 = .ok (.if_icmp .ge 11, 3) := by decide +kernel
theorem dX0_endAsBest_84 : decode cX0_endAsBest 84 = .ok (.iinc 7 1, 3) := by decide +kernel
theorem dX0_endAsBest_87 : decode cX0_endAsBest 87 = .ok (.goto (-69), 3) := by decide +kernel
theorem dX0_endAsBest_53 : decode cX0_endAsBest 53 = .ok (.aload_n 0, 1) := by decide +kernel
theorem dX0_endAsBest_54 : decode cX0_endAsBest 54 = .ok (.aload_n 1, 1) := by decide +kernel
theorem dX0_endAsBest_55 : decode cX0_endAsBest 55 = .ok (.aload_n 2, 1) := by decide +kernel
theorem dX0_endAsBest_56 : decode cX0_endAsBest 56 = .ok (.iload_n 3, 1) := by decide +kernel
theorem dX0_endAsBest_57 : decode cX0_endAsBest 57 = .ok (.iload 5, 2) := by decide +kernel
theorem dX0_endAsBest_59 : decode cX0_endAsBest 59 = .ok (.invokevirtual 58, 3) := by decide +kernel
theorem dX0_endAsBest_62 : decode cX0_endAsBest 62 = .ok (.goto 5, 3) := by decide +kernel
theorem dX0_endAsBest_76 : decode cX0_endAsBest 76 = .ok (.iload 8, 2) := by decide +kernel
theorem dX0_endAsBest_78 : decode cX0_endAsBest 78 = .ok (.istore 5, 2) := by decide +kernel
theorem dX0_endAsBest_80 : decode cX0_endAsBest 80 = .ok (.iload 7, 2) := by decide +kernel
theorem dX0_endAsBest_82 : decode cX0_endAsBest 82 = .ok (.istore 6, 2) := by decide +kernel
theorem dX0_endAsBest_90 : decode cX0_endAsBest 90 = .ok (.iload 6, 2) := by decide +kernel
theorem dX0_endAsBest_92 : decode cX0_endAsBest 92 = .ok (.iconst (-1), 1) := by decide +kernel
theorem dX0_endAsBest_93 : decode cX0_endAsBest 93 = .ok (.if_icmp .ne 31, 3) := by decide +kernel
theorem dX0_endAsBest_124 : decode cX0_endAsBest 124 = .ok (.aload_n 0, 1) := by decide +kernel
theorem dX0_endAsBest_125 : decode cX0_endAsBest 125 = .ok (.aload_n 2, 1) := by decide +kernel
theorem dX0_endAsBest_126 : decode cX0_endAsBest 126 = .ok (.iload 4, 2) := by decide +kernel
theorem dX0_endAsBest_128 : decode cX0_endAsBest 128 = .ok (.iload 6, 2) := by decide +kernel
theorem dX0_endAsBest_130 : decode cX0_endAsBest 130 = .ok (.invokevirtual 54, 3) := by decide +kernel
theorem dX0_endAsBest_133 : decode cX0_endAsBest 133 = .ok (.iload 5, 2) := by decide +kernel
theorem dX0_endAsBest_135 : decode cX0_endAsBest 135 = .ok (.ireturn, 1) := by decide +kernel
theorem dX0_endAsBest_96 : decode cX0_endAsBest 96 = .ok (.iconst 0, 1) := by decide +kernel
theorem dX0_endAsBest_97 : decode cX0_endAsBest 97 = .ok (.istore 7, 2) := by decide +kernel
theorem dX0_endAsBest_99 : decode cX0_endAsBest 99 = .ok (.iload 7, 2) := by decide +kernel
theorem dX0_endAsBest_101 : decode cX0_endAsBest 101 = .ok (.iload 4, 2) := by decide +kernel
theorem dX0_endAsBest_103 : decode cX0_endAsBest 103 = .ok (.if_icmp .ge 19, 3) := by decide +kernel
theorem dX0_endAsBest_106 : decode cX0_endAsBest 106 = .ok (.aload_n 2, 1) := by decide +kernel
theorem dX0_endAsBest_107 : decode cX0_endAsBest 107 = .ok (.aload_n 0, 1) := by decide +kernel
theorem dX0_endAsBest_108 : decode cX0_endAsBest 108 = .ok (.getfield 9, 3) := by decide +kernel
theorem dX0_endAsBest_111 : decode cX0_endAsBest 111 = .ok (.iload 7, 2) := by decide +kernel
theorem dX0_endAsBest_113 : decode cX0_endAsBest 113 = .ok (.iaload, 1) := by decide +kernel
theorem dX0_endAsBest_114 : decode cX0_endAsBest 114 = .ok (.iconst 0, 1) := by decide +kernel
theorem dX0_endAsBest_115 : decode cX0_endAsBest 115 = .ok (.iastore, 1) := by decide +kernel
theorem dX0_endAsBest_116 : decode cX0_endAsBest 116 = .ok (.iinc 7 1, 3) := by decide +kernel
theorem dX0_endAsBest_119 : decode cX0_endAsBest 119 = .ok (.goto (-20), 3) := by decide +kernel
theorem dX0_endAsBest_122 : decode cX0_endAsBest 122 = .ok (.iconst (-1), 1) := by decide +kernel
theorem dX0_endAsBest_123 : decode cX0_endAsBest 123 = .ok (.ireturn, 1) := by decide +kernel
theorem dX10_bestAfternoon_0 : decode cX10_bestAfternoon 0 = .ok (.aload_n 0, 1) := by decide +kernel
theorem dX10_bestAfternoon_1 : decode cX10_bestAfternoon 1 = .ok (.aload_n 1, 1) := by decide +kernel
theorem dX10_bestAfternoon_2 : decode cX10_bestAfternoon 2 = .ok (.aload_n 2, 1) := by decide +kernel
theorem dX10_bestAfternoon_3 : decode cX10_bestAfternoon 3 = .ok (.invokevirtual 35, 3) := by decide +kernel
theorem dX10_bestAfternoon_6 : decode cX10_bestAfternoon 6 = .ok (.istore 4, 2) := by decide +kernel
theorem dX10_bestAfternoon_8 : decode cX10_bestAfternoon 8 = .ok (.aload_n 0, 1) := by decide +kernel
theorem dX10_bestAfternoon_9 : decode cX10_bestAfternoon 9 = .ok (.getfield 9, 3) := by decide +kernel
theorem dX10_bestAfternoon_12 : decode cX10_bestAfternoon 12 = .ok (.aload_n 1, 1) := by decide +kernel
theorem dX10_bestAfternoon_13 : decode cX10_bestAfternoon 13 = .ok (.aload_n 2, 1) := by decide +kernel
theorem dX10_bestAfternoon_14 : decode cX10_bestAfternoon 14 = .ok (.iconst 1, 1) := by decide +kernel
theorem dX10_bestAfternoon_15 : decode cX10_bestAfternoon 15 = .ok (.ldc 28, 2) := by decide +kernel
theorem dX10_bestAfternoon_17 : decode cX10_bestAfternoon 17 = .ok (.invokevirtual 29, 3) := by decide +kernel
theorem dX10_bestAfternoon_20 : decode cX10_bestAfternoon 20 = .ok (.istore 5, 2) := by decide +kernel
theorem dX10_bestAfternoon_22 : decode cX10_bestAfternoon 22 = .ok (.iconst 0, 1) := by decide +kernel
theorem dX10_bestAfternoon_23 : decode cX10_bestAfternoon 23 = .ok (.istore 6, 2) := by decide +kernel
theorem dX10_bestAfternoon_25 : decode cX10_bestAfternoon 25 = .ok (.iconst 0, 1) := by decide +kernel
theorem dX10_bestAfternoon_26 : decode cX10_bestAfternoon 26 = .ok (.istore 7, 2) := by decide +kernel
theorem dX10_bestAfternoon_28 : decode cX10_bestAfternoon 28 = .ok (.iload 7, 2) := by decide +kernel
theorem dX10_bestAfternoon_30 : decode cX10_bestAfternoon 30 = .ok (.aload_n 1, 1) := by decide +kernel
theorem dX10_bestAfternoon_31 : decode cX10_bestAfternoon 31 = .ok (.getfield 15, 3) := by decide +kernel
theorem dX10_bestAfternoon_34 : decode cX10_bestAfternoon 34 = .ok (.if_icmp .ge 60, 3) := by decide +kernel
theorem dX10_bestAfternoon_37 : decode cX10_bestAfternoon 37 = .ok (.iload_n 3, 1) := by decide +kernel
theorem dX10_bestAfternoon_38 : decode cX10_bestAfternoon 38 = .ok (.iconst 1, 1) := by decide +kernel
theorem dX10_bestAfternoon_39 : decode cX10_bestAfternoon 39 = .ok (.if_icmp .lt 55, 3) := by decide +kernel
theorem dX10_bestAfternoon_42 : decode cX10_bestAfternoon 42 = .ok (.iconst 1, 1) := by decide +kernel
theorem dX10_bestAfternoon_43 : decode cX10_bestAfternoon 43 = .ok (.iload 7, 2) := by decide +kernel
theorem dX10_bestAfternoon_45 : decode cX10_bestAfternoon 45 = .ok (.ishl, 1) := by decide +kernel
theorem dX10_bestAfternoon_46 : decode cX10_bestAfternoon 46 = .ok (.istore 8, 2) := by decide +kernel
theorem dX10_bestAfternoon_48 : decode cX10_bestAfternoon 48 = .ok (.iload 4, 2) := by decide +kernel
theorem dX10_bestAfternoon_50 : decode cX10_bestAfternoon 50 = .ok (.iload 8, 2) := by decide +kernel
theorem dX10_bestAfternoon_52 : decode cX10_bestAfternoon 52 = .ok (.iand, 1) := by decide +kernel
theorem dX10_bestAfternoon_53 : decode cX10_bestAfternoon 53 = .ok (.ifCond .ne 8, 3) := by decide +kernel
theorem dX10_bestAfternoon_61 : decode cX10_bestAfternoon 61 = .ok (.aload_n 0, 1) := by decide +kernel
theorem dX10_bestAfternoon_62 : decode cX10_bestAfternoon 62 = .ok (.aload_n 1, 1) := by decide +kernel
theorem dX10_bestAfternoon_63 : decode cX10_bestAfternoon 63 = .ok (.aload_n 2, 1) := by decide +kernel
theorem dX10_bestAfternoon_64 : decode cX10_bestAfternoon 64 = .ok (.iload 8, 2) := by decide +kernel
theorem dX10_bestAfternoon_66 : decode cX10_bestAfternoon 66 = .ok (.iload 5, 2) := by decide +kernel
theorem dX10_bestAfternoon_68 : decode cX10_bestAfternoon 68 = .ok (.invokevirtual 65, 3) := by decide +kernel
theorem dX10_bestAfternoon_71 : decode cX10_bestAfternoon 71 = .ok (.istore 9, 2) := by decide +kernel
theorem dX10_bestAfternoon_73 : decode cX10_bestAfternoon 73 = .ok (.iload 9, 2) := by decide +kernel
theorem dX10_bestAfternoon_75 : decode cX10_bestAfternoon 75 = .ok (.iload 5, 2) := by decide +kernel
theorem dX10_bestAfternoon_77 : decode cX10_bestAfternoon 77 = .ok (.if_icmp .ge 11, 3) := by decide +kernel
theorem dX10_bestAfternoon_88 : decode cX10_bestAfternoon 88 = .ok (.iinc 7 1, 3) := by decide +kernel
theorem dX10_bestAfternoon_91 : decode cX10_bestAfternoon 91 = .ok (.goto (-63), 3) := by decide +kernel
theorem dX10_bestAfternoon_80 : decode cX10_bestAfternoon 80 = .ok (.iload 9, 2) := by decide +kernel
theorem dX10_bestAfternoon_82 : decode cX10_bestAfternoon 82 = .ok (.istore 5, 2) := by decide +kernel
theorem dX10_bestAfternoon_84 : decode cX10_bestAfternoon 84 = .ok (.iload 8, 2) := by decide +kernel
theorem dX10_bestAfternoon_86 : decode cX10_bestAfternoon 86 = .ok (.istore 6, 2) := by decide +kernel
theorem dX10_bestAfternoon_56 : decode cX10_bestAfternoon 56 = .ok (.iload 5, 2) := by decide +kernel
theorem dX10_bestAfternoon_58 : decode cX10_bestAfternoon 58 = .ok (.goto 13, 3) := by decide +kernel
theorem dX10_bestAfternoon_94 : decode cX10_bestAfternoon 94 = .ok (.iconst 0, 1) := by decide +kernel
theorem dX10_bestAfternoon_95 : decode cX10_bestAfternoon 95 = .ok (.istore 7, 2) := by decide +kernel
theorem dX10_bestAfternoon_97 : decode cX10_bestAfternoon 97 = .ok (.iload 7, 2) := by decide +kernel
theorem dX10_bestAfternoon_99 : decode cX10_bestAfternoon 99 = .ok (.aload_n 1, 1) := by decide +kernel
theorem dX10_bestAfternoon_100 : decode cX10_bestAfternoon 100 = .ok (.getfield 15, 3) := by decide +kernel
theorem dX10_bestAfternoon_103 : decode cX10_bestAfternoon 103 = .ok (.if_icmp .ge 88, 3) := by decide +kernel
theorem dX10_bestAfternoon_106 : decode cX10_bestAfternoon 106 = .ok (.iload_n 3, 1) := by decide +kernel
theorem dX10_bestAfternoon_107 : decode cX10_bestAfternoon 107 = .ok (.iconst 2, 1) := by decide +kernel
theorem dX10_bestAfternoon_108 : decode cX10_bestAfternoon 108 = .ok (.if_icmp .lt 83, 3) := by decide +kernel
theorem dX10_bestAfternoon_111 : decode cX10_bestAfternoon 111 = .ok (.iload 7, 2) := by decide +kernel
theorem dX10_bestAfternoon_113 : decode cX10_bestAfternoon 113 = .ok (.iconst 1, 1) := by decide +kernel
theorem dX10_bestAfternoon_114 : decode cX10_bestAfternoon 114 = .ok (.iadd, 1) := by decide +kernel
theorem dX10_bestAfternoon_115 : decode cX10_bestAfternoon 115 = .ok (.istore 8, 2) := by decide +kernel
theorem dX10_bestAfternoon_117 : decode cX10_bestAfternoon 117 = .ok (.iload 8, 2) := by decide +kernel
theorem dX10_bestAfternoon_119 : decode cX10_bestAfternoon 119 = .ok (.aload_n 1, 1) := by decide +kernel
theorem dX10_bestAfternoon_120 : decode cX10_bestAfternoon 120 = .ok (.getfield 15, 3) := by decide +kernel
theorem dX10_bestAfternoon_123 : decode cX10_bestAfternoon 123 = .ok (.if_icmp .ge 62, 3) := by decide +kernel
theorem dX10_bestAfternoon_126 : decode cX10_bestAfternoon 126 = .ok (.iconst 1, 1) := by decide +kernel
theorem dX10_bestAfternoon_127 : decode cX10_bestAfternoon 127 = .ok (.iload 7, 2) := by decide +kernel
theorem dX10_bestAfternoon_129 : decode cX10_bestAfternoon 129 = .ok (.ishl, 1) := by decide +kernel
theorem dX10_bestAfternoon_130 : decode cX10_bestAfternoon 130 = .ok (.iconst 1, 1) := by decide +kernel
theorem dX10_bestAfternoon_131 : decode cX10_bestAfternoon 131 = .ok (.iload 8, 2) := by decide +kernel
theorem dX10_bestAfternoon_133 : decode cX10_bestAfternoon 133 = .ok (.ishl, 1) := by decide +kernel
theorem dX10_bestAfternoon_134 : decode cX10_bestAfternoon 134 = .ok (.ior, 1) := by decide +kernel
theorem dX10_bestAfternoon_135 : decode cX10_bestAfternoon 135 = .ok (.istore 9, 2) := by decide +kernel
theorem dX10_bestAfternoon_137 : decode cX10_bestAfternoon 137 = .ok (.iload 4, 2) := by decide +kernel
theorem dX10_bestAfternoon_139 : decode cX10_bestAfternoon 139 = .ok (.iload 9, 2) := by decide +kernel
theorem dX10_bestAfternoon_141 : decode cX10_bestAfternoon 141 = .ok (.iand, 1) := by decide +kernel
theorem dX10_bestAfternoon_142 : decode cX10_bestAfternoon 142 = .ok (.iload 9, 2) := by decide +kernel
theorem dX10_bestAfternoon_144 : decode cX10_bestAfternoon 144 = .ok (.if_icmp .eq 8, 3) := by decide +kernel
theorem dX10_bestAfternoon_152 : decode cX10_bestAfternoon 152 = .ok (.aload_n 0, 1) := by decide +kernel
theorem dX10_bestAfternoon_153 : decode cX10_bestAfternoon 153 = .ok (.aload_n 1, 1) := by decide +kernel
theorem dX10_bestAfternoon_154 : decode cX10_bestAfternoon 154 = .ok (.aload_n 2, 1) := by decide +kernel
theorem dX10_bestAfternoon_155 : decode cX10_bestAfternoon 155 = .ok (.iload 9, 2) := by decide +kernel
theorem dX10_bestAfternoon_157 : decode cX10_bestAfternoon 157 = .ok (.iload 5, 2) := by decide +kernel
theorem dX10_bestAfternoon_159 : decode cX10_bestAfternoon 159 = .ok (.invokevirtual 65, 3) := by decide +kernel
theorem dX10_bestAfternoon_162 : decode cX10_bestAfternoon 162 = .ok (.istore 10, 2) := by decide +kernel
theorem dX10_bestAfternoon_164 : decode cX10_bestAfternoon 164 = .ok (.iload 10, 2) := by decide +kernel
theorem dX10_bestAfternoon_166 : decode cX10_bestAfternoon 166 = .ok (.iload 5, 2) := by decide +kernel
theorem dX10_bestAfternoon_168 : decode cX10_bestAfternoon 168 = .ok (.if_icmp .ge 11, 3) := by decide +kernel
theorem dX10_bestAfternoon_179 : decode cX10_bestAfternoon 179 = .ok (.iinc 8 1, 3) := by decide +kernel
theorem dX10_bestAfternoon_182 : decode cX10_bestAfternoon 182 = .ok (.goto (-65), 3) := by decide +kernel
theorem dX10_bestAfternoon_171 : decode cX10_bestAfternoon 171 = .ok (.iload 10, 2) := by decide +kernel
theorem dX10_bestAfternoon_173 : decode cX10_bestAfternoon 173 = .ok (.istore 5, 2) := by decide +kernel
theorem dX10_bestAfternoon_175 : decode cX10_bestAfternoon 175 = .ok (.iload 9, 2) := by decide +kernel
theorem dX10_bestAfternoon_177 : decode cX10_bestAfternoon 177 = .ok (.istore 6, 2) := by decide +kernel
theorem dX10_bestAfternoon_147 : decode cX10_bestAfternoon 147 = .ok (.iload 5, 2) := by decide +kernel
theorem dX10_bestAfternoon_149 : decode cX10_bestAfternoon 149 = .ok (.goto 13, 3) := by decide +kernel
theorem dX10_bestAfternoon_185 : decode cX10_bestAfternoon 185 = .ok (.iinc 7 1, 3) := by decide +kernel
theorem dX10_bestAfternoon_188 : decode cX10_bestAfternoon 188 = .ok (.goto (-91), 3) := by decide +kernel
theorem dX10_bestAfternoon_191 : decode cX10_bestAfternoon 191 = .ok (.iload 6, 2) := by decide +kernel
theorem dX10_bestAfternoon_193 : decode cX10_bestAfternoon 193 = .ok (.ireturn, 1) := by decide +kernel
theorem dX3_isAhead_0 : decode cX3_isAhead 0 = .ok (.aload_n 0, 1) := by decide +kernel
theorem dX3_isAhead_1 : decode cX3_isAhead 1 = .ok (.getfield 21, 3) := by decide +kernel
theorem dX3_isAhead_4 : decode cX3_isAhead 4 = .ok (.iload_n 1, 1) := by decide +kernel
theorem dX3_isAhead_5 : decode cX3_isAhead 5 = .ok (.iaload, 1) := by decide +kernel
theorem dX3_isAhead_6 : decode cX3_isAhead 6 = .ok (.aload_n 0, 1) := by decide +kernel
theorem dX3_isAhead_7 : decode cX3_isAhead 7 = .ok (.getfield 21, 3) := by decide +kernel
theorem dX3_isAhead_10 : decode cX3_isAhead 10 = .ok (.iload_n 2, 1) := by decide +kernel
theorem dX3_isAhead_11 : decode cX3_isAhead 11 = .ok (.iaload, 1) := by decide +kernel
theorem dX3_isAhead_12 : decode cX3_isAhead 12 = .ok (.if_icmp .eq 24, 3) := by decide +kernel
theorem dX3_isAhead_36 : decode cX3_isAhead 36 = .ok (.aload_n 0, 1) := by decide +kernel
theorem dX3_isAhead_37 : decode cX3_isAhead 37 = .ok (.getfield 18, 3) := by decide +kernel
theorem dX3_isAhead_40 : decode cX3_isAhead 40 = .ok (.iload_n 1, 1) := by decide +kernel
theorem dX3_isAhead_41 : decode cX3_isAhead 41 = .ok (.iaload, 1) := by decide +kernel
theorem dX3_isAhead_42 : decode cX3_isAhead 42 = .ok (.aload_n 0, 1) := by decide +kernel
theorem dX3_isAhead_43 : decode cX3_isAhead 43 = .ok (.getfield 18, 3) := by decide +kernel
theorem dX3_isAhead_46 : decode cX3_isAhead 46 = .ok (.iload_n 2, 1) := by decide +kernel
theorem dX3_isAhead_47 : decode cX3_isAhead 47 = .ok (.iaload, 1) := by decide +kernel
theorem dX3_isAhead_48 : decode cX3_isAhead 48 = .ok (.if_icmp .eq 24, 3) := by decide +kernel
theorem dX3_isAhead_72 : decode cX3_isAhead 72 = .ok (.iload_n 1, 1) := by decide +kernel
theorem dX3_isAhead_73 : decode cX3_isAhead 73 = .ok (.iload_n 2, 1) := by decide +kernel
theorem dX3_isAhead_74 : decode cX3_isAhead 74 = .ok (.invokestatic 74, 3) := by decide +kernel
theorem dX3_isAhead_77 : decode cX3_isAhead 77 = .ok (.ireturn, 1) := by decide +kernel
theorem dX3_isAhead_51 : decode cX3_isAhead 51 = .ok (.aload_n 0, 1) := by decide +kernel
theorem dX3_isAhead_52 : decode cX3_isAhead 52 = .ok (.getfield 18, 3) := by decide +kernel
theorem dX3_isAhead_55 : decode cX3_isAhead 55 = .ok (.iload_n 1, 1) := by decide +kernel
theorem dX3_isAhead_56 : decode cX3_isAhead 56 = .ok (.iaload, 1) := by decide +kernel
theorem dX3_isAhead_57 : decode cX3_isAhead 57 = .ok (.aload_n 0, 1) := by decide +kernel
theorem dX3_isAhead_58 : decode cX3_isAhead 58 = .ok (.getfield 18, 3) := by decide +kernel
theorem dX3_isAhead_61 : decode cX3_isAhead 61 = .ok (.iload_n 2, 1) := by decide +kernel
theorem dX3_isAhead_62 : decode cX3_isAhead 62 = .ok (.iaload, 1) := by decide +kernel
theorem dX3_isAhead_63 : decode cX3_isAhead 63 = .ok (.if_icmp .ge 7, 3) := by decide +kernel
theorem dX3_isAhead_70 : decode cX3_isAhead 70 = .ok (.iconst 0, 1) := by decide +kernel
theorem dX3_isAhead_71 : decode cX3_isAhead 71 = .ok (.ireturn, 1) := by decide +kernel
theorem dX3_isAhead_66 : decode cX3_isAhead 66 = .ok (.iconst 1, 1) := by decide +kernel
theorem dX3_isAhead_67 : decode cX3_isAhead 67 = .ok (.goto 4, 3) := by decide +kernel
theorem dX3_isAhead_15 : decode cX3_isAhead 15 = .ok (.aload_n 0, 1) := by decide +kernel
theorem dX3_isAhead_16 : decode cX3_isAhead 16 = .ok (.getfield 21, 3) := by decide +kernel
theorem dX3_isAhead_19 : decode cX3_isAhead 19 = .ok (.iload_n 1, 1) := by decide +kernel
theorem dX3_isAhead_20 : decode cX3_isAhead 20 = .ok (.iaload, 1) := by decide +kernel
theorem dX3_isAhead_21 : decode cX3_isAhead 21 = .ok (.aload_n 0, 1) := by decide +kernel
theorem dX3_isAhead_22 : decode cX3_isAhead 22 = .ok (.getfield 21, 3) := by decide +kernel
theorem dX3_isAhead_25 : decode cX3_isAhead 25 = .ok (.iload_n 2, 1) := by decide +kernel
theorem dX3_isAhead_26 : decode cX3_isAhead 26 = .ok (.iaload, 1) := by decide +kernel
theorem dX3_isAhead_27 : decode cX3_isAhead 27 = .ok (.if_icmp .ge 7, 3) := by decide +kernel
theorem dX3_isAhead_34 : decode cX3_isAhead 34 = .ok (.iconst 0, 1) := by decide +kernel
theorem dX3_isAhead_35 : decode cX3_isAhead 35 = .ok (.ireturn, 1) := by decide +kernel
theorem dX3_isAhead_30 : decode cX3_isAhead 30 = .ok (.iconst 1, 1) := by decide +kernel
theorem dX3_isAhead_31 : decode cX3_isAhead 31 = .ok (.goto 4, 3) := by decide +kernel
theorem dX3_listPayable_0 : decode cX3_listPayable 0 = .ok (.iconst 0, 1) := by decide +kernel
theorem dX3_listPayable_1 : decode cX3_listPayable 1 = .ok (.istore_n 3, 1) := by decide +kernel
theorem dX3_listPayable_2 : decode cX3_listPayable 2 = .ok (.iconst 0, 1) := by decide +kernel
theorem dX3_listPayable_3 : decode cX3_listPayable 3 = .ok (.istore 4, 2) := by decide +kernel
theorem dX3_listPayable_5 : decode cX3_listPayable 5 = .ok (.iload 4, 2) := by decide +kernel
theorem dX3_listPayable_7 : decode cX3_listPayable 7 = .ok (.aload_n 1, 1) := by decide +kernel
theorem dX3_listPayable_8 : decode cX3_listPayable 8 = .ok (.getfield 51, 3) := by decide +kernel
theorem dX3_listPayable_11 : decode cX3_listPayable 11 = .ok (.if_icmp .ge 84, 3) := by decide +kernel
theorem dX3_listPayable_14 : decode cX3_listPayable 14 = .ok (.iload_n 3, 1) := by decide +kernel
theorem dX3_listPayable_15 : decode cX3_listPayable 15 = .ok (.bipush 9, 2) := by decide +kernel
theorem dX3_listPayable_17 : decode cX3_listPayable 17 = .ok (.if_icmp .ge 78, 3) := by decide +kernel
theorem dX3_listPayable_20 : decode cX3_listPayable 20 = .ok (.aload_n 2, 1) := by decide +kernel
theorem dX3_listPayable_21 : decode cX3_listPayable 21 = .ok (.iload 4, 2) := by decide +kernel
theorem dX3_listPayable_23 : decode cX3_listPayable 23 = .ok (.iaload, 1) := by decide +kernel
theorem dX3_listPayable_24 : decode cX3_listPayable 24 = .ok (.iconst 1, 1) := by decide +kernel
theorem dX3_listPayable_25 : decode cX3_listPayable 25 = .ok (.if_icmp .eq 11, 3) := by decide +kernel
theorem dX3_listPayable_36 : decode cX3_listPayable 36 = .ok (.iconst 1, 1) := by decide +kernel
theorem dX3_listPayable_37 : decode cX3_listPayable 37 = .ok (.goto 4, 3) := by decide +kernel
theorem dX3_listPayable_41 : decode cX3_listPayable 41 = .ok (.istore 5, 2) := by decide +kernel
theorem dX3_listPayable_43 : decode cX3_listPayable 43 = .ok (.iload 5, 2) := by decide +kernel
theorem dX3_listPayable_45 : decode cX3_listPayable 45 = .ok (.ifCond .eq 44, 3) := by decide +kernel
theorem dX3_listPayable_48 : decode cX3_listPayable 48 = .ok (.aload_n 1, 1) := by decide +kernel
theorem dX3_listPayable_49 : decode cX3_listPayable 49 = .ok (.getfield 57, 3) := by decide +kernel
theorem dX3_listPayable_52 : decode cX3_listPayable 52 = .ok (.iload 4, 2) := by decide +kernel
theorem dX3_listPayable_54 : decode cX3_listPayable 54 = .ok (.iaload, 1) := by decide +kernel
theorem dX3_listPayable_55 : decode cX3_listPayable 55 = .ok (.iconst (-1), 1) := by decide +kernel
theorem dX3_listPayable_56 : decode cX3_listPayable 56 = .ok (.if_icmp .eq 33, 3) := by decide +kernel
theorem dX3_listPayable_89 : decode cX3_listPayable 89 = .ok (.iinc 4 1, 3) := by decide +kernel
theorem dX3_listPayable_92 : decode cX3_listPayable 92 = .ok (.goto (-87), 3) := by decide +kernel
theorem dX3_listPayable_59 : decode cX3_listPayable 59 = .ok (.aload_n 1, 1) := by decide +kernel
theorem dX3_listPayable_60 : decode cX3_listPayable 60 = .ok (.iload 4, 2) := by decide +kernel
theorem dX3_listPayable_62 : decode cX3_listPayable 62 = .ok (.invokevirtual 60, 3) := by decide +kernel
theorem dX3_listPayable_65 : decode cX3_listPayable 65 = .ok (.ifCond .ne 24, 3) := by decide +kernel
theorem dX3_listPayable_68 : decode cX3_listPayable 68 = .ok (.aload_n 0, 1) := by decide +kernel
theorem dX3_listPayable_69 : decode cX3_listPayable 69 = .ok (.getfield 9, 3) := by decide +kernel
theorem dX3_listPayable_72 : decode cX3_listPayable 72 = .ok (.iload_n 3, 1) := by decide +kernel
theorem dX3_listPayable_73 : decode cX3_listPayable 73 = .ok (.iload 4, 2) := by decide +kernel
theorem dX3_listPayable_75 : decode cX3_listPayable 75 = .ok (.iastore, 1) := by decide +kernel
theorem dX3_listPayable_76 : decode cX3_listPayable 76 = .ok (.aload_n 0, 1) := by decide +kernel
theorem dX3_listPayable_77 : decode cX3_listPayable 77 = .ok (.getfield 15, 3) := by decide +kernel
theorem dX3_listPayable_80 : decode cX3_listPayable 80 = .ok (.iload_n 3, 1) := by decide +kernel
theorem dX3_listPayable_81 : decode cX3_listPayable 81 = .ok (.aload_n 2, 1) := by decide +kernel
theorem dX3_listPayable_82 : decode cX3_listPayable 82 = .ok (.iload 4, 2) := by decide +kernel
theorem dX3_listPayable_84 : decode cX3_listPayable 84 = .ok (.iaload, 1) := by decide +kernel
theorem dX3_listPayable_85 : decode cX3_listPayable 85 = .ok (.iastore, 1) := by decide +kernel
theorem dX3_listPayable_86 : decode cX3_listPayable 86 = .ok (.iinc 3 1, 3) := by decide +kernel
theorem dX3_listPayable_28 : decode cX3_listPayable 28 = .ok (.aload_n 2, 1) := by decide +kernel
theorem dX3_listPayable_29 : decode cX3_listPayable 29 = .ok (.iload 4, 2) := by decide +kernel
theorem dX3_listPayable_31 : decode cX3_listPayable 31 = .ok (.iaload, 1) := by decide +kernel
theorem dX3_listPayable_32 : decode cX3_listPayable 32 = .ok (.iconst 2, 1) := by decide +kernel
theorem dX3_listPayable_33 : decode cX3_listPayable 33 = .ok (.if_icmp .ne 7, 3) := by decide +kernel
theorem dX3_listPayable_40 : decode cX3_listPayable 40 = .ok (.iconst 0, 1) := by decide +kernel
theorem dX3_listPayable_95 : decode cX3_listPayable 95 = .ok (.iload_n 3, 1) := by decide +kernel
theorem dX3_listPayable_96 : decode cX3_listPayable 96 = .ok (.ireturn, 1) := by decide +kernel
theorem dX3_spend_0 : decode cX3_spend 0 = .ok (.aload_n 0, 1) := by decide +kernel
theorem dX3_spend_1 : decode cX3_spend 1 = .ok (.aload_n 1, 1) := by decide +kernel
theorem dX3_spend_2 : decode cX3_spend 2 = .ok (.aload_n 2, 1) := by decide +kernel
theorem dX3_spend_3 : decode cX3_spend 3 = .ok (.invokevirtual 28, 3) := by decide +kernel
theorem dX3_spend_6 : decode cX3_spend 6 = .ok (.istore 4, 2) := by decide +kernel
theorem dX3_spend_8 : decode cX3_spend 8 = .ok (.aload_n 0, 1) := by decide +kernel
theorem dX3_spend_9 : decode cX3_spend 9 = .ok (.aload_n 1, 1) := by decide +kernel
theorem dX3_spend_10 : decode cX3_spend 10 = .ok (.aload_n 2, 1) := by decide +kernel
theorem dX3_spend_11 : decode cX3_spend 11 = .ok (.iload 4, 2) := by decide +kernel
theorem dX3_spend_13 : decode cX3_spend 13 = .ok (.iload_n 3, 1) := by decide +kernel
theorem dX3_spend_14 : decode cX3_spend 14 = .ok (.invokevirtual 32, 3) := by decide +kernel
theorem dX3_spend_17 : decode cX3_spend 17 = .ok (.iconst 0, 1) := by decide +kernel
theorem dX3_spend_18 : decode cX3_spend 18 = .ok (.istore 5, 2) := by decide +kernel
theorem dX3_spend_20 : decode cX3_spend 20 = .ok (.iconst 1, 1) := by decide +kernel
theorem dX3_spend_21 : decode cX3_spend 21 = .ok (.istore 6, 2) := by decide +kernel
theorem dX3_spend_23 : decode cX3_spend 23 = .ok (.iload 6, 2) := by decide +kernel
theorem dX3_spend_25 : decode cX3_spend 25 = .ok (.iconst 1, 1) := by decide +kernel
theorem dX3_spend_26 : decode cX3_spend 26 = .ok (.iload 4, 2) := by decide +kernel
theorem dX3_spend_28 : decode cX3_spend 28 = .ok (.ishl, 1) := by decide +kernel
theorem dX3_spend_29 : decode cX3_spend 29 = .ok (.if_icmp .ge 35, 3) := by decide +kernel
theorem dX3_spend_32 : decode cX3_spend 32 = .ok (.aload_n 0, 1) := by decide +kernel
theorem dX3_spend_33 : decode cX3_spend 33 = .ok (.getfield 18, 3) := by decide +kernel
theorem dX3_spend_36 : decode cX3_spend 36 = .ok (.iload 6, 2) := by decide +kernel
theorem dX3_spend_38 : decode cX3_spend 38 = .ok (.iaload, 1) := by decide +kernel
theorem dX3_spend_39 : decode cX3_spend 39 = .ok (.iload_n 3, 1) := by decide +kernel
theorem dX3_spend_40 : decode cX3_spend 40 = .ok (.if_icmp .gt 18, 3) := by decide +kernel
theorem dX3_spend_58 : decode cX3_spend 58 = .ok (.iinc 6 1, 3) := by decide +kernel
theorem dX3_spend_61 : decode cX3_spend 61 = .ok (.goto (-38), 3) := by decide +kernel
theorem dX3_spend_43 : decode cX3_spend 43 = .ok (.aload_n 0, 1) := by decide +kernel
theorem dX3_spend_44 : decode cX3_spend 44 = .ok (.iload 6, 2) := by decide +kernel
theorem dX3_spend_46 : decode cX3_spend 46 = .ok (.iload 5, 2) := by decide +kernel
theorem dX3_spend_48 : decode cX3_spend 48 = .ok (.invokevirtual 36, 3) := by decide +kernel
theorem dX3_spend_51 : decode cX3_spend 51 = .ok (.ifCond .eq 7, 3) := by decide +kernel
theorem dX3_spend_54 : decode cX3_spend 54 = .ok (.iload 6, 2) := by decide +kernel
theorem dX3_spend_56 : decode cX3_spend 56 = .ok (.istore 5, 2) := by decide +kernel
theorem dX3_spend_64 : decode cX3_spend 64 = .ok (.aload_n 0, 1) := by decide +kernel
theorem dX3_spend_65 : decode cX3_spend 65 = .ok (.aload_n 2, 1) := by decide +kernel
theorem dX3_spend_66 : decode cX3_spend 66 = .ok (.iload 4, 2) := by decide +kernel
theorem dX3_spend_68 : decode cX3_spend 68 = .ok (.iload 5, 2) := by decide +kernel
theorem dX3_spend_70 : decode cX3_spend 70 = .ok (.invokevirtual 40, 3) := by decide +kernel
theorem dX3_spend_73 : decode cX3_spend 73 = .ok (.aload_n 0, 1) := by decide +kernel
theorem dX3_spend_74 : decode cX3_spend 74 = .ok (.getfield 21, 3) := by decide +kernel
theorem dX3_spend_77 : decode cX3_spend 77 = .ok (.iload 5, 2) := by decide +kernel
theorem dX3_spend_79 : decode cX3_spend 79 = .ok (.iaload, 1) := by decide +kernel
theorem dX3_spend_80 : decode cX3_spend 80 = .ok (.ireturn, 1) := by decide +kernel
theorem dX3_nextCoin_0 : decode cX3_nextCoin 0 = .ok (.aload_n 0, 1) := by decide +kernel
theorem dX3_nextCoin_1 : decode cX3_nextCoin 1 = .ok (.aload_n 1, 1) := by decide +kernel
theorem dX3_nextCoin_2 : decode cX3_nextCoin 2 = .ok (.aload_n 2, 1) := by decide +kernel
theorem dX3_nextCoin_3 : decode cX3_nextCoin 3 = .ok (.invokevirtual 28, 3) := by decide +kernel
theorem dX3_nextCoin_6 : decode cX3_nextCoin 6 = .ok (.istore 4, 2) := by decide +kernel
theorem dX3_nextCoin_8 : decode cX3_nextCoin 8 = .ok (.aload_n 0, 1) := by decide +kernel
theorem dX3_nextCoin_9 : decode cX3_nextCoin 9 = .ok (.aload_n 1, 1) := by decide +kernel
theorem dX3_nextCoin_10 : decode cX3_nextCoin 10 = .ok (.aload_n 2, 1) := by decide +kernel
theorem dX3_nextCoin_11 : decode cX3_nextCoin 11 = .ok (.iload 4, 2) := by decide +kernel
theorem dX3_nextCoin_13 : decode cX3_nextCoin 13 = .ok (.ldc 44, 2) := by decide +kernel
theorem dX3_nextCoin_15 : decode cX3_nextCoin 15 = .ok (.invokevirtual 32, 3) := by decide +kernel
theorem dX3_nextCoin_18 : decode cX3_nextCoin 18 = .ok (.ldc 44, 2) := by decide +kernel
theorem dX3_nextCoin_20 : decode cX3_nextCoin 20 = .ok (.istore 5, 2) := by decide +kernel
theorem dX3_nextCoin_22 : decode cX3_nextCoin 22 = .ok (.iconst 0, 1) := by decide +kernel
theorem dX3_nextCoin_23 : decode cX3_nextCoin 23 = .ok (.istore 6, 2) := by decide +kernel
theorem dX3_nextCoin_25 : decode cX3_nextCoin 25 = .ok (.iload 6, 2) := by decide +kernel
theorem dX3_nextCoin_27 : decode cX3_nextCoin 27 = .ok (.iconst 1, 1) := by decide +kernel
theorem dX3_nextCoin_28 : decode cX3_nextCoin 28 = .ok (.iload 4, 2) := by decide +kernel
theorem dX3_nextCoin_30 : decode cX3_nextCoin 30 = .ok (.ishl, 1) := by decide +kernel
theorem dX3_nextCoin_31 : decode cX3_nextCoin 31 = .ok (.if_icmp .ge 34, 3) := by decide +kernel
theorem dX3_nextCoin_34 : decode cX3_nextCoin 34 = .ok (.aload_n 0, 1) := by decide +kernel
theorem dX3_nextCoin_35 : decode cX3_nextCoin 35 = .ok (.getfield 18, 3) := by decide +kernel
theorem dX3_nextCoin_38 : decode cX3_nextCoin 38 = .ok (.iload 6, 2) := by decide +kernel
theorem dX3_nextCoin_40 : decode cX3_nextCoin 40 = .ok (.iaload, 1) := by decide +kernel
theorem dX3_nextCoin_41 : decode cX3_nextCoin 41 = .ok (.iload_n 3, 1) := by decide +kernel
theorem dX3_nextCoin_42 : decode cX3_nextCoin 42 = .ok (.if_icmp .gt 17, 3) := by decide +kernel
theorem dX3_nextCoin_59 : decode cX3_nextCoin 59 = .ok (.iinc 6 1, 3) := by decide +kernel
theorem dX3_nextCoin_62 : decode cX3_nextCoin 62 = .ok (.goto (-37), 3) := by decide +kernel
theorem dX3_nextCoin_45 : decode cX3_nextCoin 45 = .ok (.iload 5, 2) := by decide +kernel
theorem dX3_nextCoin_47 : decode cX3_nextCoin 47 = .ok (.aload_n 0, 1) := by decide +kernel
theorem dX3_nextCoin_48 : decode cX3_nextCoin 48 = .ok (.getfield 21, 3) := by decide +kernel
theorem dX3_nextCoin_51 : decode cX3_nextCoin 51 = .ok (.iload 6, 2) := by decide +kernel
theorem dX3_nextCoin_53 : decode cX3_nextCoin 53 = .ok (.iaload, 1) := by decide +kernel
theorem dX3_nextCoin_54 : decode cX3_nextCoin 54 = .ok (.invokestatic 45, 3) := by decide +kernel
theorem dX3_nextCoin_57 : decode cX3_nextCoin 57 = .ok (.istore 5, 2) := by decide +kernel
theorem dX3_nextCoin_65 : decode cX3_nextCoin 65 = .ok (.ldc 44, 2) := by decide +kernel
theorem dX3_nextCoin_67 : decode cX3_nextCoin 67 = .ok (.istore 6, 2) := by decide +kernel
theorem dX3_nextCoin_69 : decode cX3_nextCoin 69 = .ok (.iconst 0, 1) := by decide +kernel
theorem dX3_nextCoin_70 : decode cX3_nextCoin 70 = .ok (.istore 7, 2) := by decide +kernel
theorem dX3_nextCoin_72 : decode cX3_nextCoin 72 = .ok (.iload 7, 2) := by decide +kernel
theorem dX3_nextCoin_74 : decode cX3_nextCoin 74 = .ok (.iconst 1, 1) := by decide +kernel
theorem dX3_nextCoin_75 : decode cX3_nextCoin 75 = .ok (.iload 4, 2) := by decide +kernel
theorem dX3_nextCoin_77 : decode cX3_nextCoin 77 = .ok (.ishl, 1) := by decide +kernel
theorem dX3_nextCoin_78 : decode cX3_nextCoin 78 = .ok (.if_icmp .ge 46, 3) := by decide +kernel
theorem dX3_nextCoin_81 : decode cX3_nextCoin 81 = .ok (.aload_n 0, 1) := by decide +kernel
theorem dX3_nextCoin_82 : decode cX3_nextCoin 82 = .ok (.getfield 18, 3) := by decide +kernel
theorem dX3_nextCoin_85 : decode cX3_nextCoin 85 = .ok (.iload 7, 2) := by decide +kernel
theorem dX3_nextCoin_87 : decode cX3_nextCoin 87 = .ok (.iaload, 1) := by decide +kernel
theorem dX3_nextCoin_88 : decode cX3_nextCoin 88 = .ok (.iload_n 3, 1) := by decide +kernel
theorem dX3_nextCoin_89 : decode cX3_nextCoin 89 = .ok (.if_icmp .le 29, 3) := by decide +kernel
theorem dX3_nextCoin_118 : decode cX3_nextCoin 118 = .ok (.iinc 7 1, 3) := by decide +kernel
theorem dX3_nextCoin_121 : decode cX3_nextCoin 121 = .ok (.goto (-49), 3) := by decide +kernel
theorem dX3_nextCoin_92 : decode cX3_nextCoin 92 = .ok (.aload_n 0, 1) := by decide +kernel
theorem dX3_nextCoin_93 : decode cX3_nextCoin 93 = .ok (.getfield 21, 3) := by decide +kernel
theorem dX3_nextCoin_96 : decode cX3_nextCoin 96 = .ok (.iload 7, 2) := by decide +kernel
theorem dX3_nextCoin_98 : decode cX3_nextCoin 98 = .ok (.iaload, 1) := by decide +kernel
theorem dX3_nextCoin_99 : decode cX3_nextCoin 99 = .ok (.iload 5, 2) := by decide +kernel
theorem dX3_nextCoin_101 : decode cX3_nextCoin 101 = .ok (.if_icmp .ge 17, 3) := by decide +kernel
theorem dX3_nextCoin_104 : decode cX3_nextCoin 104 = .ok (.iload 6, 2) := by decide +kernel
theorem dX3_nextCoin_106 : decode cX3_nextCoin 106 = .ok (.aload_n 0, 1) := by decide +kernel
theorem dX3_nextCoin_107 : decode cX3_nextCoin 107 = .ok (.getfield 18, 3) := by decide +kernel
theorem dX3_nextCoin_110 : decode cX3_nextCoin 110 = .ok (.iload 7, 2) := by decide +kernel
theorem dX3_nextCoin_112 : decode cX3_nextCoin 112 = .ok (.iaload, 1) := by decide +kernel
theorem dX3_nextCoin_113 : decode cX3_nextCoin 113 = .ok (.invokestatic 45, 3) := by decide +kernel
theorem dX3_nextCoin_116 : decode cX3_nextCoin 116 = .ok (.istore 6, 2) := by decide +kernel
theorem dX3_nextCoin_124 : decode cX3_nextCoin 124 = .ok (.iload 6, 2) := by decide +kernel
theorem dX3_nextCoin_126 : decode cX3_nextCoin 126 = .ok (.sipush 9999, 3) := by decide +kernel
theorem dX3_nextCoin_129 : decode cX3_nextCoin 129 = .ok (.if_icmp .le 7, 3) := by decide +kernel
theorem dX3_nextCoin_136 : decode cX3_nextCoin 136 = .ok (.iload 6, 2) := by decide +kernel
theorem dX3_nextCoin_138 : decode cX3_nextCoin 138 = .ok (.ireturn, 1) := by decide +kernel
theorem dX3_nextCoin_132 : decode cX3_nextCoin 132 = .ok (.iconst (-1), 1) := by decide +kernel
theorem dX3_nextCoin_133 : decode cX3_nextCoin 133 = .ok (.goto 5, 3) := by decide +kernel
theorem dX1_takeFrom_0 : decode cX1_takeFrom 0 = .ok (.aload_n 0, 1) := by decide +kernel
theorem dX1_takeFrom_1 : decode cX1_takeFrom 1 = .ok (.aload_n 1, 1) := by decide +kernel
theorem dX1_takeFrom_2 : decode cX1_takeFrom 2 = .ok (.getfield 9, 3) := by decide +kernel
theorem dX1_takeFrom_5 : decode cX1_takeFrom 5 = .ok (.putfield 9, 3) := by decide +kernel
theorem dX1_takeFrom_8 : decode cX1_takeFrom 8 = .ok (.aload_n 1, 1) := by decide +kernel
theorem dX1_takeFrom_9 : decode cX1_takeFrom 9 = .ok (.getfield 15, 3) := by decide +kernel
theorem dX1_takeFrom_12 : decode cX1_takeFrom 12 = .ok (.iconst 0, 1) := by decide +kernel
theorem dX1_takeFrom_13 : decode cX1_takeFrom 13 = .ok (.aload_n 0, 1) := by decide +kernel
theorem dX1_takeFrom_14 : decode cX1_takeFrom 14 = .ok (.getfield 15, 3) := by decide +kernel
theorem dX1_takeFrom_17 : decode cX1_takeFrom 17 = .ok (.iconst 0, 1) := by decide +kernel
theorem dX1_takeFrom_18 : decode cX1_takeFrom 18 = .ok (.bipush 10, 2) := by decide +kernel
theorem dX1_takeFrom_20 : decode cX1_takeFrom 20 = .ok (.invokestatic 25, 3) := by decide +kernel
theorem dX1_takeFrom_23 : decode cX1_takeFrom 23 = .ok (.aload_n 1, 1) := by decide +kernel
theorem dX1_takeFrom_24 : decode cX1_takeFrom 24 = .ok (.getfield 19, 3) := by decide +kernel
theorem dX1_takeFrom_27 : decode cX1_takeFrom 27 = .ok (.iconst 0, 1) := by decide +kernel
theorem dX1_takeFrom_28 : decode cX1_takeFrom 28 = .ok (.aload_n 0, 1) := by decide +kernel
theorem dX1_takeFrom_29 : decode cX1_takeFrom 29 = .ok (.getfield 19, 3) := by decide +kernel
theorem dX1_takeFrom_32 : decode cX1_takeFrom 32 = .ok (.iconst 0, 1) := by decide +kernel
theorem dX1_takeFrom_33 : decode cX1_takeFrom 33 = .ok (.bipush 10, 2) := by decide +kernel
theorem dX1_takeFrom_35 : decode cX1_takeFrom 35 = .ok (.invokestatic 25, 3) := by decide +kernel
theorem dX1_takeFrom_38 : decode cX1_takeFrom 38 = .ok (.aload_n 1, 1) := by decide +kernel
theorem dX1_takeFrom_39 : decode cX1_takeFrom 39 = .ok (.getfield 22, 3) := by decide +kernel
theorem dX1_takeFrom_42 : decode cX1_takeFrom 42 = .ok (.iconst 0, 1) := by decide +kernel
theorem dX1_takeFrom_43 : decode cX1_takeFrom 43 = .ok (.aload_n 0, 1) := by decide +kernel
theorem dX1_takeFrom_44 : decode cX1_takeFrom 44 = .ok (.getfield 22, 3) := by decide +kernel
theorem dX1_takeFrom_47 : decode cX1_takeFrom 47 = .ok (.iconst 0, 1) := by decide +kernel
theorem dX1_takeFrom_48 : decode cX1_takeFrom 48 = .ok (.bipush 10, 2) := by decide +kernel
theorem dX1_takeFrom_50 : decode cX1_takeFrom 50 = .ok (.invokestatic 25, 3) := by decide +kernel
theorem dX1_takeFrom_53 : decode cX1_takeFrom 53 = .ok (.return_, 1) := by decide +kernel
theorem dX6_takeFrom_0 : decode cX6_takeFrom 0 = .ok (.aload_n 0, 1) := by decide +kernel
theorem dX6_takeFrom_1 : decode cX6_takeFrom 1 = .ok (.aload_n 1, 1) := by decide +kernel
theorem dX6_takeFrom_2 : decode cX6_takeFrom 2 = .ok (.getfield 9, 3) := by decide +kernel
theorem dX6_takeFrom_5 : decode cX6_takeFrom 5 = .ok (.putfield 9, 3) := by decide +kernel
theorem dX6_takeFrom_8 : decode cX6_takeFrom 8 = .ok (.aload_n 0, 1) := by decide +kernel
theorem dX6_takeFrom_9 : decode cX6_takeFrom 9 = .ok (.aload_n 1, 1) := by decide +kernel
theorem dX6_takeFrom_10 : decode cX6_takeFrom 10 = .ok (.getfield 15, 3) := by decide +kernel
theorem dX6_takeFrom_13 : decode cX6_takeFrom 13 = .ok (.putfield 15, 3) := by decide +kernel
theorem dX6_takeFrom_16 : decode cX6_takeFrom 16 = .ok (.aload_n 1, 1) := by decide +kernel
theorem dX6_takeFrom_17 : decode cX6_takeFrom 17 = .ok (.getfield 18, 3) := by decide +kernel
theorem dX6_takeFrom_20 : decode cX6_takeFrom 20 = .ok (.iconst 0, 1) := by decide +kernel
theorem dX6_takeFrom_21 : decode cX6_takeFrom 21 = .ok (.aload_n 0, 1) := by decide +kernel
theorem dX6_takeFrom_22 : decode cX6_takeFrom 22 = .ok (.getfield 18, 3) := by decide +kernel
theorem dX6_takeFrom_25 : decode cX6_takeFrom 25 = .ok (.iconst 0, 1) := by decide +kernel
theorem dX6_takeFrom_26 : decode cX6_takeFrom 26 = .ok (.bipush 6, 2) := by decide +kernel
theorem dX6_takeFrom_28 : decode cX6_takeFrom 28 = .ok (.invokestatic 31, 3) := by decide +kernel
theorem dX6_takeFrom_31 : decode cX6_takeFrom 31 = .ok (.aload_n 1, 1) := by decide +kernel
theorem dX6_takeFrom_32 : decode cX6_takeFrom 32 = .ok (.getfield 22, 3) := by decide +kernel
theorem dX6_takeFrom_35 : decode cX6_takeFrom 35 = .ok (.iconst 0, 1) := by decide +kernel
theorem dX6_takeFrom_36 : decode cX6_takeFrom 36 = .ok (.aload_n 0, 1) := by decide +kernel
theorem dX6_takeFrom_37 : decode cX6_takeFrom 37 = .ok (.getfield 22, 3) := by decide +kernel
theorem dX6_takeFrom_40 : decode cX6_takeFrom 40 = .ok (.iconst 0, 1) := by decide +kernel
theorem dX6_takeFrom_41 : decode cX6_takeFrom 41 = .ok (.bipush 36, 2) := by decide +kernel
theorem dX6_takeFrom_43 : decode cX6_takeFrom 43 = .ok (.invokestatic 31, 3) := by decide +kernel
theorem dX6_takeFrom_46 : decode cX6_takeFrom 46 = .ok (.return_, 1) := by decide +kernel
theorem dX8_takeFrom_0 : decode cX8_takeFrom 0 = .ok (.aload_n 0, 1) := by decide +kernel
theorem dX8_takeFrom_1 : decode cX8_takeFrom 1 = .ok (.aload_n 1, 1) := by decide +kernel
theorem dX8_takeFrom_2 : decode cX8_takeFrom 2 = .ok (.getfield 9, 3) := by decide +kernel
theorem dX8_takeFrom_5 : decode cX8_takeFrom 5 = .ok (.putfield 9, 3) := by decide +kernel
theorem dX8_takeFrom_8 : decode cX8_takeFrom 8 = .ok (.aload_n 0, 1) := by decide +kernel
theorem dX8_takeFrom_9 : decode cX8_takeFrom 9 = .ok (.aload_n 1, 1) := by decide +kernel
theorem dX8_takeFrom_10 : decode cX8_takeFrom 10 = .ok (.getfield 15, 3) := by decide +kernel
theorem dX8_takeFrom_13 : decode cX8_takeFrom 13 = .ok (.putfield 15, 3) := by decide +kernel
theorem dX8_takeFrom_16 : decode cX8_takeFrom 16 = .ok (.aload_n 0, 1) := by decide +kernel
theorem dX8_takeFrom_17 : decode cX8_takeFrom 17 = .ok (.aload_n 1, 1) := by decide +kernel
theorem dX8_takeFrom_18 : decode cX8_takeFrom 18 = .ok (.getfield 18, 3) := by decide +kernel
theorem dX8_takeFrom_21 : decode cX8_takeFrom 21 = .ok (.putfield 18, 3) := by decide +kernel
theorem dX8_takeFrom_24 : decode cX8_takeFrom 24 = .ok (.aload_n 0, 1) := by decide +kernel
theorem dX8_takeFrom_25 : decode cX8_takeFrom 25 = .ok (.aload_n 1, 1) := by decide +kernel
theorem dX8_takeFrom_26 : decode cX8_takeFrom 26 = .ok (.getfield 21, 3) := by decide +kernel
theorem dX8_takeFrom_29 : decode cX8_takeFrom 29 = .ok (.putfield 21, 3) := by decide +kernel
theorem dX8_takeFrom_32 : decode cX8_takeFrom 32 = .ok (.aload_n 0, 1) := by decide +kernel
theorem dX8_takeFrom_33 : decode cX8_takeFrom 33 = .ok (.aload_n 1, 1) := by decide +kernel
theorem dX8_takeFrom_34 : decode cX8_takeFrom 34 = .ok (.getfield 24, 3) := by decide +kernel
theorem dX8_takeFrom_37 : decode cX8_takeFrom 37 = .ok (.putfield 24, 3) := by decide +kernel
theorem dX8_takeFrom_40 : decode cX8_takeFrom 40 = .ok (.aload_n 0, 1) := by decide +kernel
theorem dX8_takeFrom_41 : decode cX8_takeFrom 41 = .ok (.aload_n 1, 1) := by decide +kernel
theorem dX8_takeFrom_42 : decode cX8_takeFrom 42 = .ok (.getfield 27, 3) := by decide +kernel
theorem dX8_takeFrom_45 : decode cX8_takeFrom 45 = .ok (.putfield 27, 3) := by decide +kernel
theorem dX8_takeFrom_48 : decode cX8_takeFrom 48 = .ok (.aload_n 1, 1) := by decide +kernel
theorem dX8_takeFrom_49 : decode cX8_takeFrom 49 = .ok (.getfield 30, 3) := by decide +kernel
theorem dX8_takeFrom_52 : decode cX8_takeFrom 52 = .ok (.iconst 0, 1) := by decide +kernel
theorem dX8_takeFrom_53 : decode cX8_takeFrom 53 = .ok (.aload_n 0, 1) := by decide +kernel
theorem dX8_takeFrom_54 : decode cX8_takeFrom 54 = .ok (.getfield 30, 3) := by decide +kernel
theorem dX8_takeFrom_57 : decode cX8_takeFrom 57 = .ok (.iconst 0, 1) := by decide +kernel
theorem dX8_takeFrom_58 : decode cX8_takeFrom 58 = .ok (.bipush 28, 2) := by decide +kernel
theorem dX8_takeFrom_60 : decode cX8_takeFrom 60 = .ok (.invokestatic 81, 3) := by decide +kernel
theorem dX8_takeFrom_63 : decode cX8_takeFrom 63 = .ok (.aload_n 1, 1) := by decide +kernel
theorem dX8_takeFrom_64 : decode cX8_takeFrom 64 = .ok (.getfield 34, 3) := by decide +kernel
theorem dX8_takeFrom_67 : decode cX8_takeFrom 67 = .ok (.iconst 0, 1) := by decide +kernel
theorem dX8_takeFrom_68 : decode cX8_takeFrom 68 = .ok (.aload_n 0, 1) := by decide +kernel
theorem dX8_takeFrom_69 : decode cX8_takeFrom 69 = .ok (.getfield 34, 3) := by decide +kernel
theorem dX8_takeFrom_72 : decode cX8_takeFrom 72 = .ok (.iconst 0, 1) := by decide +kernel
theorem dX8_takeFrom_73 : decode cX8_takeFrom 73 = .ok (.bipush 28, 2) := by decide +kernel
theorem dX8_takeFrom_75 : decode cX8_takeFrom 75 = .ok (.invokestatic 81, 3) := by decide +kernel
theorem dX8_takeFrom_78 : decode cX8_takeFrom 78 = .ok (.aload_n 1, 1) := by decide +kernel
theorem dX8_takeFrom_79 : decode cX8_takeFrom 79 = .ok (.getfield 37, 3) := by decide +kernel
theorem dX8_takeFrom_82 : decode cX8_takeFrom 82 = .ok (.iconst 0, 1) := by decide +kernel
theorem dX8_takeFrom_83 : decode cX8_takeFrom 83 = .ok (.aload_n 0, 1) := by decide +kernel
theorem dX8_takeFrom_84 : decode cX8_takeFrom 84 = .ok (.getfield 37, 3) := by decide +kernel
theorem dX8_takeFrom_87 : decode cX8_takeFrom 87 = .ok (.iconst 0, 1) := by decide +kernel
theorem dX8_takeFrom_88 : decode cX8_takeFrom 88 = .ok (.bipush 28, 2) := by decide +kernel
theorem dX8_takeFrom_90 : decode cX8_takeFrom 90 = .ok (.invokestatic 81, 3) := by decide +kernel
theorem dX8_takeFrom_93 : decode cX8_takeFrom 93 = .ok (.aload_n 1, 1) := by decide +kernel
theorem dX8_takeFrom_94 : decode cX8_takeFrom 94 = .ok (.getfield 40, 3) := by decide +kernel
theorem dX8_takeFrom_97 : decode cX8_takeFrom 97 = .ok (.iconst 0, 1) := by decide +kernel
theorem dX8_takeFrom_98 : decode cX8_takeFrom 98 = .ok (.aload_n 0, 1) := by decide +kernel
theorem dX8_takeFrom_99 : decode cX8_takeFrom 99 = .ok (.getfield 40, 3) := by decide +kernel
theorem dX8_takeFrom_102 : decode cX8_takeFrom 102 = .ok (.iconst 0, 1) := by decide +kernel
theorem dX8_takeFrom_103 : decode cX8_takeFrom 103 = .ok (.bipush 28, 2) := by decide +kernel
theorem dX8_takeFrom_105 : decode cX8_takeFrom 105 = .ok (.invokestatic 81, 3) := by decide +kernel
theorem dX8_takeFrom_108 : decode cX8_takeFrom 108 = .ok (.aload_n 0, 1) := by decide +kernel
theorem dX8_takeFrom_109 : decode cX8_takeFrom 109 = .ok (.aload_n 1, 1) := by decide +kernel
theorem dX8_takeFrom_110 : decode cX8_takeFrom 110 = .ok (.getfield 43, 3) := by decide +kernel
theorem dX8_takeFrom_113 : decode cX8_takeFrom 113 = .ok (.putfield 43, 3) := by decide +kernel
theorem dX8_takeFrom_116 : decode cX8_takeFrom 116 = .ok (.aload_n 0, 1) := by decide +kernel
theorem dX8_takeFrom_117 : decode cX8_takeFrom 117 = .ok (.aload_n 1, 1) := by decide +kernel
theorem dX8_takeFrom_118 : decode cX8_takeFrom 118 = .ok (.getfield 46, 3) := by decide +kernel
theorem dX8_takeFrom_121 : decode cX8_takeFrom 121 = .ok (.putfield 46, 3) := by decide +kernel
theorem dX8_takeFrom_124 : decode cX8_takeFrom 124 = .ok (.aload_n 0, 1) := by decide +kernel
theorem dX8_takeFrom_125 : decode cX8_takeFrom 125 = .ok (.getfield 52, 3) := by decide +kernel
theorem dX8_takeFrom_128 : decode cX8_takeFrom 128 = .ok (.aload_n 1, 1) := by decide +kernel
theorem dX8_takeFrom_129 : decode cX8_takeFrom 129 = .ok (.getfield 52, 3) := by decide +kernel
theorem dX8_takeFrom_132 : decode cX8_takeFrom 132 = .ok (.invokevirtual 87, 3) := by decide +kernel
theorem dX8_takeFrom_135 : decode cX8_takeFrom 135 = .ok (.aload_n 0, 1) := by decide +kernel
theorem dX8_takeFrom_136 : decode cX8_takeFrom 136 = .ok (.getfield 59, 3) := by decide +kernel
theorem dX8_takeFrom_139 : decode cX8_takeFrom 139 = .ok (.aload_n 1, 1) := by decide +kernel
theorem dX8_takeFrom_140 : decode cX8_takeFrom 140 = .ok (.getfield 59, 3) := by decide +kernel
theorem dX8_takeFrom_143 : decode cX8_takeFrom 143 = .ok (.invokevirtual 91, 3) := by decide +kernel
theorem dX8_takeFrom_146 : decode cX8_takeFrom 146 = .ok (.aload_n 1, 1) := by decide +kernel
theorem dX8_takeFrom_147 : decode cX8_takeFrom 147 = .ok (.getfield 63, 3) := by decide +kernel
theorem dX8_takeFrom_150 : decode cX8_takeFrom 150 = .ok (.iconst 0, 1) := by decide +kernel
theorem dX8_takeFrom_151 : decode cX8_takeFrom 151 = .ok (.aload_n 0, 1) := by decide +kernel
theorem dX8_takeFrom_152 : decode cX8_takeFrom 152 = .ok (.getfield 63, 3) := by decide +kernel
theorem dX8_takeFrom_155 : decode cX8_takeFrom 155 = .ok (.iconst 0, 1) := by decide +kernel
theorem dX8_takeFrom_156 : decode cX8_takeFrom 156 = .ok (.bipush 17, 2) := by decide +kernel
theorem dX8_takeFrom_158 : decode cX8_takeFrom 158 = .ok (.invokestatic 81, 3) := by decide +kernel
theorem dX8_takeFrom_161 : decode cX8_takeFrom 161 = .ok (.aload_n 1, 1) := by decide +kernel
theorem dX8_takeFrom_162 : decode cX8_takeFrom 162 = .ok (.getfield 66, 3) := by decide +kernel
theorem dX8_takeFrom_165 : decode cX8_takeFrom 165 = .ok (.iconst 0, 1) := by decide +kernel
theorem dX8_takeFrom_166 : decode cX8_takeFrom 166 = .ok (.aload_n 0, 1) := by decide +kernel
theorem dX8_takeFrom_167 : decode cX8_takeFrom 167 = .ok (.getfield 66, 3) := by decide +kernel
theorem dX8_takeFrom_170 : decode cX8_takeFrom 170 = .ok (.iconst 0, 1) := by decide +kernel
theorem dX8_takeFrom_171 : decode cX8_takeFrom 171 = .ok (.bipush 56, 2) := by decide +kernel
theorem dX8_takeFrom_173 : decode cX8_takeFrom 173 = .ok (.invokestatic 81, 3) := by decide +kernel
theorem dX8_takeFrom_176 : decode cX8_takeFrom 176 = .ok (.aload_n 1, 1) := by decide +kernel
theorem dX8_takeFrom_177 : decode cX8_takeFrom 177 = .ok (.getfield 69, 3) := by decide +kernel
theorem dX8_takeFrom_180 : decode cX8_takeFrom 180 = .ok (.iconst 0, 1) := by decide +kernel
theorem dX8_takeFrom_181 : decode cX8_takeFrom 181 = .ok (.aload_n 0, 1) := by decide +kernel
theorem dX8_takeFrom_182 : decode cX8_takeFrom 182 = .ok (.getfield 69, 3) := by decide +kernel
theorem dX8_takeFrom_185 : decode cX8_takeFrom 185 = .ok (.iconst 0, 1) := by decide +kernel
theorem dX8_takeFrom_186 : decode cX8_takeFrom 186 = .ok (.sipush 256, 3) := by decide +kernel
theorem dX8_takeFrom_189 : decode cX8_takeFrom 189 = .ok (.invokestatic 81, 3) := by decide +kernel
theorem dX8_takeFrom_192 : decode cX8_takeFrom 192 = .ok (.aload_n 0, 1) := by decide +kernel
theorem dX8_takeFrom_193 : decode cX8_takeFrom 193 = .ok (.aload_n 1, 1) := by decide +kernel
theorem dX8_takeFrom_194 : decode cX8_takeFrom 194 = .ok (.getfield 72, 3) := by decide +kernel
theorem dX8_takeFrom_197 : decode cX8_takeFrom 197 = .ok (.putfield 72, 3) := by decide +kernel
theorem dX8_takeFrom_200 : decode cX8_takeFrom 200 = .ok (.return_, 1) := by decide +kernel
theorem dX5_takeFrom_0 : decode cX5_takeFrom 0 = .ok (.aload_n 0, 1) := by decide +kernel
theorem dX5_takeFrom_1 : decode cX5_takeFrom 1 = .ok (.getfield 12, 3) := by decide +kernel
theorem dX5_takeFrom_4 : decode cX5_takeFrom 4 = .ok (.aload_n 1, 1) := by decide +kernel
theorem dX5_takeFrom_5 : decode cX5_takeFrom 5 = .ok (.getfield 12, 3) := by decide +kernel
theorem dX5_takeFrom_8 : decode cX5_takeFrom 8 = .ok (.invokevirtual 27, 3) := by decide +kernel
theorem dX5_takeFrom_11 : decode cX5_takeFrom 11 = .ok (.iconst 0, 1) := by decide +kernel
theorem dX5_takeFrom_12 : decode cX5_takeFrom 12 = .ok (.istore_n 2, 1) := by decide +kernel
theorem dX5_takeFrom_13 : decode cX5_takeFrom 13 = .ok (.iload_n 2, 1) := by decide +kernel
theorem dX5_takeFrom_14 : decode cX5_takeFrom 14 = .ok (.iconst 2, 1) := by decide +kernel
theorem dX5_takeFrom_15 : decode cX5_takeFrom 15 = .ok (.if_icmp .ge 28, 3) := by decide +kernel
theorem dX5_takeFrom_18 : decode cX5_takeFrom 18 = .ok (.aload_n 1, 1) := by decide +kernel
theorem dX5_takeFrom_19 : decode cX5_takeFrom 19 = .ok (.getfield 20, 3) := by decide +kernel
theorem dX5_takeFrom_22 : decode cX5_takeFrom 22 = .ok (.iload_n 2, 1) := by decide +kernel
theorem dX5_takeFrom_23 : decode cX5_takeFrom 23 = .ok (.aaload, 1) := by decide +kernel
theorem dX5_takeFrom_24 : decode cX5_takeFrom 24 = .ok (.iconst 0, 1) := by decide +kernel
theorem dX5_takeFrom_25 : decode cX5_takeFrom 25 = .ok (.aload_n 0, 1) := by decide +kernel
theorem dX5_takeFrom_26 : decode cX5_takeFrom 26 = .ok (.getfield 20, 3) := by decide +kernel
theorem dX5_takeFrom_29 : decode cX5_takeFrom 29 = .ok (.iload_n 2, 1) := by decide +kernel
theorem dX5_takeFrom_30 : decode cX5_takeFrom 30 = .ok (.aaload, 1) := by decide +kernel
theorem dX5_takeFrom_31 : decode cX5_takeFrom 31 = .ok (.iconst 0, 1) := by decide +kernel
theorem dX5_takeFrom_32 : decode cX5_takeFrom 32 = .ok (.bipush 28, 2) := by decide +kernel
theorem dX5_takeFrom_34 : decode cX5_takeFrom 34 = .ok (.invokestatic 31, 3) := by decide +kernel
theorem dX5_takeFrom_37 : decode cX5_takeFrom 37 = .ok (.iinc 2 1, 3) := by decide +kernel
theorem dX5_takeFrom_40 : decode cX5_takeFrom 40 = .ok (.goto (-27), 3) := by decide +kernel
theorem dX5_takeFrom_43 : decode cX5_takeFrom 43 = .ok (.return_, 1) := by decide +kernel
theorem dJ6_bitCount_0f7a4_0 : decode cJ6_bitCount_0f7a4 0 = .ok (.iload_n 0, 1) := by decide +kernel
theorem dJ6_bitCount_0f7a4_1 : decode cJ6_bitCount_0f7a4 1 = .ok (.iload_n 0, 1) := by decide +kernel
theorem dJ6_bitCount_0f7a4_2 : decode cJ6_bitCount_0f7a4 2 = .ok (.iconst 1, 1) := by decide +kernel
theorem dJ6_bitCount_0f7a4_3 : decode cJ6_bitCount_0f7a4 3 = .ok (.iushr, 1) := by decide +kernel
theorem dJ6_bitCount_0f7a4_4 : decode cJ6_bitCount_0f7a4 4 = .ok (.ldc_w 265, 3) := by decide +kernel
theorem dJ6_bitCount_0f7a4_7 : decode cJ6_bitCount_0f7a4 7 = .ok (.iand, 1) := by decide +kernel
theorem dJ6_bitCount_0f7a4_8 : decode cJ6_bitCount_0f7a4 8 = .ok (.isub, 1) := by decide +kernel
theorem dJ6_bitCount_0f7a4_9 : decode cJ6_bitCount_0f7a4 9 = .ok (.istore_n 0, 1) := by decide +kernel
theorem dJ6_bitCount_0f7a4_10 : decode cJ6_bitCount_0f7a4 10 = .ok (.iload_n 0, 1) := by decide +kernel
theorem dJ6_bitCount_0f7a4_11 : decode cJ6_bitCount_0f7a4 11 = .ok (.ldc_w 266, 3) := by decide +kernel
theorem dJ6_bitCount_0f7a4_14 : decode cJ6_bitCount_0f7a4 14 = .ok (.iand, 1) := by decide +kernel
theorem dJ6_bitCount_0f7a4_15 : decode cJ6_bitCount_0f7a4 15 = .ok (.iload_n 0, 1) := by decide +kernel
theorem dJ6_bitCount_0f7a4_16 : decode cJ6_bitCount_0f7a4 16 = .ok (.iconst 2, 1) := by decide +kernel
theorem dJ6_bitCount_0f7a4_17 : decode cJ6_bitCount_0f7a4 17 = .ok (.iushr, 1) := by decide +kernel
theorem dJ6_bitCount_0f7a4_18 : decode cJ6_bitCount_0f7a4 18 = .ok (.ldc_w 266, 3) := by decide +kernel
theorem dJ6_bitCount_0f7a4_21 : decode cJ6_bitCount_0f7a4 21 = .ok (.iand, 1) := by decide +kernel
theorem dJ6_bitCount_0f7a4_22 : decode cJ6_bitCount_0f7a4 22 = .ok (.iadd, 1) := by decide +kernel
theorem dJ6_bitCount_0f7a4_23 : decode cJ6_bitCount_0f7a4 23 = .ok (.istore_n 0, 1) := by decide +kernel
theorem dJ6_bitCount_0f7a4_24 : decode cJ6_bitCount_0f7a4 24 = .ok (.iload_n 0, 1) := by decide +kernel
theorem dJ6_bitCount_0f7a4_25 : decode cJ6_bitCount_0f7a4 25 = .ok (.iload_n 0, 1) := by decide +kernel
theorem dJ6_bitCount_0f7a4_26 : decode cJ6_bitCount_0f7a4 26 = .ok (.iconst 4, 1) := by decide +kernel
theorem dJ6_bitCount_0f7a4_27 : decode cJ6_bitCount_0f7a4 27 = .ok (.iushr, 1) := by decide +kernel
theorem dJ6_bitCount_0f7a4_28 : decode cJ6_bitCount_0f7a4 28 = .ok (.iadd, 1) := by decide +kernel
theorem dJ6_bitCount_0f7a4_29 : decode cJ6_bitCount_0f7a4 29 = .ok (.ldc_w 267, 3) := by decide +kernel
theorem dJ6_bitCount_0f7a4_32 : decode cJ6_bitCount_0f7a4 32 = .ok (.iand, 1) := by decide +kernel
theorem dJ6_bitCount_0f7a4_33 : decode cJ6_bitCount_0f7a4 33 = .ok (.istore_n 0, 1) := by decide +kernel
theorem dJ6_bitCount_0f7a4_34 : decode cJ6_bitCount_0f7a4 34 = .ok (.iload_n 0, 1) := by decide +kernel
theorem dJ6_bitCount_0f7a4_35 : decode cJ6_bitCount_0f7a4 35 = .ok (.iload_n 0, 1) := by decide +kernel
theorem dJ6_bitCount_0f7a4_36 : decode cJ6_bitCount_0f7a4 36 = .ok (.bipush 8, 2) := by decide +kernel
theorem dJ6_bitCount_0f7a4_38 : decode cJ6_bitCount_0f7a4 38 = .ok (.iushr, 1) := by decide +kernel
theorem dJ6_bitCount_0f7a4_39 : decode cJ6_bitCount_0f7a4 39 = .ok (.iadd, 1) := by decide +kernel
theorem dJ6_bitCount_0f7a4_40 : decode cJ6_bitCount_0f7a4 40 = .ok (.istore_n 0, 1) := by decide +kernel
theorem dJ6_bitCount_0f7a4_41 : decode cJ6_bitCount_0f7a4 41 = .ok (.iload_n 0, 1) := by decide +kernel
theorem dJ6_bitCount_0f7a4_42 : decode cJ6_bitCount_0f7a4 42 = .ok (.iload_n 0, 1) := by decide +kernel
theorem dJ6_bitCount_0f7a4_43 : decode cJ6_bitCount_0f7a4 43 = .ok (.bipush 16, 2) := by decide +kernel
theorem dJ6_bitCount_0f7a4_45 : decode cJ6_bitCount_0f7a4 45 = .ok (.iushr, 1) := by decide +kernel
theorem dJ6_bitCount_0f7a4_46 : decode cJ6_bitCount_0f7a4 46 = .ok (.iadd, 1) := by decide +kernel
theorem dJ6_bitCount_0f7a4_47 : decode cJ6_bitCount_0f7a4 47 = .ok (.istore_n 0, 1) := by decide +kernel
theorem dJ6_bitCount_0f7a4_48 : decode cJ6_bitCount_0f7a4 48 = .ok (.iload_n 0, 1) := by decide +kernel
theorem dJ6_bitCount_0f7a4_49 : decode cJ6_bitCount_0f7a4 49 = .ok (.bipush 63, 2) := by decide +kernel
theorem dJ6_bitCount_0f7a4_51 : decode cJ6_bitCount_0f7a4 51 = .ok (.iand, 1) := by decide +kernel
theorem dJ6_bitCount_0f7a4_52 : decode cJ6_bitCount_0f7a4 52 = .ok (.ireturn, 1) := by decide +kernel
theorem dX5_openOnes_0 : decode cX5_openOnes 0 = .ok (.aload_n 0, 1) := by decide +kernel
theorem dX5_openOnes_1 : decode cX5_openOnes 1 = .ok (.getfield 12, 3) := by decide +kernel
theorem dX5_openOnes_4 : decode cX5_openOnes 4 = .ok (.aload_n 0, 1) := by decide +kernel
theorem dX5_openOnes_5 : decode cX5_openOnes 5 = .ok (.getfield 20, 3) := by decide +kernel
theorem dX5_openOnes_8 : decode cX5_openOnes 8 = .ok (.iload_n 1, 1) := by decide +kernel
theorem dX5_openOnes_9 : decode cX5_openOnes 9 = .ok (.aaload, 1) := by decide +kernel
theorem dX5_openOnes_10 : decode cX5_openOnes 10 = .ok (.invokevirtual 37, 3) := by decide +kernel
theorem dX5_openOnes_13 : decode cX5_openOnes 13 = .ok (.invokestatic 41, 3) := by decide +kernel
theorem dX5_openOnes_16 : decode cX5_openOnes 16 = .ok (.ireturn, 1) := by decide +kernel
theorem dX5_openAll_0 : decode cX5_openAll 0 = .ok (.iconst 0, 1) := by decide +kernel
theorem dX5_openAll_1 : decode cX5_openAll 1 = .ok (.istore_n 2, 1) := by decide +kernel
theorem dX5_openAll_2 : decode cX5_openAll 2 = .ok (.iconst 0, 1) := by decide +kernel
theorem dX5_openAll_3 : decode cX5_openAll 3 = .ok (.istore_n 3, 1) := by decide +kernel
theorem dX5_openAll_4 : decode cX5_openAll 4 = .ok (.iload_n 3, 1) := by decide +kernel
theorem dX5_openAll_5 : decode cX5_openAll 5 = .ok (.aload_n 0, 1) := by decide +kernel
theorem dX5_openAll_6 : decode cX5_openAll 6 = .ok (.getfield 12, 3) := by decide +kernel
theorem dX5_openAll_9 : decode cX5_openAll 9 = .ok (.getfield 47, 3) := by decide +kernel
theorem dX5_openAll_12 : decode cX5_openAll 12 = .ok (.if_icmp .ge 60, 3) := by decide +kernel
theorem dX5_openAll_15 : decode cX5_openAll 15 = .ok (.aload_n 0, 1) := by decide +kernel
theorem dX5_openAll_16 : decode cX5_openAll 16 = .ok (.getfield 12, 3) := by decide +kernel
theorem dX5_openAll_19 : decode cX5_openAll 19 = .ok (.iload_n 3, 1) := by decide +kernel
theorem dX5_openAll_20 : decode cX5_openAll 20 = .ok (.invokevirtual 51, 3) := by decide +kernel
theorem dX5_openAll_23 : decode cX5_openAll 23 = .ok (.ifCond .eq 15, 3) := by decide +kernel
theorem dX5_openAll_38 : decode cX5_openAll 38 = .ok (.iload_n 2, 1) := by decide +kernel
theorem dX5_openAll_39 : decode cX5_openAll 39 = .ok (.aload_n 0, 1) := by decide +kernel
theorem dX5_openAll_40 : decode cX5_openAll 40 = .ok (.getfield 20, 3) := by decide +kernel
theorem dX5_openAll_43 : decode cX5_openAll 43 = .ok (.iload_n 1, 1) := by decide +kernel
theorem dX5_openAll_44 : decode cX5_openAll 44 = .ok (.aaload, 1) := by decide +kernel
theorem dX5_openAll_45 : decode cX5_openAll 45 = .ok (.iload_n 3, 1) := by decide +kernel
theorem dX5_openAll_46 : decode cX5_openAll 46 = .ok (.iaload, 1) := by decide +kernel
theorem dX5_openAll_47 : decode cX5_openAll 47 = .ok (.ifCond .ne 7, 3) := by decide +kernel
theorem dX5_openAll_54 : decode cX5_openAll 54 = .ok (.iconst 1, 1) := by decide +kernel
theorem dX5_openAll_55 : decode cX5_openAll 55 = .ok (.iadd, 1) := by decide +kernel
theorem dX5_openAll_56 : decode cX5_openAll 56 = .ok (.istore_n 2, 1) := by decide +kernel
theorem dX5_openAll_57 : decode cX5_openAll 57 = .ok (.aload_n 0, 1) := by decide +kernel
theorem dX5_openAll_58 : decode cX5_openAll 58 = .ok (.getfield 20, 3) := by decide +kernel
theorem dX5_openAll_61 : decode cX5_openAll 61 = .ok (.iload_n 1, 1) := by decide +kernel
theorem dX5_openAll_62 : decode cX5_openAll 62 = .ok (.aaload, 1) := by decide +kernel
theorem dX5_openAll_63 : decode cX5_openAll 63 = .ok (.iload_n 3, 1) := by decide +kernel
theorem dX5_openAll_64 : decode cX5_openAll 64 = .ok (.iconst 0, 1) := by decide +kernel
theorem dX5_openAll_65 : decode cX5_openAll 65 = .ok (.iastore, 1) := by decide +kernel
theorem dX5_openAll_66 : decode cX5_openAll 66 = .ok (.iinc 3 1, 3) := by decide +kernel
theorem dX5_openAll_69 : decode cX5_openAll 69 = .ok (.goto (-65), 3) := by decide +kernel
theorem dX5_openAll_50 : decode cX5_openAll 50 = .ok (.iconst 0, 1) := by decide +kernel
theorem dX5_openAll_51 : decode cX5_openAll 51 = .ok (.goto 4, 3) := by decide +kernel
theorem dX5_openAll_26 : decode cX5_openAll 26 = .ok (.aload_n 0, 1) := by decide +kernel
theorem dX5_openAll_27 : decode cX5_openAll 27 = .ok (.getfield 20, 3) := by decide +kernel
theorem dX5_openAll_30 : decode cX5_openAll 30 = .ok (.iload_n 1, 1) := by decide +kernel
theorem dX5_openAll_31 : decode cX5_openAll 31 = .ok (.aaload, 1) := by decide +kernel
theorem dX5_openAll_32 : decode cX5_openAll 32 = .ok (.iload_n 3, 1) := by decide +kernel
theorem dX5_openAll_33 : decode cX5_openAll 33 = .ok (.iconst 1, 1) := by decide +kernel
theorem dX5_openAll_34 : decode cX5_openAll 34 = .ok (.iastore, 1) := by decide +kernel
theorem dX5_openAll_35 : decode cX5_openAll 35 = .ok (.goto 31, 3) := by decide +kernel
theorem dX5_openAll_72 : decode cX5_openAll 72 = .ok (.iload_n 2, 1) := by decide +kernel
theorem dX5_openAll_73 : decode cX5_openAll 73 = .ok (.ireturn, 1) := by decide +kernel
theorem dX4_cutToWidth_0 : decode cX4_cutToWidth 0 = .ok (.aload_n 0, 1) := by decide +kernel
theorem dX4_cutToWidth_1 : decode cX4_cutToWidth 1 = .ok (.getfield 9, 3) := by decide +kernel
theorem dX4_cutToWidth_4 : decode cX4_cutToWidth 4 = .ok (.tableswitch 42 0 2 #[28, 33, 38], 28) := by decide +kernel
theorem dX4_cutToWidth_46 : decode cX4_cutToWidth 46 = .ok (.lload_n 1, 1) := by decide +kernel
theorem dX4_cutToWidth_47 : decode cX4_cutToWidth 47 = .ok (.lreturn, 1) := by decide +kernel
theorem dX4_cutToWidth_32 : decode cX4_cutToWidth 32 = .ok (.lload_n 1, 1) := by decide +kernel
theorem dX4_cutToWidth_33 : decode cX4_cutToWidth 33 = .ok (.l2i, 1) := by decide +kernel
theorem dX4_cutToWidth_34 : decode cX4_cutToWidth 34 = .ok (.i2b, 1) := by decide +kernel
theorem dX4_cutToWidth_35 : decode cX4_cutToWidth 35 = .ok (.i2l, 1) := by decide +kernel
theorem dX4_cutToWidth_36 : decode cX4_cutToWidth 36 = .ok (.lreturn, 1) := by decide +kernel
theorem dX4_cutToWidth_37 : decode cX4_cutToWidth 37 = .ok (.lload_n 1, 1) := by decide +kernel
theorem dX4_cutToWidth_38 : decode cX4_cutToWidth 38 = .ok (.l2i, 1) := by decide +kernel
theorem dX4_cutToWidth_39 : decode cX4_cutToWidth 39 = .ok (.i2s, 1) := by decide +kernel
theorem dX4_cutToWidth_40 : decode cX4_cutToWidth 40 = .ok (.i2l, 1) := by decide +kernel
theorem dX4_cutToWidth_41 : decode cX4_cutToWidth 41 = .ok (.lreturn, 1) := by decide +kernel
theorem dX4_cutToWidth_42 : decode cX4_cutToWidth 42 = .ok (.lload_n 1, 1) := by decide +kernel
theorem dX4_cutToWidth_43 : decode cX4_cutToWidth 43 = .ok (.l2i, 1) := by decide +kernel
theorem dX4_cutToWidth_44 : decode cX4_cutToWidth 44 = .ok (.i2l, 1) := by decide +kernel
theorem dX4_cutToWidth_45 : decode cX4_cutToWidth 45 = .ok (.lreturn, 1) := by decide +kernel
theorem dX4_makeRow_0 : decode cX4_makeRow 0 = .ok (.aload_n 0, 1) := by decide +kernel
theorem dX4_makeRow_1 : decode cX4_makeRow 1 = .ok (.iload_n 1, 1) := by decide +kernel
theorem dX4_makeRow_2 : decode cX4_makeRow 2 = .ok (.putfield 9, 3) := by decide +kernel
theorem dX4_makeRow_5 : decode cX4_makeRow 5 = .ok (.aload_n 0, 1) := by decide +kernel
theorem dX4_makeRow_6 : decode cX4_makeRow 6 = .ok (.iload_n 2, 1) := by decide +kernel
theorem dX4_makeRow_7 : decode cX4_makeRow 7 = .ok (.putfield 15, 3) := by decide +kernel
theorem dX4_makeRow_10 : decode cX4_makeRow 10 = .ok (.aload_n 0, 1) := by decide +kernel
theorem dX4_makeRow_11 : decode cX4_makeRow 11 = .ok (.getfield 18, 3) := by decide +kernel
theorem dX4_makeRow_14 : decode cX4_makeRow 14 = .ok (.lconst 0, 1) := by decide +kernel
theorem dX4_makeRow_15 : decode cX4_makeRow 15 = .ok (.invokestatic 22, 3) := by decide +kernel
theorem dX4_makeRow_18 : decode cX4_makeRow 18 = .ok (.return_, 1) := by decide +kernel
theorem dX6_addMember_0 : decode cX6_addMember 0 = .ok (.aload_n 0, 1) := by decide +kernel
theorem dX6_addMember_1 : decode cX6_addMember 1 = .ok (.getfield 22, 3) := by decide +kernel
theorem dX6_addMember_4 : decode cX6_addMember 4 = .ok (.aload_n 0, 1) := by decide +kernel
theorem dX6_addMember_5 : decode cX6_addMember 5 = .ok (.getfield 9, 3) := by decide +kernel
theorem dX6_addMember_8 : decode cX6_addMember 8 = .ok (.bipush 6, 2) := by decide +kernel
theorem dX6_addMember_10 : decode cX6_addMember 10 = .ok (.imul, 1) := by decide +kernel
theorem dX6_addMember_11 : decode cX6_addMember 11 = .ok (.aload_n 0, 1) := by decide +kernel
theorem dX6_addMember_12 : decode cX6_addMember 12 = .ok (.getfield 18, 3) := by decide +kernel
theorem dX6_addMember_15 : decode cX6_addMember 15 = .ok (.aload_n 0, 1) := by decide +kernel
theorem dX6_addMember_16 : decode cX6_addMember 16 = .ok (.getfield 9, 3) := by decide +kernel
theorem dX6_addMember_19 : decode cX6_addMember 19 = .ok (.iaload, 1) := by decide +kernel
theorem dX6_addMember_20 : decode cX6_addMember 20 = .ok (.iadd, 1) := by decide +kernel
theorem dX6_addMember_21 : decode cX6_addMember 21 = .ok (.iload_n 1, 1) := by decide +kernel
theorem dX6_addMember_22 : decode cX6_addMember 22 = .ok (.iastore, 1) := by decide +kernel
theorem dX6_addMember_23 : decode cX6_addMember 23 = .ok (.aload_n 0, 1) := by decide +kernel
theorem dX6_addMember_24 : decode cX6_addMember 24 = .ok (.getfield 18, 3) := by decide +kernel
theorem dX6_addMember_27 : decode cX6_addMember 27 = .ok (.aload_n 0, 1) := by decide +kernel
theorem dX6_addMember_28 : decode cX6_addMember 28 = .ok (.getfield 9, 3) := by decide +kernel
theorem dX6_addMember_31 : decode cX6_addMember 31 = .ok (.dup2, 1) := by decide +kernel
theorem dX6_addMember_32 : decode cX6_addMember 32 = .ok (.iaload, 1) := by decide +kernel
theorem dX6_addMember_33 : decode cX6_addMember 33 = .ok (.iconst 1, 1) := by decide +kernel
theorem dX6_addMember_34 : decode cX6_addMember 34 = .ok (.iadd, 1) := by decide +kernel
theorem dX6_addMember_35 : decode cX6_addMember 35 = .ok (.iastore, 1) := by decide +kernel
theorem dX6_addMember_36 : decode cX6_addMember 36 = .ok (.aload_n 0, 1) := by decide +kernel
theorem dX6_addMember_37 : decode cX6_addMember 37 = .ok (.dup, 1) := by decide +kernel
theorem dX6_addMember_38 : decode cX6_addMember 38 = .ok (.getfield 15, 3) := by decide +kernel
theorem dX6_addMember_41 : decode cX6_addMember 41 = .ok (.iconst 1, 1) := by decide +kernel
theorem dX6_addMember_42 : decode cX6_addMember 42 = .ok (.iload_n 1, 1) := by decide +kernel
theorem dX6_addMember_43 : decode cX6_addMember 43 = .ok (.ishl, 1) := by decide +kernel
theorem dX6_addMember_44 : decode cX6_addMember 44 = .ok (.ior, 1) := by decide +kernel
theorem dX6_addMember_45 : decode cX6_addMember 45 = .ok (.putfield 15, 3) := by decide +kernel
theorem dX6_addMember_48 : decode cX6_addMember 48 = .ok (.return_, 1) := by decide +kernel
theorem dX6_drop_0 : decode cX6_drop 0 = .ok (.aload_n 0, 1) := by decide +kernel
theorem dX6_drop_1 : decode cX6_drop 1 = .ok (.iconst 0, 1) := by decide +kernel
theorem dX6_drop_2 : decode cX6_drop 2 = .ok (.putfield 9, 3) := by decide +kernel
theorem dX6_drop_5 : decode cX6_drop 5 = .ok (.aload_n 0, 1) := by decide +kernel
theorem dX6_drop_6 : decode cX6_drop 6 = .ok (.iconst 0, 1) := by decide +kernel
theorem dX6_drop_7 : decode cX6_drop 7 = .ok (.putfield 15, 3) := by decide +kernel
theorem dX6_drop_10 : decode cX6_drop 10 = .ok (.aload_n 0, 1) := by decide +kernel
theorem dX6_drop_11 : decode cX6_drop 11 = .ok (.getfield 18, 3) := by decide +kernel
theorem dX6_drop_14 : decode cX6_drop 14 = .ok (.iconst 0, 1) := by decide +kernel
theorem dX6_drop_15 : decode cX6_drop 15 = .ok (.invokestatic 25, 3) := by decide +kernel
theorem dX6_drop_18 : decode cX6_drop 18 = .ok (.return_, 1) := by decide +kernel
theorem dX8_drop_0 : decode cX8_drop 0 = .ok (.aload_n 0, 1) := by decide +kernel
theorem dX8_drop_1 : decode cX8_drop 1 = .ok (.iconst 0, 1) := by decide +kernel
theorem dX8_drop_2 : decode cX8_drop 2 = .ok (.putfield 9, 3) := by decide +kernel
theorem dX8_drop_5 : decode cX8_drop 5 = .ok (.aload_n 0, 1) := by decide +kernel
theorem dX8_drop_6 : decode cX8_drop 6 = .ok (.iconst 2, 1) := by decide +kernel
theorem dX8_drop_7 : decode cX8_drop 7 = .ok (.putfield 15, 3) := by decide +kernel
theorem dX8_drop_10 : decode cX8_drop 10 = .ok (.aload_n 0, 1) := by decide +kernel
theorem dX8_drop_11 : decode cX8_drop 11 = .ok (.iconst 0, 1) := by decide +kernel
theorem dX8_drop_12 : decode cX8_drop 12 = .ok (.putfield 18, 3) := by decide +kernel
theorem dX8_drop_15 : decode cX8_drop 15 = .ok (.aload_n 0, 1) := by decide +kernel
theorem dX8_drop_16 : decode cX8_drop 16 = .ok (.iconst (-1), 1) := by decide +kernel
theorem dX8_drop_17 : decode cX8_drop 17 = .ok (.putfield 21, 3) := by decide +kernel
theorem dX8_drop_20 : decode cX8_drop 20 = .ok (.aload_n 0, 1) := by decide +kernel
theorem dX8_drop_21 : decode cX8_drop 21 = .ok (.iconst 0, 1) := by decide +kernel
theorem dX8_drop_22 : decode cX8_drop 22 = .ok (.putfield 24, 3) := by decide +kernel
theorem dX8_drop_25 : decode cX8_drop 25 = .ok (.aload_n 0, 1) := by decide +kernel
theorem dX8_drop_26 : decode cX8_drop 26 = .ok (.iconst 0, 1) := by decide +kernel
theorem dX8_drop_27 : decode cX8_drop 27 = .ok (.putfield 27, 3) := by decide +kernel
theorem dX8_drop_30 : decode cX8_drop 30 = .ok (.aload_n 0, 1) := by decide +kernel
theorem dX8_drop_31 : decode cX8_drop 31 = .ok (.iconst 0, 1) := by decide +kernel
theorem dX8_drop_32 : decode cX8_drop 32 = .ok (.putfield 43, 3) := by decide +kernel
theorem dX8_drop_35 : decode cX8_drop 35 = .ok (.aload_n 0, 1) := by decide +kernel
theorem dX8_drop_36 : decode cX8_drop 36 = .ok (.iconst 0, 1) := by decide +kernel
theorem dX8_drop_37 : decode cX8_drop 37 = .ok (.putfield 46, 3) := by decide +kernel
theorem dX8_drop_40 : decode cX8_drop 40 = .ok (.aload_n 0, 1) := by decide +kernel
theorem dX8_drop_41 : decode cX8_drop 41 = .ok (.getfield 52, 3) := by decide +kernel
theorem dX8_drop_44 : decode cX8_drop 44 = .ok (.iconst 0, 1) := by decide +kernel
theorem dX8_drop_45 : decode cX8_drop 45 = .ok (.putfield 75, 3) := by decide +kernel
theorem dX8_drop_48 : decode cX8_drop 48 = .ok (.aload_n 0, 1) := by decide +kernel
theorem dX8_drop_49 : decode cX8_drop 49 = .ok (.getfield 59, 3) := by decide +kernel
theorem dX8_drop_52 : decode cX8_drop 52 = .ok (.invokevirtual 78, 3) := by decide +kernel
theorem dX8_drop_55 : decode cX8_drop 55 = .ok (.return_, 1) := by decide +kernel
theorem dX7_isBlank_0 : decode cX7_isBlank 0 = .ok (.iload_n 0, 1) := by decide +kernel
theorem dX7_isBlank_1 : decode cX7_isBlank 1 = .ok (.bipush 32, 2) := by decide +kernel
theorem dX7_isBlank_3 : decode cX7_isBlank 3 = .ok (.if_icmp .eq 9, 3) := by decide +kernel
theorem dX7_isBlank_12 : decode cX7_isBlank 12 = .ok (.iconst 1, 1) := by decide +kernel
theorem dX7_isBlank_13 : decode cX7_isBlank 13 = .ok (.goto 4, 3) := by decide +kernel
theorem dX7_isBlank_17 : decode cX7_isBlank 17 = .ok (.ireturn, 1) := by decide +kernel
theorem dX7_isBlank_6 : decode cX7_isBlank 6 = .ok (.iload_n 0, 1) := by decide +kernel
theorem dX7_isBlank_7 : decode cX7_isBlank 7 = .ok (.bipush 10, 2) := by decide +kernel
theorem dX7_isBlank_9 : decode cX7_isBlank 9 = .ok (.if_icmp .ne 7, 3) := by decide +kernel
theorem dX7_isBlank_16 : decode cX7_isBlank 16 = .ok (.iconst 0, 1) := by decide +kernel
theorem dX7_isLetter_0 : decode cX7_isLetter 0 = .ok (.iload_n 0, 1) := by decide +kernel
theorem dX7_isLetter_1 : decode cX7_isLetter 1 = .ok (.bipush 97, 2) := by decide +kernel
theorem dX7_isLetter_3 : decode cX7_isLetter 3 = .ok (.if_icmp .lt 13, 3) := by decide +kernel
theorem dX7_isLetter_16 : decode cX7_isLetter 16 = .ok (.iconst 0, 1) := by decide +kernel
theorem dX7_isLetter_17 : decode cX7_isLetter 17 = .ok (.ireturn, 1) := by decide +kernel
theorem dX7_isLetter_6 : decode cX7_isLetter 6 = .ok (.iload_n 0, 1) := by decide +kernel
theorem dX7_isLetter_7 : decode cX7_isLetter 7 = .ok (.bipush 122, 2) := by decide +kernel
theorem dX7_isLetter_9 : decode cX7_isLetter 9 = .ok (.if_icmp .gt 7, 3) := by decide +kernel
theorem dX7_isLetter_12 : decode cX7_isLetter 12 = .ok (.iconst 1, 1) := by decide +kernel
theorem dX7_isLetter_13 : decode cX7_isLetter 13 = .ok (.goto 4, 3) := by decide +kernel
theorem dX7_isDigit_0 : decode cX7_isDigit 0 = .ok (.iload_n 0, 1) := by decide +kernel
theorem dX7_isDigit_1 : decode cX7_isDigit 1 = .ok (.bipush 48, 2) := by decide +kernel
theorem dX7_isDigit_3 : decode cX7_isDigit 3 = .ok (.if_icmp .lt 13, 3) := by decide +kernel
theorem dX7_isDigit_16 : decode cX7_isDigit 16 = .ok (.iconst 0, 1) := by decide +kernel
theorem dX7_isDigit_17 : decode cX7_isDigit 17 = .ok (.ireturn, 1) := by decide +kernel
theorem dX7_isDigit_6 : decode cX7_isDigit 6 = .ok (.iload_n 0, 1) := by decide +kernel
theorem dX7_isDigit_7 : decode cX7_isDigit 7 = .ok (.bipush 57, 2) := by decide +kernel
theorem dX7_isDigit_9 : decode cX7_isDigit 9 = .ok (.if_icmp .gt 7, 3) := by decide +kernel
theorem dX7_isDigit_12 : decode cX7_isDigit 12 = .ok (.iconst 1, 1) := by decide +kernel
theorem dX7_isDigit_13 : decode cX7_isDigit 13 = .ok (.goto 4, 3) := by decide +kernel
theorem dX7_advance_0 : decode cX7_advance 0 = .ok (.aload_n 0, 1) := by decide +kernel
theorem dX7_advance_1 : decode cX7_advance 1 = .ok (.aload_n 0, 1) := by decide +kernel
theorem dX7_advance_2 : decode cX7_advance 2 = .ok (.getfield 17, 3) := by decide +kernel
theorem dX7_advance_5 : decode cX7_advance 5 = .ok (.putfield 23, 3) := by decide +kernel
theorem dX7_advance_8 : decode cX7_advance 8 = .ok (.aload_n 0, 1) := by decide +kernel
theorem dX7_advance_9 : decode cX7_advance 9 = .ok (.getfield 23, 3) := by decide +kernel
theorem dX7_advance_12 : decode cX7_advance 12 = .ok (.aload_n 0, 1) := by decide +kernel
theorem dX7_advance_13 : decode cX7_advance 13 = .ok (.getfield 13, 3) := by decide +kernel
theorem dX7_advance_16 : decode cX7_advance 16 = .ok (.if_icmp .ge 31, 3) := by decide +kernel
theorem dX7_advance_19 : decode cX7_advance 19 = .ok (.aload_n 0, 1) := by decide +kernel
theorem dX7_advance_20 : decode cX7_advance 20 = .ok (.getfield 7, 3) := by decide +kernel
theorem dX7_advance_23 : decode cX7_advance 23 = .ok (.aload_n 0, 1) := by decide +kernel
theorem dX7_advance_24 : decode cX7_advance 24 = .ok (.getfield 23, 3) := by decide +kernel
theorem dX7_advance_27 : decode cX7_advance 27 = .ok (.baload, 1) := by decide +kernel
theorem dX7_advance_28 : decode cX7_advance 28 = .ok (.invokestatic 38, 3) := by decide +kernel
theorem dX7_advance_31 : decode cX7_advance 31 = .ok (.ifCond .eq 16, 3) := by decide +kernel
theorem dX7_advance_34 : decode cX7_advance 34 = .ok (.aload_n 0, 1) := by decide +kernel
theorem dX7_advance_35 : decode cX7_advance 35 = .ok (.dup, 1) := by decide +kernel
theorem dX7_advance_36 : decode cX7_advance 36 = .ok (.getfield 23, 3) := by decide +kernel
theorem dX7_advance_39 : decode cX7_advance 39 = .ok (.iconst 1, 1) := by decide +kernel
theorem dX7_advance_40 : decode cX7_advance 40 = .ok (.iadd, 1) := by decide +kernel
theorem dX7_advance_41 : decode cX7_advance 41 = .ok (.putfield 23, 3) := by decide +kernel
theorem dX7_advance_44 : decode cX7_advance 44 = .ok (.goto (-36), 3) := by decide +kernel
theorem dX7_advance_47 : decode cX7_advance 47 = .ok (.aload_n 0, 1) := by decide +kernel
theorem dX7_advance_48 : decode cX7_advance 48 = .ok (.aload_n 0, 1) := by decide +kernel
theorem dX7_advance_49 : decode cX7_advance 49 = .ok (.getfield 23, 3) := by decide +kernel
theorem dX7_advance_52 : decode cX7_advance 52 = .ok (.putfield 17, 3) := by decide +kernel
theorem dX7_advance_55 : decode cX7_advance 55 = .ok (.aload_n 0, 1) := by decide +kernel
theorem dX7_advance_56 : decode cX7_advance 56 = .ok (.iconst 0, 1) := by decide +kernel
theorem dX7_advance_57 : decode cX7_advance 57 = .ok (.putfield 26, 3) := by decide +kernel
theorem dX7_advance_60 : decode cX7_advance 60 = .ok (.aload_n 0, 1) := by decide +kernel
theorem dX7_advance_61 : decode cX7_advance 61 = .ok (.getfield 23, 3) := by decide +kernel
theorem dX7_advance_64 : decode cX7_advance 64 = .ok (.aload_n 0, 1) := by decide +kernel
theorem dX7_advance_65 : decode cX7_advance 65 = .ok (.getfield 13, 3) := by decide +kernel
theorem dX7_advance_68 : decode cX7_advance 68 = .ok (.if_icmp .lt 11, 3) := by decide +kernel
theorem dX7_advance_79 : decode cX7_advance 79 = .ok (.aload_n 0, 1) := by decide +kernel
theorem dX7_advance_80 : decode cX7_advance 80 = .ok (.getfield 7, 3) := by decide +kernel
theorem dX7_advance_83 : decode cX7_advance 83 = .ok (.aload_n 0, 1) := by decide +kernel
theorem dX7_advance_84 : decode cX7_advance 84 = .ok (.getfield 23, 3) := by decide +kernel
theorem dX7_advance_87 : decode cX7_advance 87 = .ok (.baload, 1) := by decide +kernel
theorem dX7_advance_88 : decode cX7_advance 88 = .ok (.invokestatic 42, 3) := by decide +kernel
theorem dX7_advance_91 : decode cX7_advance 91 = .ok (.ifCond .eq 47, 3) := by decide +kernel
theorem dX7_advance_138 : decode cX7_advance 138 = .ok (.aload_n 0, 1) := by decide +kernel
theorem dX7_advance_139 : decode cX7_advance 139 = .ok (.getfield 7, 3) := by decide +kernel
theorem dX7_advance_142 : decode cX7_advance 142 = .ok (.aload_n 0, 1) := by decide +kernel
theorem dX7_advance_143 : decode cX7_advance 143 = .ok (.getfield 23, 3) := by decide +kernel
theorem dX7_advance_146 : decode cX7_advance 146 = .ok (.baload, 1) := by decide +kernel
theorem dX7_advance_147 : decode cX7_advance 147 = .ok (.invokestatic 45, 3) := by decide +kernel
theorem dX7_advance_150 : decode cX7_advance 150 = .ok (.ifCond .eq 76, 3) := by decide +kernel
theorem dX7_advance_226 : decode cX7_advance 226 = .ok (.aload_n 0, 1) := by decide +kernel
theorem dX7_advance_227 : decode cX7_advance 227 = .ok (.aload_n 0, 1) := by decide +kernel
theorem dX7_advance_228 : decode cX7_advance 228 = .ok (.getfield 7, 3) := by decide +kernel
theorem dX7_advance_231 : decode cX7_advance 231 = .ok (.aload_n 0, 1) := by decide +kernel
theorem dX7_advance_232 : decode cX7_advance 232 = .ok (.getfield 23, 3) := by decide +kernel
theorem dX7_advance_235 : decode cX7_advance 235 = .ok (.baload, 1) := by decide +kernel
theorem dX7_advance_236 : decode cX7_advance 236 = .ok (.bipush 59, 2) := by decide +kernel
theorem dX7_advance_238 : decode cX7_advance 238 = .ok (.if_icmp .ne 7, 3) := by decide +kernel
theorem dX7_advance_245 : decode cX7_advance 245 = .ok (.iconst 4, 1) := by decide +kernel
theorem dX7_advance_246 : decode cX7_advance 246 = .ok (.putfield 20, 3) := by decide +kernel
theorem dX7_advance_249 : decode cX7_advance 249 = .ok (.aload_n 0, 1) := by decide +kernel
theorem dX7_advance_250 : decode cX7_advance 250 = .ok (.aload_n 0, 1) := by decide +kernel
theorem dX7_advance_251 : decode cX7_advance 251 = .ok (.getfield 23, 3) := by decide +kernel
theorem dX7_advance_254 : decode cX7_advance 254 = .ok (.iconst 1, 1) := by decide +kernel
theorem dX7_advance_255 : decode cX7_advance 255 = .ok (.iadd, 1) := by decide +kernel
theorem dX7_advance_256 : decode cX7_advance 256 = .ok (.putfield 17, 3) := by decide +kernel
theorem dX7_advance_259 : decode cX7_advance 259 = .ok (.return_, 1) := by decide +kernel
theorem dX7_advance_241 : decode cX7_advance 241 = .ok (.iconst 3, 1) := by decide +kernel
theorem dX7_advance_242 : decode cX7_advance 242 = .ok (.goto 4, 3) := by decide +kernel
theorem dX7_advance_153 : decode cX7_advance 153 = .ok (.aload_n 0, 1) := by decide +kernel
theorem dX7_advance_154 : decode cX7_advance 154 = .ok (.iconst 2, 1) := by decide +kernel
theorem dX7_advance_155 : decode cX7_advance 155 = .ok (.putfield 20, 3) := by decide +kernel
theorem dX7_advance_158 : decode cX7_advance 158 = .ok (.aload_n 0, 1) := by decide +kernel
theorem dX7_advance_159 : decode cX7_advance 159 = .ok (.getfield 17, 3) := by decide +kernel
theorem dX7_advance_162 : decode cX7_advance 162 = .ok (.aload_n 0, 1) := by decide +kernel
theorem dX7_advance_163 : decode cX7_advance 163 = .ok (.getfield 13, 3) := by decide +kernel
theorem dX7_advance_166 : decode cX7_advance 166 = .ok (.if_icmp .ge 93, 3) := by decide +kernel
theorem dX7_advance_169 : decode cX7_advance 169 = .ok (.aload_n 0, 1) := by decide +kernel
theorem dX7_advance_170 : decode cX7_advance 170 = .ok (.getfield 7, 3) := by decide +kernel
theorem dX7_advance_173 : decode cX7_advance 173 = .ok (.aload_n 0, 1) := by decide +kernel
theorem dX7_advance_174 : decode cX7_advance 174 = .ok (.getfield 17, 3) := by decide +kernel
theorem dX7_advance_177 : decode cX7_advance 177 = .ok (.baload, 1) := by decide +kernel
theorem dX7_advance_178 : decode cX7_advance 178 = .ok (.invokestatic 45, 3) := by decide +kernel
theorem dX7_advance_181 : decode cX7_advance 181 = .ok (.ifCond .eq 78, 3) := by decide +kernel
theorem dX7_advance_184 : decode cX7_advance 184 = .ok (.aload_n 0, 1) := by decide +kernel
theorem dX7_advance_185 : decode cX7_advance 185 = .ok (.aload_n 0, 1) := by decide +kernel
theorem dX7_advance_186 : decode cX7_advance 186 = .ok (.getfield 26, 3) := by decide +kernel
theorem dX7_advance_189 : decode cX7_advance 189 = .ok (.bipush 10, 2) := by decide +kernel
theorem dX7_advance_191 : decode cX7_advance 191 = .ok (.imul, 1) := by decide +kernel
theorem dX7_advance_192 : decode cX7_advance 192 = .ok (.aload_n 0, 1) := by decide +kernel
theorem dX7_advance_193 : decode cX7_advance 193 = .ok (.getfield 7, 3) := by decide +kernel
theorem dX7_advance_196 : decode cX7_advance 196 = .ok (.aload_n 0, 1) := by decide +kernel
theorem dX7_advance_197 : decode cX7_advance 197 = .ok (.getfield 17, 3) := by decide +kernel
theorem dX7_advance_200 : decode cX7_advance 200 = .ok (.baload, 1) := by decide +kernel
theorem dX7_advance_201 : decode cX7_advance 201 = .ok (.iadd, 1) := by decide +kernel
theorem dX7_advance_202 : decode cX7_advance 202 = .ok (.bipush 48, 2) := by decide +kernel
theorem dX7_advance_204 : decode cX7_advance 204 = .ok (.isub, 1) := by decide +kernel
theorem dX7_advance_205 : decode cX7_advance 205 = .ok (.ldc 48, 2) := by decide +kernel
theorem dX7_advance_207 : decode cX7_advance 207 = .ok (.invokestatic 29, 3) := by decide +kernel
theorem dX7_advance_210 : decode cX7_advance 210 = .ok (.putfield 26, 3) := by decide +kernel
theorem dX7_advance_213 : decode cX7_advance 213 = .ok (.aload_n 0, 1) := by decide +kernel
theorem dX7_advance_214 : decode cX7_advance 214 = .ok (.dup, 1) := by decide +kernel
theorem dX7_advance_215 : decode cX7_advance 215 = .ok (.getfield 17, 3) := by decide +kernel
theorem dX7_advance_218 : decode cX7_advance 218 = .ok (.iconst 1, 1) := by decide +kernel
theorem dX7_advance_219 : decode cX7_advance 219 = .ok (.iadd, 1) := by decide +kernel
theorem dX7_advance_220 : decode cX7_advance 220 = .ok (.putfield 17, 3) := by decide +kernel
theorem dX7_advance_223 : decode cX7_advance 223 = .ok (.goto (-65), 3) := by decide +kernel
theorem dX7_advance_94 : decode cX7_advance 94 = .ok (.aload_n 0, 1) := by decide +kernel
theorem dX7_advance_95 : decode cX7_advance 95 = .ok (.iconst 1, 1) := by decide +kernel
theorem dX7_advance_96 : decode cX7_advance 96 = .ok (.putfield 20, 3) := by decide +kernel
theorem dX7_advance_99 : decode cX7_advance 99 = .ok (.aload_n 0, 1) := by decide +kernel
theorem dX7_advance_100 : decode cX7_advance 100 = .ok (.getfield 17, 3) := by decide +kernel
theorem dX7_advance_103 : decode cX7_advance 103 = .ok (.aload_n 0, 1) := by decide +kernel
theorem dX7_advance_104 : decode cX7_advance 104 = .ok (.getfield 13, 3) := by decide +kernel
theorem dX7_advance_107 : decode cX7_advance 107 = .ok (.if_icmp .ge 152, 3) := by decide +kernel
theorem dX7_advance_110 : decode cX7_advance 110 = .ok (.aload_n 0, 1) := by decide +kernel
theorem dX7_advance_111 : decode cX7_advance 111 = .ok (.getfield 7, 3) := by decide +kernel
theorem dX7_advance_114 : decode cX7_advance 114 = .ok (.aload_n 0, 1) := by decide +kernel
theorem dX7_advance_115 : decode cX7_advance 115 = .ok (.getfield 17, 3) := by decide +kernel
theorem dX7_advance_118 : decode cX7_advance 118 = .ok (.baload, 1) := by decide +kernel
theorem dX7_advance_119 : decode cX7_advance 119 = .ok (.invokestatic 42, 3) := by decide +kernel
theorem dX7_advance_122 : decode cX7_advance 122 = .ok (.ifCond .eq 137, 3) := by decide +kernel
theorem dX7_advance_125 : decode cX7_advance 125 = .ok (.aload_n 0, 1) := by decide +kernel
theorem dX7_advance_126 : decode cX7_advance 126 = .ok (.dup, 1) := by decide +kernel
theorem dX7_advance_127 : decode cX7_advance 127 = .ok (.getfield 17, 3) := by decide +kernel
theorem dX7_advance_130 : decode cX7_advance 130 = .ok (.iconst 1, 1) := by decide +kernel
theorem dX7_advance_131 : decode cX7_advance 131 = .ok (.iadd, 1) := by decide +kernel
theorem dX7_advance_132 : decode cX7_advance 132 = .ok (.putfield 17, 3) := by decide +kernel
theorem dX7_advance_135 : decode cX7_advance 135 = .ok (.goto (-36), 3) := by decide +kernel
theorem dX7_advance_71 : decode cX7_advance 71 = .ok (.aload_n 0, 1) := by decide +kernel
theorem dX7_advance_72 : decode cX7_advance 72 = .ok (.iconst 0, 1) := by decide +kernel
theorem dX7_advance_73 : decode cX7_advance 73 = .ok (.putfield 20, 3) := by decide +kernel
theorem dX7_advance_76 : decode cX7_advance 76 = .ok (.goto 183, 3) := by decide +kernel
theorem dX8_mayStand_0 : decode cX8_mayStand 0 = .ok (.aload_n 0, 1) := by decide +kernel
theorem dX8_mayStand_1 : decode cX8_mayStand 1 = .ok (.iload_n 1, 1) := by decide +kernel
theorem dX8_mayStand_2 : decode cX8_mayStand 2 = .ok (.invokevirtual 100, 3) := by decide +kernel
theorem dX8_mayStand_5 : decode cX8_mayStand 5 = .ok (.ifCond .eq 17, 3) := by decide +kernel
theorem dX8_mayStand_22 : decode cX8_mayStand 22 = .ok (.aload_n 0, 1) := by decide +kernel
theorem dX8_mayStand_23 : decode cX8_mayStand 23 = .ok (.iload_n 1, 1) := by decide +kernel
theorem dX8_mayStand_24 : decode cX8_mayStand 24 = .ok (.lload_n 2, 1) := by decide +kernel
theorem dX8_mayStand_25 : decode cX8_mayStand 25 = .ok (.invokevirtual 104, 3) := by decide +kernel
theorem dX8_mayStand_28 : decode cX8_mayStand 28 = .ok (.ireturn, 1) := by decide +kernel
theorem dX8_mayStand_8 : decode cX8_mayStand 8 = .ok (.lload_n 2, 1) := by decide +kernel
theorem dX8_mayStand_9 : decode cX8_mayStand 9 = .ok (.lconst 1, 1) := by decide +kernel
theorem dX8_mayStand_10 : decode cX8_mayStand 10 = .ok (.lcmp, 1) := by decide +kernel
theorem dX8_mayStand_11 : decode cX8_mayStand 11 = .ok (.ifCond .ne 7, 3) := by decide +kernel
theorem dX8_mayStand_18 : decode cX8_mayStand 18 = .ok (.iconst 0, 1) := by decide +kernel
theorem dX8_mayStand_19 : decode cX8_mayStand 19 = .ok (.goto 9, 3) := by decide +kernel
theorem dX8_mayStand_14 : decode cX8_mayStand 14 = .ok (.iconst 1, 1) := by decide +kernel
theorem dX8_mayStand_15 : decode cX8_mayStand 15 = .ok (.goto 13, 3) := by decide +kernel
theorem mw_184 : Cond.methodLink RX0 65 yX2_sumOf ∈ bW := bW_at 937 (by decide +kernel) (by decide +kernel)
theorem mw_185 : Cond.code yX2_worstOf cX2_worstOf 7 (some .int) ∈ bW := bW_at 899 (by decide +kernel) (by decide +kernel)
theorem mw_186 : Cond.methodLink RX0 62 yX2_worstOf ∈ bW := bW_at 936 (by decide +kernel) (by decide +kernel)
theorem mw_187 : Cond.instanceMethod yX2_worstOf ∈ bW := bW_at 897 (by decide +kernel) (by decide +kernel)
theorem mw_188 : Cond.selects RX2 yX2_worstOf yX2_worstOf ∈ bW := bW_at 898 (by decide +kernel) (by decide +kernel)
theorem mw_189 : Cond.fieldLink RX3 18 "OneWays$Purse" "prices" "[I" ∈ bW := bW_at 424 (by decide +kernel) (by decide +kernel)
theorem mw_190 : Cond.code yX3_priceOf cX3_priceOf 6 (some .int) ∈ bW := bW_at 1064 (by decide +kernel) (by decide +kernel)
theorem mw_191 : Cond.methodLink RX3 64 yX3_priceOf ∈ bW := bW_at 1061 (by decide +kernel) (by decide +kernel)
theorem mw_192 : Cond.instanceMethod yX3_priceOf ∈ bW := bW_at 1063 (by decide +kernel) (by decide +kernel)
theorem mw_193 : Cond.selects RX3 yX3_priceOf yX3_priceOf ∈ bW := bW_at 35 (by decide +kernel) (by decide +kernel)
theorem mw_194 : Cond.initialized RX3 ∈ bW := bW_at 113 (by decide +kernel) (by decide +kernel)
theorem mw_195 : Cond.code yX3_makeBoth cX3_makeBoth 5 none ∈ bW := bW_at 1068 (by decide +kernel) (by decide +kernel)
theorem mw_196 : Cond.methodLink RX3 40 yX3_makeBoth ∈ bW := bW_at 1065 (by decide +kernel) (by decide +kernel)
theorem mw_197 : Cond.instanceMethod yX3_makeBoth ∈ bW := bW_at 1067 (by decide +kernel) (by decide +kernel)
theorem mw_198 : Cond.selects RX3 yX3_makeBoth yX3_makeBoth ∈ bW := bW_at 36 (by decide +kernel) (by decide +kernel)
theorem mw_199 : Cond.fieldLink RX3 21 "OneWays$Purse" "sums" "[I" ∈ bW := bW_at 425 (by decide +kernel) (by decide +kernel)
theorem mw_200 : Cond.fieldLink RX3 24 "OneWays$Purse" "paths" "LOneWays$Paths;" ∈ bW := bW_at 421 (by decide +kernel) (by decide +kernel)
theorem mw_201 : Cond.constant RX3 44 1000000000 ∈ bW := bW_at 1069 (by decide +kernel) (by decide +kernel)
theorem mw_202 : Cond.methodLink RX3 68 yX2_sumOf ∈ bW := bW_at 1070 (by decide +kernel) (by decide +kernel)
theorem mw_203 : Cond.code yX8_addAlley cX8_addAlley 5 none ∈ bW := bW_at 685 (by decide +kernel) (by decide +kernel)
theorem mw_204 : Cond.methodLink RX8 94 yX8_addAlley ∈ bW := bW_at 729 (by decide +kernel) (by decide +kernel)
theorem mw_205 : Cond.instanceMethod yX8_addAlley ∈ bW := bW_at 683 (by decide +kernel) (by decide +kernel)
theorem mw_206 : Cond.selects RX8 yX8_addAlley yX8_addAlley ∈ bW := bW_at 684 (by decide +kernel) (by decide +kernel)
theorem mw_207 : Cond.code yX8_listEnds cX8_listEnds 4 none ∈ bW := bW_at 463 (by decide +kernel) (by decide +kernel)
theorem mw_208 : Cond.methodLink RX2 30 yX8_listEnds ∈ bW := bW_at 460 (by decide +kernel) (by decide +kernel)
theorem mw_209 : Cond.instanceMethod yX8_listEnds ∈ bW := bW_at 461 (by decide +kernel) (by decide +kernel)
theorem mw_210 : Cond.selects RX8 yX8_listEnds yX8_listEnds ∈ bW := bW_at 462 (by decide +kernel) (by decide +kernel)
theorem mw_211 : Cond.fieldLink RX2 27 "OneWays$Paths" "allBoth" "[I" ∈ bW := bW_at 378 (by decide +kernel) (by decide +kernel)
theorem mw_212 : Cond.code yX2_measureAll cX2_measureAll 6 none ∈ bW := bW_at 467 (by decide +kernel) (by decide +kernel)
theorem mw_213 : Cond.methodLink RX2 38 yX2_measureAll ∈ bW := bW_at 464 (by decide +kernel) (by decide +kernel)
theorem mw_214 : Cond.instanceMethod yX2_measureAll ∈ bW := bW_at 465 (by decide +kernel) (by decide +kernel)
theorem mw_215 : Cond.selects RX2 yX2_measureAll yX2_measureAll ∈ bW := bW_at 466 (by decide +kernel) (by decide +kernel)
theorem mw_216 : Cond.fieldLink RX2 42 "OneWays$Town" "bridges" "I" ∈ bW := bW_at 285 (by decide +kernel) (by decide +kernel)
theorem mw_217 : Cond.code yX0_listOpen cX0_listOpen 5 (some .int) ∈ bW := bW_at 926 (by decide +kernel) (by decide +kernel)
theorem mw_218 : Cond.methodLink RX0 49 yX0_listOpen ∈ bW := bW_at 923 (by decide +kernel) (by decide +kernel)
theorem mw_219 : Cond.instanceMethod yX0_listOpen ∈ bW := bW_at 925 (by decide +kernel) (by decide +kernel)
theorem mw_220 : Cond.selects RX0 yX0_listOpen yX0_listOpen ∈ bW := bW_at 22 (by decide +kernel) (by decide +kernel)
theorem mw_221 : Cond.constant RX0 53 1000000000 ∈ bW := bW_at 927 (by decide +kernel) (by decide +kernel)
theorem mw_222 : Cond.code yX0_giveTrial cX0_giveTrial 5 none ∈ bW := bW_at 931 (by decide +kernel) (by decide +kernel)
theorem mw_223 : Cond.methodLink RX0 54 yX0_giveTrial ∈ bW := bW_at 928 (by decide +kernel) (by decide +kernel)
theorem mw_224 : Cond.instanceMethod yX0_giveTrial ∈ bW := bW_at 930 (by decide +kernel) (by decide +kernel)
theorem mw_225 : Cond.selects RX0 yX0_giveTrial yX0_giveTrial ∈ bW := bW_at 23 (by decide +kernel) (by decide +kernel)
theorem mw_226 : Cond.code yX0_rate cX0_rate 5 (some .int) ∈ bW := bW_at 935 (by decide +kernel) (by decide +kernel)
theorem mw_227 : Cond.methodLink RX0 58 yX0_rate ∈ bW := bW_at 932 (by decide +kernel) (by decide +kernel)
theorem mw_228 : Cond.instanceMethod yX0_rate ∈ bW := bW_at 934 (by decide +kernel) (by decide +kernel)
theorem mw_229 : Cond.selects RX0 yX0_rate yX0_rate ∈ bW := bW_at 24 (by decide +kernel) (by decide +kernel)
theorem mw_230 : Cond.code yX10_sumBackTurned cX10_sumBackTurned 6 (some .int) ∈ bW := bW_at 1132 (by decide +kernel) (by decide +kernel)
theorem mw_231 : Cond.methodLink RX10 65 yX10_sumBackTurned ∈ bW := bW_at 1129 (by decide +kernel) (by decide +kernel)
theorem mw_232 : Cond.instanceMethod yX10_sumBackTurned ∈ bW := bW_at 1131 (by decide +kernel) (by decide +kernel)
theorem mw_233 : Cond.selects RX10 yX10_sumBackTurned yX10_sumBackTurned ∈ bW := bW_at 38 (by decide +kernel) (by decide +kernel)
theorem mw_234 : Cond.code yX3_isRowAhead cX3_isRowAhead 7 (some .boolean) ∈ bW := bW_at 1077 (by decide +kernel) (by decide +kernel)
theorem mw_235 : Cond.methodLink RX3 74 yX3_isRowAhead ∈ bW := bW_at 1075 (by decide +kernel) (by decide +kernel)
theorem mw_236 : Cond.static yX3_isRowAhead ∈ bW := bW_at 1076 (by decide +kernel) (by decide +kernel)
theorem mw_237 : Cond.fieldLink RX3 51 "OneWays$Town" "alleys" "I" ∈ bW := bW_at 239 (by decide +kernel) (by decide +kernel)
theorem mw_238 : Cond.methodLink RX3 60 yX8_isTold ∈ bW := bW_at 1056 (by decide +kernel) (by decide +kernel)
theorem mw_239 : Cond.code yX3_listPayable cX3_listPayable 6 (some .int) ∈ bW := bW_at 1055 (by decide +kernel) (by decide +kernel)
theorem mw_240 : Cond.methodLink RX3 28 yX3_listPayable ∈ bW := bW_at 1052 (by decide +kernel) (by decide +kernel)
theorem mw_241 : Cond.instanceMethod yX3_listPayable ∈ bW := bW_at 1054 (by decide +kernel) (by decide +kernel)
theorem mw_242 : Cond.selects RX3 yX3_listPayable yX3_listPayable ∈ bW := bW_at 33 (by decide +kernel) (by decide +kernel)
theorem mw_243 : Cond.code yX3_weighChoices cX3_weighChoices 6 none ∈ bW := bW_at 1060 (by decide +kernel) (by decide +kernel)
theorem mw_244 : Cond.methodLink RX3 32 yX3_weighChoices ∈ bW := bW_at 1057 (by decide +kernel) (by decide +kernel)
theorem mw_245 : Cond.instanceMethod yX3_weighChoices ∈ bW := bW_at 1059 (by decide +kernel) (by decide +kernel)
theorem mw_246 : Cond.selects RX3 yX3_weighChoices yX3_weighChoices ∈ bW := bW_at 34 (by decide +kernel) (by decide +kernel)
theorem mw_247 : Cond.code yX3_isAhead cX3_isAhead 3 (some .boolean) ∈ bW := bW_at 1074 (by decide +kernel) (by decide +kernel)
theorem mw_248 : Cond.methodLink RX3 36 yX3_isAhead ∈ bW := bW_at 1071 (by decide +kernel) (by decide +kernel)
theorem mw_249 : Cond.instanceMethod yX3_isAhead ∈ bW := bW_at 1073 (by decide +kernel) (by decide +kernel)
theorem mw_250 : Cond.selects RX3 yX3_isAhead yX3_isAhead ∈ bW := bW_at 37 (by decide +kernel) (by decide +kernel)
theorem mw_251 : Cond.methodLink RX3 45 Lib.Math.min.name ∈ bW := bW_at 1086 (by decide +kernel) (by decide +kernel)
theorem mw_252 : Cond.methodLink RX1 25 arraycopyName ∈ bW := bW_at 1257 (by decide +kernel) (by decide +kernel)
theorem mw_253 : Cond.native arraycopyName ∈ bW := bW_at 1135 (by decide +kernel) (by decide +kernel)
theorem mw_254 : Cond.static arraycopyName ∈ bW := bW_at 1134 (by decide +kernel) (by decide +kernel)
theorem mw_255 : Cond.initialized "java/lang/System" ∈ bW := bW_at 123 (by decide +kernel) (by decide +kernel)
theorem mw_256 : Cond.fieldLink RX6 9 "OneWays$Streets" "size" "I" ∈ bW := bW_at 209 (by decide +kernel) (by decide +kernel)
theorem mw_257 : Cond.fieldLink RX6 15 "OneWays$Streets" "taken" "I" ∈ bW := bW_at 212 (by decide +kernel) (by decide +kernel)
theorem mw_258 : Cond.methodLink RX6 31 arraycopyName ∈ bW := bW_at 1262 (by decide +kernel) (by decide +kernel)
theorem mw_259 : Cond.fieldLink RX8 9 "OneWays$Town" "lines" "I" ∈ bW := bW_at 228 (by decide +kernel) (by decide +kernel)
theorem mw_260 : Cond.fieldLink RX8 21 "OneWays$Town" "house" "I" ∈ bW := bW_at 243 (by decide +kernel) (by decide +kernel)
theorem mw_261 : Cond.methodLink RX8 81 arraycopyName ∈ bW := bW_at 1252 (by decide +kernel) (by decide +kernel)
theorem mw_262 : Cond.fieldLink RX8 46 "OneWays$Town" "against" "I" ∈ bW := bW_at 265 (by decide +kernel) (by decide +kernel)
theorem mw_263 : Cond.fieldLink RX8 52 "OneWays$Town" "journeys" "LOneWays$Journeys;" ∈ bW := bW_at 269 (by decide +kernel) (by decide +kernel)
theorem mw_264 : Cond.code yX1_takeFrom cX1_takeFrom 2 none ∈ bW := bW_at 1256 (by decide +kernel) (by decide +kernel)
theorem mw_265 : Cond.methodLink RX8 87 yX1_takeFrom ∈ bW := bW_at 1253 (by decide +kernel) (by decide +kernel)
theorem mw_266 : Cond.instanceMethod yX1_takeFrom ∈ bW := bW_at 1254 (by decide +kernel) (by decide +kernel)
theorem mw_267 : Cond.selects RX1 yX1_takeFrom yX1_takeFrom ∈ bW := bW_at 1255 (by decide +kernel) (by decide +kernel)
theorem mw_268 : Cond.initialized RX1 ∈ bW := bW_at 107 (by decide +kernel) (by decide +kernel)
theorem mw_269 : Cond.fieldLink RX8 59 "OneWays$Town" "streets" "LOneWays$Streets;" ∈ bW := bW_at 273 (by decide +kernel) (by decide +kernel)
theorem mw_270 : Cond.code yX6_takeFrom cX6_takeFrom 2 none ∈ bW := bW_at 1261 (by decide +kernel) (by decide +kernel)
theorem mw_271 : Cond.methodLink RX8 91 yX6_takeFrom ∈ bW := bW_at 1258 (by decide +kernel) (by decide +kernel)
theorem mw_272 : Cond.instanceMethod yX6_takeFrom ∈ bW := bW_at 1259 (by decide +kernel) (by decide +kernel)
theorem mw_273 : Cond.selects RX6 yX6_takeFrom yX6_takeFrom ∈ bW := bW_at 1260 (by decide +kernel) (by decide +kernel)
theorem mw_274 : Cond.initialized RX6 ∈ bW := bW_at 108 (by decide +kernel) (by decide +kernel)
theorem mw_275 : Cond.fieldLink RX8 69 "OneWays$Town" "apart" "[I" ∈ bW := bW_at 280 (by decide +kernel) (by decide +kernel)
theorem mw_276 : Cond.fieldLink RX8 72 "OneWays$Town" "bridges" "I" ∈ bW := bW_at 283 (by decide +kernel) (by decide +kernel)
theorem mw_277 : Cond.fieldLink RX5 12 "OneWays$State" "town" "LOneWays$Town;" ∈ bW := bW_at 349 (by decide +kernel) (by decide +kernel)
theorem mw_278 : Cond.code yX8_takeFrom cX8_takeFrom 2 none ∈ bW := bW_at 1251 (by decide +kernel) (by decide +kernel)
theorem mw_279 : Cond.methodLink RX5 27 yX8_takeFrom ∈ bW := bW_at 1248 (by decide +kernel) (by decide +kernel)
theorem mw_280 : Cond.instanceMethod yX8_takeFrom ∈ bW := bW_at 1249 (by decide +kernel) (by decide +kernel)
theorem mw_281 : Cond.selects RX8 yX8_takeFrom yX8_takeFrom ∈ bW := bW_at 1250 (by decide +kernel) (by decide +kernel)
theorem mw_282 : Cond.fieldLink RX5 20 "OneWays$State" "ways" "[[I" ∈ bW := bW_at 351 (by decide +kernel) (by decide +kernel)
theorem mw_283 : Cond.methodLink RX5 31 arraycopyName ∈ bW := bW_at 1263 (by decide +kernel) (by decide +kernel)
theorem mw_284 : Cond.constant RJ6 265 1431655765 ∈ bW := bW_at 916 (by decide +kernel) (by decide +kernel)
theorem mw_285 : Cond.constant RJ6 266 858993459 ∈ bW := bW_at 917 (by decide +kernel) (by decide +kernel)
theorem mw_286 : Cond.constant RJ6 267 252645135 ∈ bW := bW_at 918 (by decide +kernel) (by decide +kernel)
theorem mw_287 : Cond.methodLink RX5 37 yX8_openAlleys ∈ bW := bW_at 912 (by decide +kernel) (by decide +kernel)
theorem mw_288 : Cond.code yJ6_bitCount_0f7a4 cJ6_bitCount_0f7a4 1 (some .int) ∈ bW := bW_at 915 (by decide +kernel) (by decide +kernel)
theorem mw_289 : Cond.methodLink RX5 41 yJ6_bitCount_0f7a4 ∈ bW := bW_at 913 (by decide +kernel) (by decide +kernel)
theorem mw_290 : Cond.static yJ6_bitCount_0f7a4 ∈ bW := bW_at 914 (by decide +kernel) (by decide +kernel)
theorem mw_291 : Cond.initialized RJ6 ∈ bW := bW_at 122 (by decide +kernel) (by decide +kernel)
theorem mw_292 : Cond.fieldLink RX5 47 "OneWays$Town" "alleys" "I" ∈ bW := bW_at 240 (by decide +kernel) (by decide +kernel)
theorem mw_293 : Cond.methodLink RX5 51 yX8_isTold ∈ bW := bW_at 734 (by decide +kernel) (by decide +kernel)
theorem mw_294 : Cond.fieldLink RX4 18 "OneWays$Slot" "numbers" "[J" ∈ bW := bW_at 446 (by decide +kernel) (by decide +kernel)
theorem mw_295 : Cond.code yJ7_fill_d0a16 cJ7_fill_d0a16 5 none ∈ bW := bW_at 1278 (by decide +kernel) (by decide +kernel)
theorem mw_296 : Cond.methodLink RX4 22 yJ7_fill_d0a16 ∈ bW := bW_at 1276 (by decide +kernel) (by decide +kernel)
theorem mw_297 : Cond.static yJ7_fill_d0a16 ∈ bW := bW_at 1277 (by decide +kernel) (by decide +kernel)
theorem mw_298 : Cond.methodLink RX6 25 yJ7_fill_53178 ∈ bW := bW_at 574 (by decide +kernel) (by decide +kernel)
theorem mw_299 : Cond.fieldLink RX8 75 "OneWays$Journeys" "size" "I" ∈ bW := bW_at 180 (by decide +kernel) (by decide +kernel)
theorem mw_300 : Cond.code yX6_drop cX6_drop 1 none ∈ bW := bW_at 573 (by decide +kernel) (by decide +kernel)
theorem mw_301 : Cond.methodLink RX8 78 yX6_drop ∈ bW := bW_at 570 (by decide +kernel) (by decide +kernel)
theorem mw_302 : Cond.instanceMethod yX6_drop ∈ bW := bW_at 571 (by decide +kernel) (by decide +kernel)
theorem mw_303 : Cond.selects RX6 yX6_drop yX6_drop ∈ bW := bW_at 572 (by decide +kernel) (by decide +kernel)
theorem mw_304 : Cond.fieldLink RX7 17 "OneWays$Tokens" "stop" "I" ∈ bW := bW_at 146 (by decide +kernel) (by decide +kernel)
theorem mw_305 : Cond.fieldLink RX7 23 "OneWays$Tokens" "start" "I" ∈ bW := bW_at 149 (by decide +kernel) (by decide +kernel)
theorem mw_306 : Cond.fieldLink RX7 13 "OneWays$Tokens" "size" "I" ∈ bW := bW_at 145 (by decide +kernel) (by decide +kernel)
theorem mw_307 : Cond.fieldLink RX7 7 "OneWays$Tokens" "bytes" "[B" ∈ bW := bW_at 144 (by decide +kernel) (by decide +kernel)
theorem mw_308 : Cond.code yX7_isBlank cX7_isBlank 1 (some .boolean) ∈ bW := bW_at 588 (by decide +kernel) (by decide +kernel)
theorem mw_309 : Cond.methodLink RX7 38 yX7_isBlank ∈ bW := bW_at 586 (by decide +kernel) (by decide +kernel)
theorem mw_310 : Cond.static yX7_isBlank ∈ bW := bW_at 587 (by decide +kernel) (by decide +kernel)
theorem mw_311 : Cond.initialized RX7 ∈ bW := bW_at 105 (by decide +kernel) (by decide +kernel)
theorem mw_312 : Cond.fieldLink RX7 26 "OneWays$Tokens" "value" "I" ∈ bW := bW_at 151 (by decide +kernel) (by decide +kernel)
theorem mw_313 : Cond.code yX7_isLetter cX7_isLetter 1 (some .boolean) ∈ bW := bW_at 591 (by decide +kernel) (by decide +kernel)
theorem mw_314 : Cond.methodLink RX7 42 yX7_isLetter ∈ bW := bW_at 589 (by decide +kernel) (by decide +kernel)
theorem mw_315 : Cond.static yX7_isLetter ∈ bW := bW_at 590 (by decide +kernel) (by decide +kernel)
theorem mw_316 : Cond.code yX7_isDigit cX7_isDigit 1 (some .boolean) ∈ bW := bW_at 594 (by decide +kernel) (by decide +kernel)
theorem mw_317 : Cond.methodLink RX7 45 yX7_isDigit ∈ bW := bW_at 592 (by decide +kernel) (by decide +kernel)
theorem mw_318 : Cond.static yX7_isDigit ∈ bW := bW_at 593 (by decide +kernel) (by decide +kernel)
theorem mw_319 : Cond.fieldLink RX7 20 "OneWays$Tokens" "kind" "I" ∈ bW := bW_at 147 (by decide +kernel) (by decide +kernel)
theorem mw_320 : Cond.constant RX7 48 100000 ∈ bW := bW_at 595 (by decide +kernel) (by decide +kernel)
theorem mw_321 : Cond.methodLink RX7 29 Lib.Math.min.name ∈ bW := bW_at 579 (by decide +kernel) (by decide +kernel)
