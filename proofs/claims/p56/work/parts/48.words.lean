theorem dX12_feed_0 : decode cX12_feed 0 = .ok (.aload_n 0, 1) := by decide +kernel
theorem dX12_feed_1 : decode cX12_feed 1 = .ok (.getfield 112, 3) := by decide +kernel
theorem dX12_feed_4 : decode cX12_feed 4 = .ok (.bipush 20, 2) := by decide +kernel
theorem dX12_feed_6 : decode cX12_feed 6 = .ok (.iadd, 1) := by decide +kernel
theorem dX12_feed_7 : decode cX12_feed 7 = .ok (.sipush 800, 3) := by decide +kernel
theorem dX12_feed_10 : decode cX12_feed 10 = .ok (.if_icmp .le 5, 3) := by decide +kernel
theorem dX12_feed_15 : decode cX12_feed 15 = .ok (.aload_n 0, 1) := by decide +kernel
theorem dX12_feed_16 : decode cX12_feed 16 = .ok (.getfield 28, 3) := by decide +kernel
theorem dX12_feed_19 : decode cX12_feed 19 = .ok (.iconst 0, 1) := by decide +kernel
theorem dX12_feed_20 : decode cX12_feed 20 = .ok (.iload_n 1, 1) := by decide +kernel
theorem dX12_feed_21 : decode cX12_feed 21 = .ok (.iastore, 1) := by decide +kernel
theorem dX12_feed_22 : decode cX12_feed 22 = .ok (.aload_n 0, 1) := by decide +kernel
theorem dX12_feed_23 : decode cX12_feed 23 = .ok (.getfield 28, 3) := by decide +kernel
theorem dX12_feed_26 : decode cX12_feed 26 = .ok (.iconst 1, 1) := by decide +kernel
theorem dX12_feed_27 : decode cX12_feed 27 = .ok (.iload_n 2, 1) := by decide +kernel
theorem dX12_feed_28 : decode cX12_feed 28 = .ok (.iastore, 1) := by decide +kernel
theorem dX12_feed_29 : decode cX12_feed 29 = .ok (.aload_n 0, 1) := by decide +kernel
theorem dX12_feed_30 : decode cX12_feed 30 = .ok (.getfield 28, 3) := by decide +kernel
theorem dX12_feed_33 : decode cX12_feed 33 = .ok (.iconst 2, 1) := by decide +kernel
theorem dX12_feed_34 : decode cX12_feed 34 = .ok (.iload_n 3, 1) := by decide +kernel
theorem dX12_feed_35 : decode cX12_feed 35 = .ok (.iastore, 1) := by decide +kernel
theorem dX12_feed_36 : decode cX12_feed 36 = .ok (.aload_n 0, 1) := by decide +kernel
theorem dX12_feed_37 : decode cX12_feed 37 = .ok (.getfield 28, 3) := by decide +kernel
theorem dX12_feed_40 : decode cX12_feed 40 = .ok (.iconst 3, 1) := by decide +kernel
theorem dX12_feed_41 : decode cX12_feed 41 = .ok (.iload 4, 2) := by decide +kernel
theorem dX12_feed_43 : decode cX12_feed 43 = .ok (.iastore, 1) := by decide +kernel
theorem dX12_feed_44 : decode cX12_feed 44 = .ok (.aload_n 0, 1) := by decide +kernel
theorem dX12_feed_45 : decode cX12_feed 45 = .ok (.getfield 28, 3) := by decide +kernel
theorem dX12_feed_48 : decode cX12_feed 48 = .ok (.iconst 4, 1) := by decide +kernel
theorem dX12_feed_49 : decode cX12_feed 49 = .ok (.iload 5, 2) := by decide +kernel
theorem dX12_feed_51 : decode cX12_feed 51 = .ok (.iastore, 1) := by decide +kernel
theorem dX12_feed_52 : decode cX12_feed 52 = .ok (.iconst 0, 1) := by decide +kernel
theorem dX12_feed_53 : decode cX12_feed 53 = .ok (.istore 6, 2) := by decide +kernel
theorem dX12_feed_55 : decode cX12_feed 55 = .ok (.iload 6, 2) := by decide +kernel
theorem dX12_feed_57 : decode cX12_feed 57 = .ok (.bipush 20, 2) := by decide +kernel
theorem dX12_feed_59 : decode cX12_feed 59 = .ok (.if_icmp .ge 42, 3) := by decide +kernel
theorem dX12_feed_62 : decode cX12_feed 62 = .ok (.aload_n 0, 1) := by decide +kernel
theorem dX12_feed_63 : decode cX12_feed 63 = .ok (.getfield 24, 3) := by decide +kernel
theorem dX12_feed_66 : decode cX12_feed 66 = .ok (.aload_n 0, 1) := by decide +kernel
theorem dX12_feed_67 : decode cX12_feed 67 = .ok (.getfield 112, 3) := by decide +kernel
theorem dX12_feed_70 : decode cX12_feed 70 = .ok (.iload 6, 2) := by decide +kernel
theorem dX12_feed_72 : decode cX12_feed 72 = .ok (.iadd, 1) := by decide +kernel
theorem dX12_feed_73 : decode cX12_feed 73 = .ok (.aload_n 0, 1) := by decide +kernel
theorem dX12_feed_74 : decode cX12_feed 74 = .ok (.getfield 28, 3) := by decide +kernel
theorem dX12_feed_77 : decode cX12_feed 77 = .ok (.iload 6, 2) := by decide +kernel
theorem dX12_feed_79 : decode cX12_feed 79 = .ok (.iconst 4, 1) := by decide +kernel
theorem dX12_feed_80 : decode cX12_feed 80 = .ok (.idiv, 1) := by decide +kernel
theorem dX12_feed_81 : decode cX12_feed 81 = .ok (.iaload, 1) := by decide +kernel
theorem dX12_feed_82 : decode cX12_feed 82 = .ok (.bipush 24, 2) := by decide +kernel
theorem dX12_feed_84 : decode cX12_feed 84 = .ok (.bipush 8, 2) := by decide +kernel
theorem dX12_feed_86 : decode cX12_feed 86 = .ok (.iload 6, 2) := by decide +kernel
theorem dX12_feed_88 : decode cX12_feed 88 = .ok (.iconst 4, 1) := by decide +kernel
theorem dX12_feed_89 : decode cX12_feed 89 = .ok (.irem, 1) := by decide +kernel
theorem dX12_feed_90 : decode cX12_feed 90 = .ok (.imul, 1) := by decide +kernel
theorem dX12_feed_91 : decode cX12_feed 91 = .ok (.isub, 1) := by decide +kernel
theorem dX12_feed_92 : decode cX12_feed 92 = .ok (.ishr, 1) := by decide +kernel
theorem dX12_feed_93 : decode cX12_feed 93 = .ok (.i2b, 1) := by decide +kernel
theorem dX12_feed_94 : decode cX12_feed 94 = .ok (.bastore, 1) := by decide +kernel
theorem dX12_feed_95 : decode cX12_feed 95 = .ok (.iinc 6 1, 3) := by decide +kernel
theorem dX12_feed_98 : decode cX12_feed 98 = .ok (.goto (-43), 3) := by decide +kernel
theorem dX12_feed_101 : decode cX12_feed 101 = .ok (.aload_n 0, 1) := by decide +kernel
theorem dX12_feed_102 : decode cX12_feed 102 = .ok (.dup, 1) := by decide +kernel
theorem dX12_feed_103 : decode cX12_feed 103 = .ok (.getfield 112, 3) := by decide +kernel
theorem dX12_feed_106 : decode cX12_feed 106 = .ok (.bipush 20, 2) := by decide +kernel
theorem dX12_feed_108 : decode cX12_feed 108 = .ok (.iadd, 1) := by decide +kernel
theorem dX12_feed_109 : decode cX12_feed 109 = .ok (.putfield 112, 3) := by decide +kernel
theorem dX12_feed_112 : decode cX12_feed 112 = .ok (.aload_n 0, 1) := by decide +kernel
theorem dX12_feed_113 : decode cX12_feed 113 = .ok (.getfield 112, 3) := by decide +kernel
theorem dX12_feed_116 : decode cX12_feed 116 = .ok (.ireturn, 1) := by decide +kernel
theorem dX12_feed_13 : decode cX12_feed 13 = .ok (.iconst (-1), 1) := by decide +kernel
theorem dX12_feed_14 : decode cX12_feed 14 = .ok (.ireturn, 1) := by decide +kernel
theorem dX12_end_0 : decode cX12_end 0 = .ok (.iload_n 1, 1) := by decide +kernel
theorem dX12_end_1 : decode cX12_end 1 = .ok (.i2l, 1) := by decide +kernel
theorem dX12_end_2 : decode cX12_end 2 = .ok (.lconst 0, 1) := by decide +kernel
theorem dX12_end_3 : decode cX12_end 3 = .ok (.aload_n 0, 1) := by decide +kernel
theorem dX12_end_4 : decode cX12_end 4 = .ok (.getfield 112, 3) := by decide +kernel
theorem dX12_end_7 : decode cX12_end 7 = .ok (.i2l, 1) := by decide +kernel
theorem dX12_end_8 : decode cX12_end 8 = .ok (.invokestatic 98, 3) := by decide +kernel
theorem dX12_end_11 : decode cX12_end 11 = .ok (.ifCond .ne 5, 3) := by decide +kernel
theorem dX12_end_14 : decode cX12_end 14 = .ok (.iconst (-1), 1) := by decide +kernel
theorem dX12_end_15 : decode cX12_end 15 = .ok (.ireturn, 1) := by decide +kernel
theorem dX12_end_16 : decode cX12_end 16 = .ok (.aload_n 0, 1) := by decide +kernel
theorem dX12_end_17 : decode cX12_end 17 = .ok (.iload_n 1, 1) := by decide +kernel
theorem dX12_end_18 : decode cX12_end 18 = .ok (.putfield 112, 3) := by decide +kernel
theorem dX12_end_21 : decode cX12_end 21 = .ok (.iload_n 1, 1) := by decide +kernel
theorem dX12_end_22 : decode cX12_end 22 = .ok (.ireturn, 1) := by decide +kernel
theorem dX12_fault_0 : decode cX12_fault 0 = .ok (.iload_n 1, 1) := by decide +kernel
theorem dX12_fault_1 : decode cX12_fault 1 = .ok (.ifCond .ne 10, 3) := by decide +kernel
theorem dX12_fault_11 : decode cX12_fault 11 = .ok (.iload_n 1, 1) := by decide +kernel
theorem dX12_fault_12 : decode cX12_fault 12 = .ok (.iconst 1, 1) := by decide +kernel
theorem dX12_fault_13 : decode cX12_fault 13 = .ok (.if_icmp .ne 10, 3) := by decide +kernel
theorem dX12_fault_23 : decode cX12_fault 23 = .ok (.iconst (-1), 1) := by decide +kernel
theorem dX12_fault_24 : decode cX12_fault 24 = .ok (.ireturn, 1) := by decide +kernel
theorem dX12_fault_16 : decode cX12_fault 16 = .ok (.aload_n 0, 1) := by decide +kernel
theorem dX12_fault_17 : decode cX12_fault 17 = .ok (.getfield 31, 3) := by decide +kernel
theorem dX12_fault_20 : decode cX12_fault 20 = .ok (.goto 4, 3) := by decide +kernel
theorem dX12_fault_4 : decode cX12_fault 4 = .ok (.aload_n 0, 1) := by decide +kernel
theorem dX12_fault_5 : decode cX12_fault 5 = .ok (.getfield 149, 3) := by decide +kernel
theorem dX12_fault_8 : decode cX12_fault 8 = .ok (.goto 16, 3) := by decide +kernel
theorem dX12_isGiving_0 : decode cX12_isGiving 0 = .ok (.iload_n 0, 1) := by decide +kernel
theorem dX12_isGiving_1 : decode cX12_isGiving 1 = .ok (.i2l, 1) := by decide +kernel
theorem dX12_isGiving_2 : decode cX12_isGiving 2 = .ok (.lconst 0, 1) := by decide +kernel
theorem dX12_isGiving_3 : decode cX12_isGiving 3 = .ok (.lconst 1, 1) := by decide +kernel
theorem dX12_isGiving_4 : decode cX12_isGiving 4 = .ok (.invokestatic 98, 3) := by decide +kernel
theorem dX12_isGiving_7 : decode cX12_isGiving 7 = .ok (.ireturn, 1) := by decide +kernel
theorem dX12_alleys_0 : decode cX12_alleys 0 = .ok (.aload_n 0, 1) := by decide +kernel
theorem dX12_alleys_1 : decode cX12_alleys 1 = .ok (.getfield 13, 3) := by decide +kernel
theorem dX12_alleys_4 : decode cX12_alleys 4 = .ok (.iconst 2, 1) := by decide +kernel
theorem dX12_alleys_5 : decode cX12_alleys 5 = .ok (.iaload, 1) := by decide +kernel
theorem dX12_alleys_6 : decode cX12_alleys 6 = .ok (.ireturn, 1) := by decide +kernel
theorem dX12_isAlley_0 : decode cX12_isAlley 0 = .ok (.iload_n 1, 1) := by decide +kernel
theorem dX12_isAlley_1 : decode cX12_isAlley 1 = .ok (.i2l, 1) := by decide +kernel
theorem dX12_isAlley_2 : decode cX12_isAlley 2 = .ok (.lconst 0, 1) := by decide +kernel
theorem dX12_isAlley_3 : decode cX12_isAlley 3 = .ok (.aload_n 0, 1) := by decide +kernel
theorem dX12_isAlley_4 : decode cX12_isAlley 4 = .ok (.invokevirtual 102, 3) := by decide +kernel
theorem dX12_isAlley_7 : decode cX12_isAlley 7 = .ok (.iconst 1, 1) := by decide +kernel
theorem dX12_isAlley_8 : decode cX12_isAlley 8 = .ok (.isub, 1) := by decide +kernel
theorem dX12_isAlley_9 : decode cX12_isAlley 9 = .ok (.i2l, 1) := by decide +kernel
theorem dX12_isAlley_10 : decode cX12_isAlley 10 = .ok (.invokestatic 98, 3) := by decide +kernel
theorem dX12_isAlley_13 : decode cX12_isAlley 13 = .ok (.ireturn, 1) := by decide +kernel
theorem dX12_ofAlley_0 : decode cX12_ofAlley 0 = .ok (.aload_n 0, 1) := by decide +kernel
theorem dX12_ofAlley_1 : decode cX12_ofAlley 1 = .ok (.getfield 13, 3) := by decide +kernel
theorem dX12_ofAlley_4 : decode cX12_ofAlley 4 = .ok (.bipush 8, 2) := by decide +kernel
theorem dX12_ofAlley_6 : decode cX12_ofAlley 6 = .ok (.bipush 6, 2) := by decide +kernel
theorem dX12_ofAlley_8 : decode cX12_ofAlley 8 = .ok (.iload_n 1, 1) := by decide +kernel
theorem dX12_ofAlley_9 : decode cX12_ofAlley 9 = .ok (.imul, 1) := by decide +kernel
theorem dX12_ofAlley_10 : decode cX12_ofAlley 10 = .ok (.iadd, 1) := by decide +kernel
theorem dX12_ofAlley_11 : decode cX12_ofAlley 11 = .ok (.iload_n 2, 1) := by decide +kernel
theorem dX12_ofAlley_12 : decode cX12_ofAlley 12 = .ok (.iadd, 1) := by decide +kernel
theorem dX12_ofAlley_13 : decode cX12_ofAlley 13 = .ok (.iaload, 1) := by decide +kernel
theorem dX12_ofAlley_14 : decode cX12_ofAlley 14 = .ok (.ireturn, 1) := by decide +kernel
theorem dX12_mayBe_0 : decode cX12_mayBe 0 = .ok (.lload_n 2, 1) := by decide +kernel
theorem dX12_mayBe_1 : decode cX12_mayBe 1 = .ok (.lconst 0, 1) := by decide +kernel
theorem dX12_mayBe_2 : decode cX12_mayBe 2 = .ok (.ldc2_w 233, 3) := by decide +kernel
theorem dX12_mayBe_5 : decode cX12_mayBe 5 = .ok (.invokestatic 98, 3) := by decide +kernel
theorem dX12_mayBe_8 : decode cX12_mayBe 8 = .ok (.ifCond .eq 25, 3) := by decide +kernel
theorem dX12_mayBe_33 : decode cX12_mayBe 33 = .ok (.iconst 0, 1) := by decide +kernel
theorem dX12_mayBe_34 : decode cX12_mayBe 34 = .ok (.ireturn, 1) := by decide +kernel
theorem dX12_mayBe_11 : decode cX12_mayBe 11 = .ok (.lload_n 2, 1) := by decide +kernel
theorem dX12_mayBe_12 : decode cX12_mayBe 12 = .ok (.ldc2_w 233, 3) := by decide +kernel
theorem dX12_mayBe_15 : decode cX12_mayBe 15 = .ok (.lcmp, 1) := by decide +kernel
theorem dX12_mayBe_16 : decode cX12_mayBe 16 = .ok (.ifCond .ne 13, 3) := by decide +kernel
theorem dX12_mayBe_29 : decode cX12_mayBe 29 = .ok (.iconst 1, 1) := by decide +kernel
theorem dX12_mayBe_30 : decode cX12_mayBe 30 = .ok (.goto 4, 3) := by decide +kernel
theorem dX12_mayBe_19 : decode cX12_mayBe 19 = .ok (.aload_n 0, 1) := by decide +kernel
theorem dX12_mayBe_20 : decode cX12_mayBe 20 = .ok (.iload_n 1, 1) := by decide +kernel
theorem dX12_mayBe_21 : decode cX12_mayBe 21 = .ok (.iconst 3, 1) := by decide +kernel
theorem dX12_mayBe_22 : decode cX12_mayBe 22 = .ok (.invokevirtual 230, 3) := by decide +kernel
theorem dX12_mayBe_25 : decode cX12_mayBe 25 = .ok (.iconst (-1), 1) := by decide +kernel
theorem dX12_mayBe_26 : decode cX12_mayBe 26 = .ok (.if_icmp .eq 7, 3) := by decide +kernel
theorem dX12_mayGive_0 : decode cX12_mayGive 0 = .ok (.aload_n 0, 1) := by decide +kernel
theorem dX12_mayGive_1 : decode cX12_mayGive 1 = .ok (.iload_n 1, 1) := by decide +kernel
theorem dX12_mayGive_2 : decode cX12_mayGive 2 = .ok (.iconst 4, 1) := by decide +kernel
theorem dX12_mayGive_3 : decode cX12_mayGive 3 = .ok (.invokevirtual 230, 3) := by decide +kernel
theorem dX12_mayGive_6 : decode cX12_mayGive 6 = .ok (.ifCond .ne 16, 3) := by decide +kernel
theorem dX12_mayGive_22 : decode cX12_mayGive 22 = .ok (.iconst 0, 1) := by decide +kernel
theorem dX12_mayGive_23 : decode cX12_mayGive 23 = .ok (.ireturn, 1) := by decide +kernel
theorem dX12_mayGive_9 : decode cX12_mayGive 9 = .ok (.aload_n 0, 1) := by decide +kernel
theorem dX12_mayGive_10 : decode cX12_mayGive 10 = .ok (.iload_n 1, 1) := by decide +kernel
theorem dX12_mayGive_11 : decode cX12_mayGive 11 = .ok (.lload_n 2, 1) := by decide +kernel
theorem dX12_mayGive_12 : decode cX12_mayGive 12 = .ok (.invokevirtual 235, 3) := by decide +kernel
theorem dX12_mayGive_15 : decode cX12_mayGive 15 = .ok (.ifCond .eq 7, 3) := by decide +kernel
theorem dX12_mayGive_18 : decode cX12_mayGive 18 = .ok (.iconst 1, 1) := by decide +kernel
theorem dX12_mayGive_19 : decode cX12_mayGive 19 = .ok (.goto 4, 3) := by decide +kernel
theorem dX12_wayOf_0 : decode cX12_wayOf 0 = .ok (.aload_n 0, 1) := by decide +kernel
theorem dX12_wayOf_1 : decode cX12_wayOf 1 = .ok (.getfield 13, 3) := by decide +kernel
theorem dX12_wayOf_4 : decode cX12_wayOf 4 = .ok (.sipush 248, 3) := by decide +kernel
theorem dX12_wayOf_7 : decode cX12_wayOf 7 = .ok (.bipush 28, 2) := by decide +kernel
theorem dX12_wayOf_9 : decode cX12_wayOf 9 = .ok (.iload_n 1, 1) := by decide +kernel
theorem dX12_wayOf_10 : decode cX12_wayOf 10 = .ok (.imul, 1) := by decide +kernel
theorem dX12_wayOf_11 : decode cX12_wayOf 11 = .ok (.iadd, 1) := by decide +kernel
theorem dX12_wayOf_12 : decode cX12_wayOf 12 = .ok (.iload_n 2, 1) := by decide +kernel
theorem dX12_wayOf_13 : decode cX12_wayOf 13 = .ok (.iadd, 1) := by decide +kernel
theorem dX12_wayOf_14 : decode cX12_wayOf 14 = .ok (.iaload, 1) := by decide +kernel
theorem dX12_wayOf_15 : decode cX12_wayOf 15 = .ok (.ireturn, 1) := by decide +kernel
theorem dX12_give_0 : decode cX12_give 0 = .ok (.iload_n 1, 1) := by decide +kernel
theorem dX12_give_1 : decode cX12_give 1 = .ok (.invokestatic 239, 3) := by decide +kernel
theorem dX12_give_4 : decode cX12_give 4 = .ok (.ifCond .eq 21, 3) := by decide +kernel
theorem dX12_give_25 : decode cX12_give 25 = .ok (.bipush (-2), 2) := by decide +kernel
theorem dX12_give_27 : decode cX12_give 27 = .ok (.ireturn, 1) := by decide +kernel
theorem dX12_give_7 : decode cX12_give 7 = .ok (.aload_n 0, 1) := by decide +kernel
theorem dX12_give_8 : decode cX12_give 8 = .ok (.iload_n 2, 1) := by decide +kernel
theorem dX12_give_9 : decode cX12_give 9 = .ok (.invokevirtual 243, 3) := by decide +kernel
theorem dX12_give_12 : decode cX12_give 12 = .ok (.ifCond .eq 13, 3) := by decide +kernel
theorem dX12_give_15 : decode cX12_give 15 = .ok (.aload_n 0, 1) := by decide +kernel
theorem dX12_give_16 : decode cX12_give 16 = .ok (.iload_n 2, 1) := by decide +kernel
theorem dX12_give_17 : decode cX12_give 17 = .ok (.iload_n 3, 1) := by decide +kernel
theorem dX12_give_18 : decode cX12_give 18 = .ok (.i2l, 1) := by decide +kernel
theorem dX12_give_19 : decode cX12_give 19 = .ok (.invokevirtual 246, 3) := by decide +kernel
theorem dX12_give_22 : decode cX12_give 22 = .ok (.ifCond .ne 6, 3) := by decide +kernel
theorem dX12_give_28 : decode cX12_give 28 = .ok (.aload_n 0, 1) := by decide +kernel
theorem dX12_give_29 : decode cX12_give 29 = .ok (.iload_n 1, 1) := by decide +kernel
theorem dX12_give_30 : decode cX12_give 30 = .ok (.iload_n 2, 1) := by decide +kernel
theorem dX12_give_31 : decode cX12_give 31 = .ok (.invokevirtual 249, 3) := by decide +kernel
theorem dX12_give_34 : decode cX12_give 34 = .ok (.istore 4, 2) := by decide +kernel
theorem dX12_give_36 : decode cX12_give 36 = .ok (.aload_n 0, 1) := by decide +kernel
theorem dX12_give_37 : decode cX12_give 37 = .ok (.getfield 13, 3) := by decide +kernel
theorem dX12_give_40 : decode cX12_give 40 = .ok (.sipush 248, 3) := by decide +kernel
theorem dX12_give_43 : decode cX12_give 43 = .ok (.bipush 28, 2) := by decide +kernel
theorem dX12_give_45 : decode cX12_give 45 = .ok (.iload_n 1, 1) := by decide +kernel
theorem dX12_give_46 : decode cX12_give 46 = .ok (.imul, 1) := by decide +kernel
theorem dX12_give_47 : decode cX12_give 47 = .ok (.iadd, 1) := by decide +kernel
theorem dX12_give_48 : decode cX12_give 48 = .ok (.iload_n 2, 1) := by decide +kernel
theorem dX12_give_49 : decode cX12_give 49 = .ok (.iadd, 1) := by decide +kernel
theorem dX12_give_50 : decode cX12_give 50 = .ok (.iload_n 3, 1) := by decide +kernel
theorem dX12_give_51 : decode cX12_give 51 = .ok (.iastore, 1) := by decide +kernel
theorem dX12_give_52 : decode cX12_give 52 = .ok (.iload 4, 2) := by decide +kernel
theorem dX12_give_54 : decode cX12_give 54 = .ok (.ireturn, 1) := by decide +kernel
theorem dX12_isSlot_0 : decode cX12_isSlot 0 = .ok (.iload_n 0, 1) := by decide +kernel
theorem dX12_isSlot_1 : decode cX12_isSlot 1 = .ok (.i2l, 1) := by decide +kernel
theorem dX12_isSlot_2 : decode cX12_isSlot 2 = .ok (.lconst 0, 1) := by decide +kernel
theorem dX12_isSlot_3 : decode cX12_isSlot 3 = .ok (.ldc2_w 233, 3) := by decide +kernel
theorem dX12_isSlot_6 : decode cX12_isSlot 6 = .ok (.invokestatic 98, 3) := by decide +kernel
theorem dX12_isSlot_9 : decode cX12_isSlot 9 = .ok (.ireturn, 1) := by decide +kernel
theorem dX12_gives_0 : decode cX12_gives 0 = .ok (.iload_n 1, 1) := by decide +kernel
theorem dX12_gives_1 : decode cX12_gives 1 = .ok (.invokestatic 239, 3) := by decide +kernel
theorem dX12_gives_4 : decode cX12_gives 4 = .ok (.ifCond .eq 10, 3) := by decide +kernel
theorem dX12_gives_14 : decode cX12_gives 14 = .ok (.bipush (-2), 2) := by decide +kernel
theorem dX12_gives_16 : decode cX12_gives 16 = .ok (.ireturn, 1) := by decide +kernel
theorem dX12_gives_7 : decode cX12_gives 7 = .ok (.iload_n 2, 1) := by decide +kernel
theorem dX12_gives_8 : decode cX12_gives 8 = .ok (.invokestatic 252, 3) := by decide +kernel
theorem dX12_gives_11 : decode cX12_gives 11 = .ok (.ifCond .ne 6, 3) := by decide +kernel
theorem dX12_gives_17 : decode cX12_gives 17 = .ok (.aload_n 0, 1) := by decide +kernel
theorem dX12_gives_18 : decode cX12_gives 18 = .ok (.getfield 79, 3) := by decide +kernel
theorem dX12_gives_21 : decode cX12_gives 21 = .ok (.iload_n 2, 1) := by decide +kernel
theorem dX12_gives_22 : decode cX12_gives 22 = .ok (.iaload, 1) := by decide +kernel
theorem dX12_gives_23 : decode cX12_gives 23 = .ok (.iconst (-1), 1) := by decide +kernel
theorem dX12_gives_24 : decode cX12_gives 24 = .ok (.if_icmp .ne 6, 3) := by decide +kernel
theorem dX12_gives_30 : decode cX12_gives 30 = .ok (.iconst 0, 1) := by decide +kernel
theorem dX12_gives_31 : decode cX12_gives 31 = .ok (.istore_n 3, 1) := by decide +kernel
theorem dX12_gives_32 : decode cX12_gives 32 = .ok (.iconst 0, 1) := by decide +kernel
theorem dX12_gives_33 : decode cX12_gives 33 = .ok (.istore 4, 2) := by decide +kernel
theorem dX12_gives_35 : decode cX12_gives 35 = .ok (.iload 4, 2) := by decide +kernel
theorem dX12_gives_37 : decode cX12_gives 37 = .ok (.aload_n 0, 1) := by decide +kernel
theorem dX12_gives_38 : decode cX12_gives 38 = .ok (.invokevirtual 102, 3) := by decide +kernel
theorem dX12_gives_41 : decode cX12_gives 41 = .ok (.if_icmp .ge 76, 3) := by decide +kernel
theorem dX12_gives_44 : decode cX12_gives 44 = .ok (.iload 4, 2) := by decide +kernel
theorem dX12_gives_46 : decode cX12_gives 46 = .ok (.aload_n 0, 1) := by decide +kernel
theorem dX12_gives_47 : decode cX12_gives 47 = .ok (.getfield 79, 3) := by decide +kernel
theorem dX12_gives_50 : decode cX12_gives 50 = .ok (.iload_n 2, 1) := by decide +kernel
theorem dX12_gives_51 : decode cX12_gives 51 = .ok (.iaload, 1) := by decide +kernel
theorem dX12_gives_52 : decode cX12_gives 52 = .ok (.if_icmp .ge 65, 3) := by decide +kernel
theorem dX12_gives_55 : decode cX12_gives 55 = .ok (.aload_n 0, 1) := by decide +kernel
theorem dX12_gives_56 : decode cX12_gives 56 = .ok (.iload 4, 2) := by decide +kernel
theorem dX12_gives_58 : decode cX12_gives 58 = .ok (.aload_n 0, 1) := by decide +kernel
theorem dX12_gives_59 : decode cX12_gives 59 = .ok (.getfield 85, 3) := by decide +kernel
theorem dX12_gives_62 : decode cX12_gives 62 = .ok (.bipush 60, 2) := by decide +kernel
theorem dX12_gives_64 : decode cX12_gives 64 = .ok (.iload_n 2, 1) := by decide +kernel
theorem dX12_gives_65 : decode cX12_gives 65 = .ok (.imul, 1) := by decide +kernel
theorem dX12_gives_66 : decode cX12_gives 66 = .ok (.iload 4, 2) := by decide +kernel
theorem dX12_gives_68 : decode cX12_gives 68 = .ok (.iadd, 1) := by decide +kernel
theorem dX12_gives_69 : decode cX12_gives 69 = .ok (.laload, 1) := by decide +kernel
theorem dX12_gives_70 : decode cX12_gives 70 = .ok (.invokevirtual 246, 3) := by decide +kernel
theorem dX12_gives_73 : decode cX12_gives 73 = .ok (.ifCond .ne 6, 3) := by decide +kernel
theorem dX12_gives_76 : decode cX12_gives 76 = .ok (.goto 35, 3) := by decide +kernel
theorem dX12_gives_111 : decode cX12_gives 111 = .ok (.iinc 4 1, 3) := by decide +kernel
theorem dX12_gives_114 : decode cX12_gives 114 = .ok (.goto (-79), 3) := by decide +kernel
theorem dX12_gives_79 : decode cX12_gives 79 = .ok (.aload_n 0, 1) := by decide +kernel
theorem dX12_gives_80 : decode cX12_gives 80 = .ok (.getfield 13, 3) := by decide +kernel
theorem dX12_gives_83 : decode cX12_gives 83 = .ok (.sipush 248, 3) := by decide +kernel
theorem dX12_gives_86 : decode cX12_gives 86 = .ok (.bipush 28, 2) := by decide +kernel
theorem dX12_gives_88 : decode cX12_gives 88 = .ok (.iload_n 1, 1) := by decide +kernel
theorem dX12_gives_89 : decode cX12_gives 89 = .ok (.imul, 1) := by decide +kernel
theorem dX12_gives_90 : decode cX12_gives 90 = .ok (.iadd, 1) := by decide +kernel
theorem dX12_gives_91 : decode cX12_gives 91 = .ok (.iload 4, 2) := by decide +kernel
theorem dX12_gives_93 : decode cX12_gives 93 = .ok (.iadd, 1) := by decide +kernel
theorem dX12_gives_94 : decode cX12_gives 94 = .ok (.aload_n 0, 1) := by decide +kernel
theorem dX12_gives_95 : decode cX12_gives 95 = .ok (.getfield 85, 3) := by decide +kernel
theorem dX12_gives_98 : decode cX12_gives 98 = .ok (.bipush 60, 2) := by decide +kernel
theorem dX12_gives_100 : decode cX12_gives 100 = .ok (.iload_n 2, 1) := by decide +kernel
theorem dX12_gives_101 : decode cX12_gives 101 = .ok (.imul, 1) := by decide +kernel
theorem dX12_gives_102 : decode cX12_gives 102 = .ok (.iload 4, 2) := by decide +kernel
theorem dX12_gives_104 : decode cX12_gives 104 = .ok (.iadd, 1) := by decide +kernel
theorem dX12_gives_105 : decode cX12_gives 105 = .ok (.laload, 1) := by decide +kernel
theorem dX12_gives_106 : decode cX12_gives 106 = .ok (.l2i, 1) := by decide +kernel
theorem dX12_gives_107 : decode cX12_gives 107 = .ok (.iastore, 1) := by decide +kernel
theorem dX12_gives_108 : decode cX12_gives 108 = .ok (.iinc 3 1, 3) := by decide +kernel
theorem dX12_gives_117 : decode cX12_gives 117 = .ok (.iload_n 3, 1) := by decide +kernel
theorem dX12_gives_118 : decode cX12_gives 118 = .ok (.ireturn, 1) := by decide +kernel
theorem dX12_gives_27 : decode cX12_gives 27 = .ok (.bipush (-6), 2) := by decide +kernel
theorem dX12_gives_29 : decode cX12_gives 29 = .ok (.ireturn, 1) := by decide +kernel
theorem dX12_way_0 : decode cX12_way 0 = .ok (.iload_n 1, 1) := by decide +kernel
theorem dX12_way_1 : decode cX12_way 1 = .ok (.invokestatic 239, 3) := by decide +kernel
theorem dX12_way_4 : decode cX12_way 4 = .ok (.ifCond .eq 20, 3) := by decide +kernel
theorem dX12_way_24 : decode cX12_way 24 = .ok (.iconst (-1), 1) := by decide +kernel
theorem dX12_way_25 : decode cX12_way 25 = .ok (.ireturn, 1) := by decide +kernel
theorem dX12_way_7 : decode cX12_way 7 = .ok (.aload_n 0, 1) := by decide +kernel
theorem dX12_way_8 : decode cX12_way 8 = .ok (.iload_n 2, 1) := by decide +kernel
theorem dX12_way_9 : decode cX12_way 9 = .ok (.invokevirtual 243, 3) := by decide +kernel
theorem dX12_way_12 : decode cX12_way 12 = .ok (.ifCond .eq 12, 3) := by decide +kernel
theorem dX12_way_15 : decode cX12_way 15 = .ok (.aload_n 0, 1) := by decide +kernel
theorem dX12_way_16 : decode cX12_way 16 = .ok (.iload_n 1, 1) := by decide +kernel
theorem dX12_way_17 : decode cX12_way 17 = .ok (.iload_n 2, 1) := by decide +kernel
theorem dX12_way_18 : decode cX12_way 18 = .ok (.invokevirtual 249, 3) := by decide +kernel
theorem dX12_way_21 : decode cX12_way 21 = .ok (.goto 4, 3) := by decide +kernel
theorem dX12_clear_0 : decode cX12_clear 0 = .ok (.iload_n 1, 1) := by decide +kernel
theorem dX12_clear_1 : decode cX12_clear 1 = .ok (.invokestatic 239, 3) := by decide +kernel
theorem dX12_clear_4 : decode cX12_clear 4 = .ok (.ifCond .ne 6, 3) := by decide +kernel
theorem dX12_clear_7 : decode cX12_clear 7 = .ok (.bipush (-2), 2) := by decide +kernel
theorem dX12_clear_9 : decode cX12_clear 9 = .ok (.ireturn, 1) := by decide +kernel
theorem dX12_clear_10 : decode cX12_clear 10 = .ok (.iconst 0, 1) := by decide +kernel
theorem dX12_clear_11 : decode cX12_clear 11 = .ok (.istore_n 2, 1) := by decide +kernel
theorem dX12_clear_12 : decode cX12_clear 12 = .ok (.iconst 0, 1) := by decide +kernel
theorem dX12_clear_13 : decode cX12_clear 13 = .ok (.istore_n 3, 1) := by decide +kernel
theorem dX12_clear_14 : decode cX12_clear 14 = .ok (.iload_n 3, 1) := by decide +kernel
theorem dX12_clear_15 : decode cX12_clear 15 = .ok (.aload_n 0, 1) := by decide +kernel
theorem dX12_clear_16 : decode cX12_clear 16 = .ok (.invokevirtual 102, 3) := by decide +kernel
theorem dX12_clear_19 : decode cX12_clear 19 = .ok (.if_icmp .ge 50, 3) := by decide +kernel
theorem dX12_clear_22 : decode cX12_clear 22 = .ok (.aload_n 0, 1) := by decide +kernel
theorem dX12_clear_23 : decode cX12_clear 23 = .ok (.iload_n 3, 1) := by decide +kernel
theorem dX12_clear_24 : decode cX12_clear 24 = .ok (.iconst 4, 1) := by decide +kernel
theorem dX12_clear_25 : decode cX12_clear 25 = .ok (.invokevirtual 230, 3) := by decide +kernel
theorem dX12_clear_28 : decode cX12_clear 28 = .ok (.iconst 1, 1) := by decide +kernel
theorem dX12_clear_29 : decode cX12_clear 29 = .ok (.if_icmp .eq 34, 3) := by decide +kernel
theorem dX12_clear_63 : decode cX12_clear 63 = .ok (.iinc 3 1, 3) := by decide +kernel
theorem dX12_clear_66 : decode cX12_clear 66 = .ok (.goto (-52), 3) := by decide +kernel
theorem dX12_clear_32 : decode cX12_clear 32 = .ok (.aload_n 0, 1) := by decide +kernel
theorem dX12_clear_33 : decode cX12_clear 33 = .ok (.iload_n 1, 1) := by decide +kernel
theorem dX12_clear_34 : decode cX12_clear 34 = .ok (.iload_n 3, 1) := by decide +kernel
theorem dX12_clear_35 : decode cX12_clear 35 = .ok (.invokevirtual 249, 3) := by decide +kernel
theorem dX12_clear_38 : decode cX12_clear 38 = .ok (.ifCond .ne 6, 3) := by decide +kernel
theorem dX12_clear_44 : decode cX12_clear 44 = .ok (.aload_n 0, 1) := by decide +kernel
theorem dX12_clear_45 : decode cX12_clear 45 = .ok (.getfield 13, 3) := by decide +kernel
theorem dX12_clear_48 : decode cX12_clear 48 = .ok (.sipush 248, 3) := by decide +kernel
theorem dX12_clear_51 : decode cX12_clear 51 = .ok (.bipush 28, 2) := by decide +kernel
theorem dX12_clear_53 : decode cX12_clear 53 = .ok (.iload_n 1, 1) := by decide +kernel
theorem dX12_clear_54 : decode cX12_clear 54 = .ok (.imul, 1) := by decide +kernel
theorem dX12_clear_55 : decode cX12_clear 55 = .ok (.iadd, 1) := by decide +kernel
theorem dX12_clear_56 : decode cX12_clear 56 = .ok (.iload_n 3, 1) := by decide +kernel
theorem dX12_clear_57 : decode cX12_clear 57 = .ok (.iadd, 1) := by decide +kernel
theorem dX12_clear_58 : decode cX12_clear 58 = .ok (.iconst 0, 1) := by decide +kernel
theorem dX12_clear_59 : decode cX12_clear 59 = .ok (.iastore, 1) := by decide +kernel
theorem dX12_clear_60 : decode cX12_clear 60 = .ok (.iinc 2 1, 3) := by decide +kernel
theorem dX12_clear_41 : decode cX12_clear 41 = .ok (.goto 22, 3) := by decide +kernel
theorem dX12_clear_69 : decode cX12_clear 69 = .ok (.iload_n 2, 1) := by decide +kernel
theorem dX12_clear_70 : decode cX12_clear 70 = .ok (.ireturn, 1) := by decide +kernel
theorem dX12_tries_0 : decode cX12_tries 0 = .ok (.iconst 0, 1) := by decide +kernel
theorem dX12_tries_1 : decode cX12_tries 1 = .ok (.istore_n 2, 1) := by decide +kernel
theorem dX12_tries_2 : decode cX12_tries 2 = .ok (.iload_n 2, 1) := by decide +kernel
theorem dX12_tries_3 : decode cX12_tries 3 = .ok (.aload_n 0, 1) := by decide +kernel
theorem dX12_tries_4 : decode cX12_tries 4 = .ok (.invokevirtual 102, 3) := by decide +kernel
theorem dX12_tries_7 : decode cX12_tries 7 = .ok (.if_icmp .ge 21, 3) := by decide +kernel
theorem dX12_tries_10 : decode cX12_tries 10 = .ok (.aload_n 0, 1) := by decide +kernel
theorem dX12_tries_11 : decode cX12_tries 11 = .ok (.getfield 40, 3) := by decide +kernel
theorem dX12_tries_14 : decode cX12_tries 14 = .ok (.iload_n 2, 1) := by decide +kernel
theorem dX12_tries_15 : decode cX12_tries 15 = .ok (.aload_n 0, 1) := by decide +kernel
theorem dX12_tries_16 : decode cX12_tries 16 = .ok (.iload_n 1, 1) := by decide +kernel
theorem dX12_tries_17 : decode cX12_tries 17 = .ok (.iload_n 2, 1) := by decide +kernel
theorem dX12_tries_18 : decode cX12_tries 18 = .ok (.invokevirtual 249, 3) := by decide +kernel
theorem dX12_tries_21 : decode cX12_tries 21 = .ok (.iastore, 1) := by decide +kernel
theorem dX12_tries_22 : decode cX12_tries 22 = .ok (.iinc 2 1, 3) := by decide +kernel
theorem dX12_tries_25 : decode cX12_tries 25 = .ok (.goto (-23), 3) := by decide +kernel
theorem dX12_tries_28 : decode cX12_tries 28 = .ok (.return_, 1) := by decide +kernel
theorem dX12_corners_0 : decode cX12_corners 0 = .ok (.aload_n 0, 1) := by decide +kernel
theorem dX12_corners_1 : decode cX12_corners 1 = .ok (.getfield 13, 3) := by decide +kernel
theorem dX12_corners_4 : decode cX12_corners 4 = .ok (.iconst 1, 1) := by decide +kernel
theorem dX12_corners_5 : decode cX12_corners 5 = .ok (.iaload, 1) := by decide +kernel
theorem dX12_corners_6 : decode cX12_corners 6 = .ok (.ireturn, 1) := by decide +kernel
theorem dX12_nearer_0 : decode cX12_nearer 0 = .ok (.iload_n 3, 1) := by decide +kernel
theorem dX12_nearer_1 : decode cX12_nearer 1 = .ok (.aload_n 0, 1) := by decide +kernel
theorem dX12_nearer_2 : decode cX12_nearer 2 = .ok (.bipush 16, 2) := by decide +kernel
theorem dX12_nearer_4 : decode cX12_nearer 4 = .ok (.iload_n 1, 1) := by decide +kernel
theorem dX12_nearer_5 : decode cX12_nearer 5 = .ok (.imul, 1) := by decide +kernel
theorem dX12_nearer_6 : decode cX12_nearer 6 = .ok (.iload_n 2, 1) := by decide +kernel
theorem dX12_nearer_7 : decode cX12_nearer 7 = .ok (.iadd, 1) := by decide +kernel
theorem dX12_nearer_8 : decode cX12_nearer 8 = .ok (.iaload, 1) := by decide +kernel
theorem dX12_nearer_9 : decode cX12_nearer 9 = .ok (.if_icmp .ge 12, 3) := by decide +kernel
theorem dX12_nearer_21 : decode cX12_nearer 21 = .ok (.return_, 1) := by decide +kernel
theorem dX12_nearer_12 : decode cX12_nearer 12 = .ok (.aload_n 0, 1) := by decide +kernel
theorem dX12_nearer_13 : decode cX12_nearer 13 = .ok (.bipush 16, 2) := by decide +kernel
theorem dX12_nearer_15 : decode cX12_nearer 15 = .ok (.iload_n 1, 1) := by decide +kernel
theorem dX12_nearer_16 : decode cX12_nearer 16 = .ok (.imul, 1) := by decide +kernel
theorem dX12_nearer_17 : decode cX12_nearer 17 = .ok (.iload_n 2, 1) := by decide +kernel
theorem dX12_nearer_18 : decode cX12_nearer 18 = .ok (.iadd, 1) := by decide +kernel
theorem dX12_nearer_19 : decode cX12_nearer 19 = .ok (.iload_n 3, 1) := by decide +kernel
theorem dX12_nearer_20 : decode cX12_nearer 20 = .ok (.iastore, 1) := by decide +kernel
theorem dX12_measures_0 : decode cX12_measures 0 = .ok (.aload_n 0, 1) := by decide +kernel
theorem dX12_measures_1 : decode cX12_measures 1 = .ok (.invokevirtual 106, 3) := by decide +kernel
theorem dX12_measures_4 : decode cX12_measures 4 = .ok (.istore_n 3, 1) := by decide +kernel
theorem dX12_measures_5 : decode cX12_measures 5 = .ok (.iconst 0, 1) := by decide +kernel
theorem dX12_measures_6 : decode cX12_measures 6 = .ok (.istore 4, 2) := by decide +kernel
theorem dX12_measures_8 : decode cX12_measures 8 = .ok (.iload 4, 2) := by decide +kernel
theorem dX12_measures_10 : decode cX12_measures 10 = .ok (.iload_n 3, 1) := by decide +kernel
theorem dX12_measures_11 : decode cX12_measures 11 = .ok (.if_icmp .ge 47, 3) := by decide +kernel
theorem dX12_measures_14 : decode cX12_measures 14 = .ok (.iconst 0, 1) := by decide +kernel
theorem dX12_measures_15 : decode cX12_measures 15 = .ok (.istore 5, 2) := by decide +kernel
theorem dX12_measures_17 : decode cX12_measures 17 = .ok (.iload 5, 2) := by decide +kernel
theorem dX12_measures_19 : decode cX12_measures 19 = .ok (.iload_n 3, 1) := by decide +kernel
theorem dX12_measures_20 : decode cX12_measures 20 = .ok (.if_icmp .ge 32, 3) := by decide +kernel
theorem dX12_measures_23 : decode cX12_measures 23 = .ok (.aload_n 1, 1) := by decide +kernel
theorem dX12_measures_24 : decode cX12_measures 24 = .ok (.bipush 16, 2) := by decide +kernel
theorem dX12_measures_26 : decode cX12_measures 26 = .ok (.iload 4, 2) := by decide +kernel
theorem dX12_measures_28 : decode cX12_measures 28 = .ok (.imul, 1) := by decide +kernel
theorem dX12_measures_29 : decode cX12_measures 29 = .ok (.iload 5, 2) := by decide +kernel
theorem dX12_measures_31 : decode cX12_measures 31 = .ok (.iadd, 1) := by decide +kernel
theorem dX12_measures_32 : decode cX12_measures 32 = .ok (.iload 4, 2) := by decide +kernel
theorem dX12_measures_34 : decode cX12_measures 34 = .ok (.iload 5, 2) := by decide +kernel
theorem dX12_measures_36 : decode cX12_measures 36 = .ok (.if_icmp .ne 7, 3) := by decide +kernel
theorem dX12_measures_43 : decode cX12_measures 43 = .ok (.ldc 255, 2) := by decide +kernel
theorem dX12_measures_45 : decode cX12_measures 45 = .ok (.iastore, 1) := by decide +kernel
theorem dX12_measures_46 : decode cX12_measures 46 = .ok (.iinc 5 1, 3) := by decide +kernel
theorem dX12_measures_49 : decode cX12_measures 49 = .ok (.goto (-32), 3) := by decide +kernel
theorem dX12_measures_39 : decode cX12_measures 39 = .ok (.iconst 0, 1) := by decide +kernel
theorem dX12_measures_40 : decode cX12_measures 40 = .ok (.goto 5, 3) := by decide +kernel
theorem dX12_measures_52 : decode cX12_measures 52 = .ok (.iinc 4 1, 3) := by decide +kernel
theorem dX12_measures_55 : decode cX12_measures 55 = .ok (.goto (-47), 3) := by decide +kernel
theorem dX12_measures_58 : decode cX12_measures 58 = .ok (.iconst 0, 1) := by decide +kernel
theorem dX12_measures_59 : decode cX12_measures 59 = .ok (.istore 4, 2) := by decide +kernel
theorem dX12_measures_61 : decode cX12_measures 61 = .ok (.iload 4, 2) := by decide +kernel
theorem dX12_measures_63 : decode cX12_measures 63 = .ok (.aload_n 0, 1) := by decide +kernel
theorem dX12_measures_64 : decode cX12_measures 64 = .ok (.invokevirtual 102, 3) := by decide +kernel
theorem dX12_measures_67 : decode cX12_measures 67 = .ok (.if_icmp .ge 89, 3) := by decide +kernel
theorem dX12_measures_70 : decode cX12_measures 70 = .ok (.iload_n 2, 1) := by decide +kernel
theorem dX12_measures_71 : decode cX12_measures 71 = .ok (.ifCond .ne 14, 3) := by decide +kernel
theorem dX12_measures_74 : decode cX12_measures 74 = .ok (.aload_n 0, 1) := by decide +kernel
theorem dX12_measures_75 : decode cX12_measures 75 = .ok (.getfield 40, 3) := by decide +kernel
theorem dX12_measures_78 : decode cX12_measures 78 = .ok (.iload 4, 2) := by decide +kernel
theorem dX12_measures_80 : decode cX12_measures 80 = .ok (.iaload, 1) := by decide +kernel
theorem dX12_measures_81 : decode cX12_measures 81 = .ok (.iconst 2, 1) := by decide +kernel
theorem dX12_measures_82 : decode cX12_measures 82 = .ok (.if_icmp .eq 28, 3) := by decide +kernel
theorem dX12_measures_110 : decode cX12_measures 110 = .ok (.iload_n 2, 1) := by decide +kernel
theorem dX12_measures_111 : decode cX12_measures 111 = .ok (.ifCond .ne 14, 3) := by decide +kernel
theorem dX12_measures_114 : decode cX12_measures 114 = .ok (.aload_n 0, 1) := by decide +kernel
theorem dX12_measures_115 : decode cX12_measures 115 = .ok (.getfield 40, 3) := by decide +kernel
theorem dX12_measures_118 : decode cX12_measures 118 = .ok (.iload 4, 2) := by decide +kernel
theorem dX12_measures_120 : decode cX12_measures 120 = .ok (.iaload, 1) := by decide +kernel
theorem dX12_measures_121 : decode cX12_measures 121 = .ok (.iconst 1, 1) := by decide +kernel
theorem dX12_measures_122 : decode cX12_measures 122 = .ok (.if_icmp .eq 28, 3) := by decide +kernel
theorem dX12_measures_150 : decode cX12_measures 150 = .ok (.iinc 4 1, 3) := by decide +kernel
theorem dX12_measures_153 : decode cX12_measures 153 = .ok (.goto (-92), 3) := by decide +kernel
theorem dX12_measures_125 : decode cX12_measures 125 = .ok (.aload_n 1, 1) := by decide +kernel
theorem dX12_measures_126 : decode cX12_measures 126 = .ok (.aload_n 0, 1) := by decide +kernel
theorem dX12_measures_127 : decode cX12_measures 127 = .ok (.iload 4, 2) := by decide +kernel
theorem dX12_measures_129 : decode cX12_measures 129 = .ok (.iconst 1, 1) := by decide +kernel
theorem dX12_measures_130 : decode cX12_measures 130 = .ok (.invokevirtual 230, 3) := by decide +kernel
theorem dX12_measures_133 : decode cX12_measures 133 = .ok (.aload_n 0, 1) := by decide +kernel
theorem dX12_measures_134 : decode cX12_measures 134 = .ok (.iload 4, 2) := by decide +kernel
theorem dX12_measures_136 : decode cX12_measures 136 = .ok (.iconst 0, 1) := by decide +kernel
theorem dX12_measures_137 : decode cX12_measures 137 = .ok (.invokevirtual 230, 3) := by decide +kernel
theorem dX12_measures_140 : decode cX12_measures 140 = .ok (.aload_n 0, 1) := by decide +kernel
theorem dX12_measures_141 : decode cX12_measures 141 = .ok (.iload 4, 2) := by decide +kernel
theorem dX12_measures_143 : decode cX12_measures 143 = .ok (.iconst 2, 1) := by decide +kernel
theorem dX12_measures_144 : decode cX12_measures 144 = .ok (.invokevirtual 230, 3) := by decide +kernel
theorem dX12_measures_147 : decode cX12_measures 147 = .ok (.invokestatic 256, 3) := by decide +kernel
theorem dX12_measures_85 : decode cX12_measures 85 = .ok (.aload_n 1, 1) := by decide +kernel
theorem dX12_measures_86 : decode cX12_measures 86 = .ok (.aload_n 0, 1) := by decide +kernel
theorem dX12_measures_87 : decode cX12_measures 87 = .ok (.iload 4, 2) := by decide +kernel
theorem dX12_measures_89 : decode cX12_measures 89 = .ok (.iconst 0, 1) := by decide +kernel
theorem dX12_measures_90 : decode cX12_measures 90 = .ok (.invokevirtual 230, 3) := by decide +kernel
theorem dX12_measures_93 : decode cX12_measures 93 = .ok (.aload_n 0, 1) := by decide +kernel
theorem dX12_measures_94 : decode cX12_measures 94 = .ok (.iload 4, 2) := by decide +kernel
theorem dX12_measures_96 : decode cX12_measures 96 = .ok (.iconst 1, 1) := by decide +kernel
theorem dX12_measures_97 : decode cX12_measures 97 = .ok (.invokevirtual 230, 3) := by decide +kernel
theorem dX12_measures_100 : decode cX12_measures 100 = .ok (.aload_n 0, 1) := by decide +kernel
theorem dX12_measures_101 : decode cX12_measures 101 = .ok (.iload 4, 2) := by decide +kernel
theorem dX12_measures_103 : decode cX12_measures 103 = .ok (.iconst 2, 1) := by decide +kernel
theorem dX12_measures_104 : decode cX12_measures 104 = .ok (.invokevirtual 230, 3) := by decide +kernel
theorem dX12_measures_107 : decode cX12_measures 107 = .ok (.invokestatic 256, 3) := by decide +kernel
theorem dX12_measures_156 : decode cX12_measures 156 = .ok (.iconst 0, 1) := by decide +kernel
theorem dX12_measures_157 : decode cX12_measures 157 = .ok (.istore 4, 2) := by decide +kernel
theorem dX12_measures_159 : decode cX12_measures 159 = .ok (.iload 4, 2) := by decide +kernel
theorem dX12_measures_161 : decode cX12_measures 161 = .ok (.iload_n 3, 1) := by decide +kernel
theorem dX12_measures_162 : decode cX12_measures 162 = .ok (.if_icmp .ge 68, 3) := by decide +kernel
theorem dX12_measures_165 : decode cX12_measures 165 = .ok (.iconst 0, 1) := by decide +kernel
theorem dX12_measures_166 : decode cX12_measures 166 = .ok (.istore 5, 2) := by decide +kernel
theorem dX12_measures_168 : decode cX12_measures 168 = .ok (.iload 5, 2) := by decide +kernel
theorem dX12_measures_170 : decode cX12_measures 170 = .ok (.iload_n 3, 1) := by decide +kernel
theorem dX12_measures_171 : decode cX12_measures 171 = .ok (.if_icmp .ge 53, 3) := by decide +kernel
theorem dX12_measures_174 : decode cX12_measures 174 = .ok (.iconst 0, 1) := by decide +kernel
theorem dX12_measures_175 : decode cX12_measures 175 = .ok (.istore 6, 2) := by decide +kernel
theorem dX12_measures_177 : decode cX12_measures 177 = .ok (.iload 6, 2) := by decide +kernel
theorem dX12_measures_179 : decode cX12_measures 179 = .ok (.iload_n 3, 1) := by decide +kernel
theorem dX12_measures_180 : decode cX12_measures 180 = .ok (.if_icmp .ge 38, 3) := by decide +kernel
theorem dX12_measures_183 : decode cX12_measures 183 = .ok (.aload_n 1, 1) := by decide +kernel
theorem dX12_measures_184 : decode cX12_measures 184 = .ok (.iload 5, 2) := by decide +kernel
theorem dX12_measures_186 : decode cX12_measures 186 = .ok (.iload 6, 2) := by decide +kernel
theorem dX12_measures_188 : decode cX12_measures 188 = .ok (.aload_n 1, 1) := by decide +kernel
theorem dX12_measures_189 : decode cX12_measures 189 = .ok (.bipush 16, 2) := by decide +kernel
theorem dX12_measures_191 : decode cX12_measures 191 = .ok (.iload 5, 2) := by decide +kernel
theorem dX12_measures_193 : decode cX12_measures 193 = .ok (.imul, 1) := by decide +kernel
theorem dX12_measures_194 : decode cX12_measures 194 = .ok (.iload 4, 2) := by decide +kernel
theorem dX12_measures_196 : decode cX12_measures 196 = .ok (.iadd, 1) := by decide +kernel
theorem dX12_measures_197 : decode cX12_measures 197 = .ok (.iaload, 1) := by decide +kernel
theorem dX12_measures_198 : decode cX12_measures 198 = .ok (.aload_n 1, 1) := by decide +kernel
theorem dX12_measures_199 : decode cX12_measures 199 = .ok (.bipush 16, 2) := by decide +kernel
theorem dX12_measures_201 : decode cX12_measures 201 = .ok (.iload 4, 2) := by decide +kernel
theorem dX12_measures_203 : decode cX12_measures 203 = .ok (.imul, 1) := by decide +kernel
theorem dX12_measures_204 : decode cX12_measures 204 = .ok (.iload 6, 2) := by decide +kernel
theorem dX12_measures_206 : decode cX12_measures 206 = .ok (.iadd, 1) := by decide +kernel
theorem dX12_measures_207 : decode cX12_measures 207 = .ok (.iaload, 1) := by decide +kernel
theorem dX12_measures_208 : decode cX12_measures 208 = .ok (.iadd, 1) := by decide +kernel
theorem dX12_measures_209 : decode cX12_measures 209 = .ok (.invokestatic 256, 3) := by decide +kernel
theorem dX12_measures_212 : decode cX12_measures 212 = .ok (.iinc 6 1, 3) := by decide +kernel
theorem dX12_measures_215 : decode cX12_measures 215 = .ok (.goto (-38), 3) := by decide +kernel
theorem dX12_measures_218 : decode cX12_measures 218 = .ok (.iinc 5 1, 3) := by decide +kernel
theorem dX12_measures_221 : decode cX12_measures 221 = .ok (.goto (-53), 3) := by decide +kernel
theorem dX12_measures_224 : decode cX12_measures 224 = .ok (.iinc 4 1, 3) := by decide +kernel
theorem dX12_measures_227 : decode cX12_measures 227 = .ok (.goto (-68), 3) := by decide +kernel
theorem dX12_measures_230 : decode cX12_measures 230 = .ok (.return_, 1) := by decide +kernel
theorem dX12_measure_0 : decode cX12_measure 0 = .ok (.aload_n 0, 1) := by decide +kernel
theorem dX12_measure_1 : decode cX12_measure 1 = .ok (.aload_n 0, 1) := by decide +kernel
theorem dX12_measure_2 : decode cX12_measure 2 = .ok (.getfield 43, 3) := by decide +kernel
theorem dX12_measure_5 : decode cX12_measure 5 = .ok (.iconst 0, 1) := by decide +kernel
theorem dX12_measure_6 : decode cX12_measure 6 = .ok (.invokevirtual 260, 3) := by decide +kernel
theorem dX12_measure_9 : decode cX12_measure 9 = .ok (.return_, 1) := by decide +kernel
theorem dX12_isWholeBy_0 : decode cX12_isWholeBy 0 = .ok (.iconst 0, 1) := by decide +kernel
theorem dX12_isWholeBy_1 : decode cX12_isWholeBy 1 = .ok (.istore_n 2, 1) := by decide +kernel
theorem dX12_isWholeBy_2 : decode cX12_isWholeBy 2 = .ok (.iload_n 2, 1) := by decide +kernel
theorem dX12_isWholeBy_3 : decode cX12_isWholeBy 3 = .ok (.aload_n 0, 1) := by decide +kernel
theorem dX12_isWholeBy_4 : decode cX12_isWholeBy 4 = .ok (.invokevirtual 106, 3) := by decide +kernel
theorem dX12_isWholeBy_7 : decode cX12_isWholeBy 7 = .ok (.if_icmp .ge 40, 3) := by decide +kernel
theorem dX12_isWholeBy_10 : decode cX12_isWholeBy 10 = .ok (.iconst 0, 1) := by decide +kernel
theorem dX12_isWholeBy_11 : decode cX12_isWholeBy 11 = .ok (.istore_n 3, 1) := by decide +kernel
theorem dX12_isWholeBy_12 : decode cX12_isWholeBy 12 = .ok (.iload_n 3, 1) := by decide +kernel
theorem dX12_isWholeBy_13 : decode cX12_isWholeBy 13 = .ok (.aload_n 0, 1) := by decide +kernel
theorem dX12_isWholeBy_14 : decode cX12_isWholeBy 14 = .ok (.invokevirtual 106, 3) := by decide +kernel
theorem dX12_isWholeBy_17 : decode cX12_isWholeBy 17 = .ok (.if_icmp .ge 24, 3) := by decide +kernel
theorem dX12_isWholeBy_20 : decode cX12_isWholeBy 20 = .ok (.aload_n 1, 1) := by decide +kernel
theorem dX12_isWholeBy_21 : decode cX12_isWholeBy 21 = .ok (.bipush 16, 2) := by decide +kernel
theorem dX12_isWholeBy_23 : decode cX12_isWholeBy 23 = .ok (.iload_n 2, 1) := by decide +kernel
theorem dX12_isWholeBy_24 : decode cX12_isWholeBy 24 = .ok (.imul, 1) := by decide +kernel
theorem dX12_isWholeBy_25 : decode cX12_isWholeBy 25 = .ok (.iload_n 3, 1) := by decide +kernel
theorem dX12_isWholeBy_26 : decode cX12_isWholeBy 26 = .ok (.iadd, 1) := by decide +kernel
theorem dX12_isWholeBy_27 : decode cX12_isWholeBy 27 = .ok (.iaload, 1) := by decide +kernel
theorem dX12_isWholeBy_28 : decode cX12_isWholeBy 28 = .ok (.ldc 255, 2) := by decide +kernel
theorem dX12_isWholeBy_30 : decode cX12_isWholeBy 30 = .ok (.if_icmp .lt 5, 3) := by decide +kernel
theorem dX12_isWholeBy_35 : decode cX12_isWholeBy 35 = .ok (.iinc 3 1, 3) := by decide +kernel
theorem dX12_isWholeBy_38 : decode cX12_isWholeBy 38 = .ok (.goto (-26), 3) := by decide +kernel
theorem dX12_isWholeBy_33 : decode cX12_isWholeBy 33 = .ok (.iconst 0, 1) := by decide +kernel
theorem dX12_isWholeBy_34 : decode cX12_isWholeBy 34 = .ok (.ireturn, 1) := by decide +kernel
theorem dX12_isWholeBy_41 : decode cX12_isWholeBy 41 = .ok (.iinc 2 1, 3) := by decide +kernel
theorem dX12_isWholeBy_44 : decode cX12_isWholeBy 44 = .ok (.goto (-42), 3) := by decide +kernel
theorem dX12_isWholeBy_47 : decode cX12_isWholeBy 47 = .ok (.iconst 1, 1) := by decide +kernel
theorem dX12_isWholeBy_48 : decode cX12_isWholeBy 48 = .ok (.ireturn, 1) := by decide +kernel
theorem dX12_isWhole_0 : decode cX12_isWhole 0 = .ok (.aload_n 0, 1) := by decide +kernel
theorem dX12_isWhole_1 : decode cX12_isWhole 1 = .ok (.invokevirtual 264, 3) := by decide +kernel
theorem dX12_isWhole_4 : decode cX12_isWhole 4 = .ok (.aload_n 0, 1) := by decide +kernel
theorem dX12_isWhole_5 : decode cX12_isWhole 5 = .ok (.aload_n 0, 1) := by decide +kernel
theorem dX12_isWhole_6 : decode cX12_isWhole 6 = .ok (.getfield 43, 3) := by decide +kernel
theorem dX12_isWhole_9 : decode cX12_isWhole 9 = .ok (.invokevirtual 267, 3) := by decide +kernel
theorem dX12_isWhole_12 : decode cX12_isWhole 12 = .ok (.ireturn, 1) := by decide +kernel
theorem dX12_whole_0 : decode cX12_whole 0 = .ok (.iload_n 1, 1) := by decide +kernel
theorem dX12_whole_1 : decode cX12_whole 1 = .ok (.invokestatic 239, 3) := by decide +kernel
theorem dX12_whole_4 : decode cX12_whole 4 = .ok (.ifCond .ne 6, 3) := by decide +kernel
theorem dX12_whole_7 : decode cX12_whole 7 = .ok (.bipush (-2), 2) := by decide +kernel
theorem dX12_whole_9 : decode cX12_whole 9 = .ok (.ireturn, 1) := by decide +kernel
theorem dX12_whole_10 : decode cX12_whole 10 = .ok (.aload_n 0, 1) := by decide +kernel
theorem dX12_whole_11 : decode cX12_whole 11 = .ok (.iload_n 1, 1) := by decide +kernel
theorem dX12_whole_12 : decode cX12_whole 12 = .ok (.invokevirtual 271, 3) := by decide +kernel
theorem dX12_whole_15 : decode cX12_whole 15 = .ok (.aload_n 0, 1) := by decide +kernel
theorem dX12_whole_16 : decode cX12_whole 16 = .ok (.invokevirtual 274, 3) := by decide +kernel
theorem dX12_whole_19 : decode cX12_whole 19 = .ok (.ifCond .eq 7, 3) := by decide +kernel
theorem dX12_whole_26 : decode cX12_whole 26 = .ok (.iconst 0, 1) := by decide +kernel
theorem dX12_whole_27 : decode cX12_whole 27 = .ok (.ireturn, 1) := by decide +kernel
theorem dX12_whole_22 : decode cX12_whole 22 = .ok (.iconst 1, 1) := by decide +kernel
theorem dX12_whole_23 : decode cX12_whole 23 = .ok (.goto 4, 3) := by decide +kernel
theorem dX12_isBar_0 : decode cX12_isBar 0 = .ok (.iconst 0, 1) := by decide +kernel
theorem dX12_isBar_1 : decode cX12_isBar 1 = .ok (.istore_n 2, 1) := by decide +kernel
theorem dX12_isBar_2 : decode cX12_isBar 2 = .ok (.iload_n 2, 1) := by decide +kernel
theorem dX12_isBar_3 : decode cX12_isBar 3 = .ok (.aload_n 0, 1) := by decide +kernel
theorem dX12_isBar_4 : decode cX12_isBar 4 = .ok (.invokevirtual 106, 3) := by decide +kernel
theorem dX12_isBar_7 : decode cX12_isBar 7 = .ok (.if_icmp .ge 24, 3) := by decide +kernel
theorem dX12_isBar_10 : decode cX12_isBar 10 = .ok (.aload_n 0, 1) := by decide +kernel
theorem dX12_isBar_11 : decode cX12_isBar 11 = .ok (.getfield 49, 3) := by decide +kernel
theorem dX12_isBar_14 : decode cX12_isBar 14 = .ok (.iload_n 2, 1) := by decide +kernel
theorem dX12_isBar_15 : decode cX12_isBar 15 = .ok (.iload_n 2, 1) := by decide +kernel
theorem dX12_isBar_16 : decode cX12_isBar 16 = .ok (.ifCond .ne 7, 3) := by decide +kernel
theorem dX12_isBar_23 : decode cX12_isBar 23 = .ok (.iconst 0, 1) := by decide +kernel
theorem dX12_isBar_24 : decode cX12_isBar 24 = .ok (.bastore, 1) := by decide +kernel
theorem dX12_isBar_25 : decode cX12_isBar 25 = .ok (.iinc 2 1, 3) := by decide +kernel
theorem dX12_isBar_28 : decode cX12_isBar 28 = .ok (.goto (-26), 3) := by decide +kernel
theorem dX12_isBar_19 : decode cX12_isBar 19 = .ok (.iconst 1, 1) := by decide +kernel
theorem dX12_isBar_20 : decode cX12_isBar 20 = .ok (.goto 4, 3) := by decide +kernel
theorem dX12_isBar_31 : decode cX12_isBar 31 = .ok (.iconst 1, 1) := by decide +kernel
theorem dX12_isBar_32 : decode cX12_isBar 32 = .ok (.istore_n 2, 1) := by decide +kernel
theorem dX12_isBar_33 : decode cX12_isBar 33 = .ok (.iconst 1, 1) := by decide +kernel
theorem dX12_isBar_34 : decode cX12_isBar 34 = .ok (.istore_n 3, 1) := by decide +kernel
theorem dX12_isBar_35 : decode cX12_isBar 35 = .ok (.iload_n 2, 1) := by decide +kernel
theorem dX12_isBar_36 : decode cX12_isBar 36 = .ok (.ifCond .eq 91, 3) := by decide +kernel
theorem dX12_isBar_39 : decode cX12_isBar 39 = .ok (.iconst 0, 1) := by decide +kernel
theorem dX12_isBar_40 : decode cX12_isBar 40 = .ok (.istore_n 2, 1) := by decide +kernel
theorem dX12_isBar_41 : decode cX12_isBar 41 = .ok (.iconst 0, 1) := by decide +kernel
theorem dX12_isBar_42 : decode cX12_isBar 42 = .ok (.istore 4, 2) := by decide +kernel
theorem dX12_isBar_44 : decode cX12_isBar 44 = .ok (.iload 4, 2) := by decide +kernel
theorem dX12_isBar_46 : decode cX12_isBar 46 = .ok (.aload_n 0, 1) := by decide +kernel
theorem dX12_isBar_47 : decode cX12_isBar 47 = .ok (.invokevirtual 102, 3) := by decide +kernel
theorem dX12_isBar_50 : decode cX12_isBar 50 = .ok (.if_icmp .ge 74, 3) := by decide +kernel
theorem dX12_isBar_53 : decode cX12_isBar 53 = .ok (.aload_n 0, 1) := by decide +kernel
theorem dX12_isBar_54 : decode cX12_isBar 54 = .ok (.iload 4, 2) := by decide +kernel
theorem dX12_isBar_56 : decode cX12_isBar 56 = .ok (.iconst 0, 1) := by decide +kernel
theorem dX12_isBar_57 : decode cX12_isBar 57 = .ok (.invokevirtual 230, 3) := by decide +kernel
theorem dX12_isBar_60 : decode cX12_isBar 60 = .ok (.istore 5, 2) := by decide +kernel
theorem dX12_isBar_62 : decode cX12_isBar 62 = .ok (.aload_n 0, 1) := by decide +kernel
theorem dX12_isBar_63 : decode cX12_isBar 63 = .ok (.iload 4, 2) := by decide +kernel
theorem dX12_isBar_65 : decode cX12_isBar 65 = .ok (.iconst 1, 1) := by decide +kernel
theorem dX12_isBar_66 : decode cX12_isBar 66 = .ok (.invokevirtual 230, 3) := by decide +kernel
theorem dX12_isBar_69 : decode cX12_isBar 69 = .ok (.istore 6, 2) := by decide +kernel
theorem dX12_isBar_71 : decode cX12_isBar 71 = .ok (.iload 4, 2) := by decide +kernel
theorem dX12_isBar_73 : decode cX12_isBar 73 = .ok (.iload_n 1, 1) := by decide +kernel
theorem dX12_isBar_74 : decode cX12_isBar 74 = .ok (.if_icmp .eq 44, 3) := by decide +kernel
theorem dX12_isBar_118 : decode cX12_isBar 118 = .ok (.iinc 4 1, 3) := by decide +kernel
theorem dX12_isBar_121 : decode cX12_isBar 121 = .ok (.goto (-77), 3) := by decide +kernel
theorem dX12_isBar_77 : decode cX12_isBar 77 = .ok (.aload_n 0, 1) := by decide +kernel
theorem dX12_isBar_78 : decode cX12_isBar 78 = .ok (.getfield 49, 3) := by decide +kernel
theorem dX12_isBar_81 : decode cX12_isBar 81 = .ok (.iload 5, 2) := by decide +kernel
theorem dX12_isBar_83 : decode cX12_isBar 83 = .ok (.baload, 1) := by decide +kernel
theorem dX12_isBar_84 : decode cX12_isBar 84 = .ok (.aload_n 0, 1) := by decide +kernel
theorem dX12_isBar_85 : decode cX12_isBar 85 = .ok (.getfield 49, 3) := by decide +kernel
theorem dX12_isBar_88 : decode cX12_isBar 88 = .ok (.iload 6, 2) := by decide +kernel
theorem dX12_isBar_90 : decode cX12_isBar 90 = .ok (.baload, 1) := by decide +kernel
theorem dX12_isBar_91 : decode cX12_isBar 91 = .ok (.if_icmp .ne 6, 3) := by decide +kernel
theorem dX12_isBar_97 : decode cX12_isBar 97 = .ok (.aload_n 0, 1) := by decide +kernel
theorem dX12_isBar_98 : decode cX12_isBar 98 = .ok (.getfield 49, 3) := by decide +kernel
theorem dX12_isBar_101 : decode cX12_isBar 101 = .ok (.iload 5, 2) := by decide +kernel
theorem dX12_isBar_103 : decode cX12_isBar 103 = .ok (.iconst 1, 1) := by decide +kernel
theorem dX12_isBar_104 : decode cX12_isBar 104 = .ok (.bastore, 1) := by decide +kernel
theorem dX12_isBar_105 : decode cX12_isBar 105 = .ok (.aload_n 0, 1) := by decide +kernel
theorem dX12_isBar_106 : decode cX12_isBar 106 = .ok (.getfield 49, 3) := by decide +kernel
theorem dX12_isBar_109 : decode cX12_isBar 109 = .ok (.iload 6, 2) := by decide +kernel
theorem dX12_isBar_111 : decode cX12_isBar 111 = .ok (.iconst 1, 1) := by decide +kernel
theorem dX12_isBar_112 : decode cX12_isBar 112 = .ok (.bastore, 1) := by decide +kernel
theorem dX12_isBar_113 : decode cX12_isBar 113 = .ok (.iinc 3 1, 3) := by decide +kernel
theorem dX12_isBar_116 : decode cX12_isBar 116 = .ok (.iconst 1, 1) := by decide +kernel
theorem dX12_isBar_117 : decode cX12_isBar 117 = .ok (.istore_n 2, 1) := by decide +kernel
theorem dX12_isBar_94 : decode cX12_isBar 94 = .ok (.goto 24, 3) := by decide +kernel
theorem dX12_isBar_124 : decode cX12_isBar 124 = .ok (.goto (-89), 3) := by decide +kernel
theorem dX12_isBar_127 : decode cX12_isBar 127 = .ok (.iload_n 3, 1) := by decide +kernel
theorem dX12_isBar_128 : decode cX12_isBar 128 = .ok (.aload_n 0, 1) := by decide +kernel
theorem dX12_isBar_129 : decode cX12_isBar 129 = .ok (.invokevirtual 106, 3) := by decide +kernel
theorem dX12_isBar_132 : decode cX12_isBar 132 = .ok (.if_icmp .ge 7, 3) := by decide +kernel
theorem dX12_isBar_139 : decode cX12_isBar 139 = .ok (.iconst 0, 1) := by decide +kernel
theorem dX12_isBar_140 : decode cX12_isBar 140 = .ok (.ireturn, 1) := by decide +kernel
theorem dX12_isBar_135 : decode cX12_isBar 135 = .ok (.iconst 1, 1) := by decide +kernel
theorem dX12_isBar_136 : decode cX12_isBar 136 = .ok (.goto 4, 3) := by decide +kernel
theorem dX12_barOf_0 : decode cX12_barOf 0 = .ok (.iconst 0, 1) := by decide +kernel
theorem dX12_barOf_1 : decode cX12_barOf 1 = .ok (.istore_n 1, 1) := by decide +kernel
theorem dX12_barOf_2 : decode cX12_barOf 2 = .ok (.iload_n 1, 1) := by decide +kernel
theorem dX12_barOf_3 : decode cX12_barOf 3 = .ok (.aload_n 0, 1) := by decide +kernel
theorem dX12_barOf_4 : decode cX12_barOf 4 = .ok (.invokevirtual 102, 3) := by decide +kernel
theorem dX12_barOf_7 : decode cX12_barOf 7 = .ok (.if_icmp .ge 28, 3) := by decide +kernel
theorem dX12_barOf_10 : decode cX12_barOf 10 = .ok (.aload_n 0, 1) := by decide +kernel
theorem dX12_barOf_11 : decode cX12_barOf 11 = .ok (.getfield 40, 3) := by decide +kernel
theorem dX12_barOf_14 : decode cX12_barOf 14 = .ok (.iload_n 1, 1) := by decide +kernel
theorem dX12_barOf_15 : decode cX12_barOf 15 = .ok (.iaload, 1) := by decide +kernel
theorem dX12_barOf_16 : decode cX12_barOf 16 = .ok (.ifCond .ne 13, 3) := by decide +kernel
theorem dX12_barOf_29 : decode cX12_barOf 29 = .ok (.iinc 1 1, 3) := by decide +kernel
theorem dX12_barOf_32 : decode cX12_barOf 32 = .ok (.goto (-30), 3) := by decide +kernel
theorem dX12_barOf_19 : decode cX12_barOf 19 = .ok (.aload_n 0, 1) := by decide +kernel
theorem dX12_barOf_20 : decode cX12_barOf 20 = .ok (.iload_n 1, 1) := by decide +kernel
theorem dX12_barOf_21 : decode cX12_barOf 21 = .ok (.invokevirtual 277, 3) := by decide +kernel
theorem dX12_barOf_24 : decode cX12_barOf 24 = .ok (.ifCond .eq 5, 3) := by decide +kernel
theorem dX12_barOf_27 : decode cX12_barOf 27 = .ok (.iload_n 1, 1) := by decide +kernel
theorem dX12_barOf_28 : decode cX12_barOf 28 = .ok (.ireturn, 1) := by decide +kernel
theorem dX12_barOf_35 : decode cX12_barOf 35 = .ok (.iconst (-1), 1) := by decide +kernel
theorem dX12_barOf_36 : decode cX12_barOf 36 = .ok (.ireturn, 1) := by decide +kernel
theorem dX12_canEnd_0 : decode cX12_canEnd 0 = .ok (.aload_n 0, 1) := by decide +kernel
theorem dX12_canEnd_1 : decode cX12_canEnd 1 = .ok (.invokevirtual 274, 3) := by decide +kernel
theorem dX12_canEnd_4 : decode cX12_canEnd 4 = .ok (.ifCond .eq 15, 3) := by decide +kernel
theorem dX12_canEnd_19 : decode cX12_canEnd 19 = .ok (.iconst 0, 1) := by decide +kernel
theorem dX12_canEnd_20 : decode cX12_canEnd 20 = .ok (.ireturn, 1) := by decide +kernel
theorem dX12_canEnd_7 : decode cX12_canEnd 7 = .ok (.aload_n 0, 1) := by decide +kernel
theorem dX12_canEnd_8 : decode cX12_canEnd 8 = .ok (.invokevirtual 280, 3) := by decide +kernel
theorem dX12_canEnd_11 : decode cX12_canEnd 11 = .ok (.iconst (-1), 1) := by decide +kernel
theorem dX12_canEnd_12 : decode cX12_canEnd 12 = .ok (.if_icmp .ne 7, 3) := by decide +kernel
theorem dX12_canEnd_15 : decode cX12_canEnd 15 = .ok (.iconst 1, 1) := by decide +kernel
theorem dX12_canEnd_16 : decode cX12_canEnd 16 = .ok (.goto 4, 3) := by decide +kernel
theorem dX12_can_0 : decode cX12_can 0 = .ok (.iload_n 1, 1) := by decide +kernel
theorem dX12_can_1 : decode cX12_can 1 = .ok (.invokestatic 239, 3) := by decide +kernel
theorem dX12_can_4 : decode cX12_can 4 = .ok (.ifCond .ne 6, 3) := by decide +kernel
theorem dX12_can_7 : decode cX12_can 7 = .ok (.bipush (-2), 2) := by decide +kernel
theorem dX12_can_9 : decode cX12_can 9 = .ok (.ireturn, 1) := by decide +kernel
theorem dX12_can_10 : decode cX12_can 10 = .ok (.aload_n 0, 1) := by decide +kernel
theorem dX12_can_11 : decode cX12_can 11 = .ok (.iload_n 1, 1) := by decide +kernel
theorem dX12_can_12 : decode cX12_can 12 = .ok (.invokevirtual 271, 3) := by decide +kernel
theorem dX12_can_15 : decode cX12_can 15 = .ok (.aload_n 0, 1) := by decide +kernel
theorem dX12_can_16 : decode cX12_can 16 = .ok (.invokevirtual 283, 3) := by decide +kernel
theorem dX12_can_19 : decode cX12_can 19 = .ok (.ifCond .eq 7, 3) := by decide +kernel
theorem dX12_can_26 : decode cX12_can 26 = .ok (.iconst 0, 1) := by decide +kernel
theorem dX12_can_27 : decode cX12_can 27 = .ok (.ireturn, 1) := by decide +kernel
theorem dX12_can_22 : decode cX12_can 22 = .ok (.iconst 1, 1) := by decide +kernel
theorem dX12_can_23 : decode cX12_can 23 = .ok (.goto 4, 3) := by decide +kernel
theorem dX12_bar_0 : decode cX12_bar 0 = .ok (.iload_n 1, 1) := by decide +kernel
theorem dX12_bar_1 : decode cX12_bar 1 = .ok (.invokestatic 239, 3) := by decide +kernel
theorem dX12_bar_4 : decode cX12_bar 4 = .ok (.ifCond .ne 6, 3) := by decide +kernel
theorem dX12_bar_7 : decode cX12_bar 7 = .ok (.bipush (-2), 2) := by decide +kernel
theorem dX12_bar_9 : decode cX12_bar 9 = .ok (.ireturn, 1) := by decide +kernel
theorem dX12_bar_10 : decode cX12_bar 10 = .ok (.aload_n 0, 1) := by decide +kernel
theorem dX12_bar_11 : decode cX12_bar 11 = .ok (.iload_n 1, 1) := by decide +kernel
theorem dX12_bar_12 : decode cX12_bar 12 = .ok (.invokevirtual 271, 3) := by decide +kernel
theorem dX12_bar_15 : decode cX12_bar 15 = .ok (.aload_n 0, 1) := by decide +kernel
theorem dX12_bar_16 : decode cX12_bar 16 = .ok (.invokevirtual 274, 3) := by decide +kernel
theorem dX12_bar_19 : decode cX12_bar 19 = .ok (.ifCond .eq 10, 3) := by decide +kernel
theorem dX12_bar_29 : decode cX12_bar 29 = .ok (.bipush (-3), 2) := by decide +kernel
theorem dX12_bar_31 : decode cX12_bar 31 = .ok (.ireturn, 1) := by decide +kernel
theorem dX12_bar_22 : decode cX12_bar 22 = .ok (.aload_n 0, 1) := by decide +kernel
theorem dX12_bar_23 : decode cX12_bar 23 = .ok (.invokevirtual 280, 3) := by decide +kernel
theorem dX12_bar_26 : decode cX12_bar 26 = .ok (.goto 5, 3) := by decide +kernel
theorem dX12_cut_0 : decode cX12_cut 0 = .ok (.iload_n 1, 1) := by decide +kernel
theorem dX12_cut_1 : decode cX12_cut 1 = .ok (.invokestatic 239, 3) := by decide +kernel
theorem dX12_cut_4 : decode cX12_cut 4 = .ok (.ifCond .ne 6, 3) := by decide +kernel
theorem dX12_cut_7 : decode cX12_cut 7 = .ok (.bipush (-2), 2) := by decide +kernel
theorem dX12_cut_9 : decode cX12_cut 9 = .ok (.ireturn, 1) := by decide +kernel
theorem dX12_cut_10 : decode cX12_cut 10 = .ok (.aload_n 0, 1) := by decide +kernel
theorem dX12_cut_11 : decode cX12_cut 11 = .ok (.iload_n 1, 1) := by decide +kernel
theorem dX12_cut_12 : decode cX12_cut 12 = .ok (.invokevirtual 271, 3) := by decide +kernel
theorem dX12_cut_15 : decode cX12_cut 15 = .ok (.aload_n 0, 1) := by decide +kernel
theorem dX12_cut_16 : decode cX12_cut 16 = .ok (.invokevirtual 264, 3) := by decide +kernel
theorem dX12_cut_19 : decode cX12_cut 19 = .ok (.iconst 0, 1) := by decide +kernel
theorem dX12_cut_20 : decode cX12_cut 20 = .ok (.istore_n 2, 1) := by decide +kernel
theorem dX12_cut_21 : decode cX12_cut 21 = .ok (.iload_n 2, 1) := by decide +kernel
theorem dX12_cut_22 : decode cX12_cut 22 = .ok (.aload_n 0, 1) := by decide +kernel
theorem dX12_cut_23 : decode cX12_cut 23 = .ok (.invokevirtual 106, 3) := by decide +kernel
theorem dX12_cut_26 : decode cX12_cut 26 = .ok (.if_icmp .ge 71, 3) := by decide +kernel
theorem dX12_cut_29 : decode cX12_cut 29 = .ok (.iconst 0, 1) := by decide +kernel
theorem dX12_cut_30 : decode cX12_cut 30 = .ok (.istore_n 3, 1) := by decide +kernel
theorem dX12_cut_31 : decode cX12_cut 31 = .ok (.iconst 0, 1) := by decide +kernel
theorem dX12_cut_32 : decode cX12_cut 32 = .ok (.istore 4, 2) := by decide +kernel
theorem dX12_cut_34 : decode cX12_cut 34 = .ok (.iload 4, 2) := by decide +kernel
theorem dX12_cut_36 : decode cX12_cut 36 = .ok (.aload_n 0, 1) := by decide +kernel
theorem dX12_cut_37 : decode cX12_cut 37 = .ok (.invokevirtual 106, 3) := by decide +kernel
theorem dX12_cut_40 : decode cX12_cut 40 = .ok (.if_icmp .ge 37, 3) := by decide +kernel
theorem dX12_cut_43 : decode cX12_cut 43 = .ok (.iload_n 3, 1) := by decide +kernel
theorem dX12_cut_44 : decode cX12_cut 44 = .ok (.aload_n 0, 1) := by decide +kernel
theorem dX12_cut_45 : decode cX12_cut 45 = .ok (.getfield 43, 3) := by decide +kernel
theorem dX12_cut_48 : decode cX12_cut 48 = .ok (.bipush 16, 2) := by decide +kernel
theorem dX12_cut_50 : decode cX12_cut 50 = .ok (.iload_n 2, 1) := by decide +kernel
theorem dX12_cut_51 : decode cX12_cut 51 = .ok (.imul, 1) := by decide +kernel
theorem dX12_cut_52 : decode cX12_cut 52 = .ok (.iload 4, 2) := by decide +kernel
theorem dX12_cut_54 : decode cX12_cut 54 = .ok (.iadd, 1) := by decide +kernel
theorem dX12_cut_55 : decode cX12_cut 55 = .ok (.iaload, 1) := by decide +kernel
theorem dX12_cut_56 : decode cX12_cut 56 = .ok (.ldc 255, 2) := by decide +kernel
theorem dX12_cut_58 : decode cX12_cut 58 = .ok (.if_icmp .ge 10, 3) := by decide +kernel
theorem dX12_cut_68 : decode cX12_cut 68 = .ok (.iconst 0, 1) := by decide +kernel
theorem dX12_cut_69 : decode cX12_cut 69 = .ok (.ior, 1) := by decide +kernel
theorem dX12_cut_70 : decode cX12_cut 70 = .ok (.istore_n 3, 1) := by decide +kernel
theorem dX12_cut_71 : decode cX12_cut 71 = .ok (.iinc 4 1, 3) := by decide +kernel
theorem dX12_cut_74 : decode cX12_cut 74 = .ok (.goto (-40), 3) := by decide +kernel
theorem dX12_cut_61 : decode cX12_cut 61 = .ok (.iconst 1, 1) := by decide +kernel
theorem dX12_cut_62 : decode cX12_cut 62 = .ok (.iload 4, 2) := by decide +kernel
theorem dX12_cut_64 : decode cX12_cut 64 = .ok (.ishl, 1) := by decide +kernel
theorem dX12_cut_65 : decode cX12_cut 65 = .ok (.goto 4, 3) := by decide +kernel
theorem dX12_cut_77 : decode cX12_cut 77 = .ok (.iload_n 3, 1) := by decide +kernel
theorem dX12_cut_78 : decode cX12_cut 78 = .ok (.iconst 1, 1) := by decide +kernel
theorem dX12_cut_79 : decode cX12_cut 79 = .ok (.aload_n 0, 1) := by decide +kernel
theorem dX12_cut_80 : decode cX12_cut 80 = .ok (.invokevirtual 106, 3) := by decide +kernel
theorem dX12_cut_83 : decode cX12_cut 83 = .ok (.ishl, 1) := by decide +kernel
theorem dX12_cut_84 : decode cX12_cut 84 = .ok (.iconst 1, 1) := by decide +kernel
theorem dX12_cut_85 : decode cX12_cut 85 = .ok (.isub, 1) := by decide +kernel
theorem dX12_cut_86 : decode cX12_cut 86 = .ok (.if_icmp .eq 5, 3) := by decide +kernel
theorem dX12_cut_91 : decode cX12_cut 91 = .ok (.iinc 2 1, 3) := by decide +kernel
theorem dX12_cut_94 : decode cX12_cut 94 = .ok (.goto (-73), 3) := by decide +kernel
theorem dX12_cut_89 : decode cX12_cut 89 = .ok (.iload_n 3, 1) := by decide +kernel
theorem dX12_cut_90 : decode cX12_cut 90 = .ok (.ireturn, 1) := by decide +kernel
theorem dX12_cut_97 : decode cX12_cut 97 = .ok (.iconst 0, 1) := by decide +kernel
theorem dX12_cut_98 : decode cX12_cut 98 = .ok (.ireturn, 1) := by decide +kernel
theorem dX12_keeps_0 : decode cX12_keeps 0 = .ok (.iconst 0, 1) := by decide +kernel
theorem dX12_keeps_1 : decode cX12_keeps 1 = .ok (.istore_n 2, 1) := by decide +kernel
theorem dX12_keeps_2 : decode cX12_keeps 2 = .ok (.iload_n 2, 1) := by decide +kernel
theorem dX12_keeps_3 : decode cX12_keeps 3 = .ok (.aload_n 0, 1) := by decide +kernel
theorem dX12_keeps_4 : decode cX12_keeps 4 = .ok (.invokevirtual 102, 3) := by decide +kernel
theorem dX12_keeps_7 : decode cX12_keeps 7 = .ok (.if_icmp .ge 30, 3) := by decide +kernel
theorem dX12_keeps_10 : decode cX12_keeps 10 = .ok (.aload_n 0, 1) := by decide +kernel
theorem dX12_keeps_11 : decode cX12_keeps 11 = .ok (.getfield 13, 3) := by decide +kernel
theorem dX12_keeps_14 : decode cX12_keeps 14 = .ok (.sipush 248, 3) := by decide +kernel
theorem dX12_keeps_17 : decode cX12_keeps 17 = .ok (.bipush 28, 2) := by decide +kernel
theorem dX12_keeps_19 : decode cX12_keeps 19 = .ok (.iload_n 1, 1) := by decide +kernel
theorem dX12_keeps_20 : decode cX12_keeps 20 = .ok (.imul, 1) := by decide +kernel
theorem dX12_keeps_21 : decode cX12_keeps 21 = .ok (.iadd, 1) := by decide +kernel
theorem dX12_keeps_22 : decode cX12_keeps 22 = .ok (.iload_n 2, 1) := by decide +kernel
theorem dX12_keeps_23 : decode cX12_keeps 23 = .ok (.iadd, 1) := by decide +kernel
theorem dX12_keeps_24 : decode cX12_keeps 24 = .ok (.aload_n 0, 1) := by decide +kernel
theorem dX12_keeps_25 : decode cX12_keeps 25 = .ok (.getfield 40, 3) := by decide +kernel
theorem dX12_keeps_28 : decode cX12_keeps 28 = .ok (.iload_n 2, 1) := by decide +kernel
theorem dX12_keeps_29 : decode cX12_keeps 29 = .ok (.iaload, 1) := by decide +kernel
theorem dX12_keeps_30 : decode cX12_keeps 30 = .ok (.iastore, 1) := by decide +kernel
theorem dX12_keeps_31 : decode cX12_keeps 31 = .ok (.iinc 2 1, 3) := by decide +kernel
theorem dX12_keeps_34 : decode cX12_keeps 34 = .ok (.goto (-32), 3) := by decide +kernel
theorem dX12_keeps_37 : decode cX12_keeps 37 = .ok (.return_, 1) := by decide +kernel
theorem dX12_show_0 : decode cX12_show 0 = .ok (.iload_n 1, 1) := by decide +kernel
theorem dX12_show_1 : decode cX12_show 1 = .ok (.invokestatic 239, 3) := by decide +kernel
theorem dX12_show_4 : decode cX12_show 4 = .ok (.ifCond .ne 6, 3) := by decide +kernel
theorem dX12_show_7 : decode cX12_show 7 = .ok (.bipush (-2), 2) := by decide +kernel
theorem dX12_show_9 : decode cX12_show 9 = .ok (.ireturn, 1) := by decide +kernel
theorem dX12_show_10 : decode cX12_show 10 = .ok (.aload_n 0, 1) := by decide +kernel
theorem dX12_show_11 : decode cX12_show 11 = .ok (.iload_n 1, 1) := by decide +kernel
theorem dX12_show_12 : decode cX12_show 12 = .ok (.invokevirtual 271, 3) := by decide +kernel
theorem dX12_show_15 : decode cX12_show 15 = .ok (.aload_n 0, 1) := by decide +kernel
theorem dX12_show_16 : decode cX12_show 16 = .ok (.invokevirtual 283, 3) := by decide +kernel
theorem dX12_show_19 : decode cX12_show 19 = .ok (.ifCond .ne 5, 3) := by decide +kernel
theorem dX12_show_24 : decode cX12_show 24 = .ok (.iconst 0, 1) := by decide +kernel
theorem dX12_show_25 : decode cX12_show 25 = .ok (.istore_n 2, 1) := by decide +kernel
theorem dX12_show_26 : decode cX12_show 26 = .ok (.iconst 0, 1) := by decide +kernel
theorem dX12_show_27 : decode cX12_show 27 = .ok (.istore_n 3, 1) := by decide +kernel
theorem dX12_show_28 : decode cX12_show 28 = .ok (.iload_n 3, 1) := by decide +kernel
theorem dX12_show_29 : decode cX12_show 29 = .ok (.aload_n 0, 1) := by decide +kernel
theorem dX12_show_30 : decode cX12_show 30 = .ok (.invokevirtual 102, 3) := by decide +kernel
theorem dX12_show_33 : decode cX12_show 33 = .ok (.if_icmp .ge 45, 3) := by decide +kernel
theorem dX12_show_36 : decode cX12_show 36 = .ok (.aload_n 0, 1) := by decide +kernel
theorem dX12_show_37 : decode cX12_show 37 = .ok (.getfield 40, 3) := by decide +kernel
theorem dX12_show_40 : decode cX12_show 40 = .ok (.iload_n 3, 1) := by decide +kernel
theorem dX12_show_41 : decode cX12_show 41 = .ok (.iaload, 1) := by decide +kernel
theorem dX12_show_42 : decode cX12_show 42 = .ok (.ifCond .eq 6, 3) := by decide +kernel
theorem dX12_show_48 : decode cX12_show 48 = .ok (.aload_n 0, 1) := by decide +kernel
theorem dX12_show_49 : decode cX12_show 49 = .ok (.getfield 40, 3) := by decide +kernel
theorem dX12_show_52 : decode cX12_show 52 = .ok (.iload_n 3, 1) := by decide +kernel
theorem dX12_show_53 : decode cX12_show 53 = .ok (.iconst 1, 1) := by decide +kernel
theorem dX12_show_54 : decode cX12_show 54 = .ok (.iastore, 1) := by decide +kernel
theorem dX12_show_55 : decode cX12_show 55 = .ok (.aload_n 0, 1) := by decide +kernel
theorem dX12_show_56 : decode cX12_show 56 = .ok (.invokevirtual 283, 3) := by decide +kernel
theorem dX12_show_59 : decode cX12_show 59 = .ok (.ifCond .ne 10, 3) := by decide +kernel
theorem dX12_show_69 : decode cX12_show 69 = .ok (.iinc 2 1, 3) := by decide +kernel
theorem dX12_show_72 : decode cX12_show 72 = .ok (.iinc 3 1, 3) := by decide +kernel
theorem dX12_show_75 : decode cX12_show 75 = .ok (.goto (-47), 3) := by decide +kernel
theorem dX12_show_62 : decode cX12_show 62 = .ok (.aload_n 0, 1) := by decide +kernel
theorem dX12_show_63 : decode cX12_show 63 = .ok (.getfield 40, 3) := by decide +kernel
theorem dX12_show_66 : decode cX12_show 66 = .ok (.iload_n 3, 1) := by decide +kernel
theorem dX12_show_67 : decode cX12_show 67 = .ok (.iconst 2, 1) := by decide +kernel
theorem dX12_show_68 : decode cX12_show 68 = .ok (.iastore, 1) := by decide +kernel
theorem dX12_show_45 : decode cX12_show 45 = .ok (.goto 27, 3) := by decide +kernel
theorem dX12_show_78 : decode cX12_show 78 = .ok (.aload_n 0, 1) := by decide +kernel
theorem dX12_show_79 : decode cX12_show 79 = .ok (.iload_n 1, 1) := by decide +kernel
theorem dX12_show_80 : decode cX12_show 80 = .ok (.invokevirtual 286, 3) := by decide +kernel
theorem dX12_show_83 : decode cX12_show 83 = .ok (.iload_n 2, 1) := by decide +kernel
theorem dX12_show_84 : decode cX12_show 84 = .ok (.ireturn, 1) := by decide +kernel
theorem dX12_show_22 : decode cX12_show 22 = .ok (.iconst (-1), 1) := by decide +kernel
theorem dX12_show_23 : decode cX12_show 23 = .ok (.ireturn, 1) := by decide +kernel
theorem dX12_forcedOf_0 : decode cX12_forcedOf 0 = .ok (.aload_n 0, 1) := by decide +kernel
theorem dX12_forcedOf_1 : decode cX12_forcedOf 1 = .ok (.getfield 40, 3) := by decide +kernel
theorem dX12_forcedOf_4 : decode cX12_forcedOf 4 = .ok (.iload_n 1, 1) := by decide +kernel
theorem dX12_forcedOf_5 : decode cX12_forcedOf 5 = .ok (.iaload, 1) := by decide +kernel
theorem dX12_forcedOf_6 : decode cX12_forcedOf 6 = .ok (.ifCond .eq 5, 3) := by decide +kernel
theorem dX12_forcedOf_11 : decode cX12_forcedOf 11 = .ok (.aload_n 0, 1) := by decide +kernel
theorem dX12_forcedOf_12 : decode cX12_forcedOf 12 = .ok (.getfield 40, 3) := by decide +kernel
theorem dX12_forcedOf_15 : decode cX12_forcedOf 15 = .ok (.iload_n 1, 1) := by decide +kernel
theorem dX12_forcedOf_16 : decode cX12_forcedOf 16 = .ok (.iconst 1, 1) := by decide +kernel
theorem dX12_forcedOf_17 : decode cX12_forcedOf 17 = .ok (.iastore, 1) := by decide +kernel
theorem dX12_forcedOf_18 : decode cX12_forcedOf 18 = .ok (.aload_n 0, 1) := by decide +kernel
theorem dX12_forcedOf_19 : decode cX12_forcedOf 19 = .ok (.invokevirtual 283, 3) := by decide +kernel
theorem dX12_forcedOf_22 : decode cX12_forcedOf 22 = .ok (.istore_n 2, 1) := by decide +kernel
theorem dX12_forcedOf_23 : decode cX12_forcedOf 23 = .ok (.aload_n 0, 1) := by decide +kernel
theorem dX12_forcedOf_24 : decode cX12_forcedOf 24 = .ok (.getfield 40, 3) := by decide +kernel
theorem dX12_forcedOf_27 : decode cX12_forcedOf 27 = .ok (.iload_n 1, 1) := by decide +kernel
theorem dX12_forcedOf_28 : decode cX12_forcedOf 28 = .ok (.iconst 2, 1) := by decide +kernel
theorem dX12_forcedOf_29 : decode cX12_forcedOf 29 = .ok (.iastore, 1) := by decide +kernel
theorem dX12_forcedOf_30 : decode cX12_forcedOf 30 = .ok (.aload_n 0, 1) := by decide +kernel
theorem dX12_forcedOf_31 : decode cX12_forcedOf 31 = .ok (.invokevirtual 283, 3) := by decide +kernel
theorem dX12_forcedOf_34 : decode cX12_forcedOf 34 = .ok (.istore_n 3, 1) := by decide +kernel
theorem dX12_forcedOf_35 : decode cX12_forcedOf 35 = .ok (.aload_n 0, 1) := by decide +kernel
theorem dX12_forcedOf_36 : decode cX12_forcedOf 36 = .ok (.getfield 40, 3) := by decide +kernel
theorem dX12_forcedOf_39 : decode cX12_forcedOf 39 = .ok (.iload_n 1, 1) := by decide +kernel
theorem dX12_forcedOf_40 : decode cX12_forcedOf 40 = .ok (.iconst 0, 1) := by decide +kernel
theorem dX12_forcedOf_41 : decode cX12_forcedOf 41 = .ok (.iastore, 1) := by decide +kernel
theorem dX12_forcedOf_42 : decode cX12_forcedOf 42 = .ok (.iload_n 2, 1) := by decide +kernel
theorem dX12_forcedOf_43 : decode cX12_forcedOf 43 = .ok (.ifCond .eq 11, 3) := by decide +kernel
theorem dX12_forcedOf_54 : decode cX12_forcedOf 54 = .ok (.iload_n 2, 1) := by decide +kernel
theorem dX12_forcedOf_55 : decode cX12_forcedOf 55 = .ok (.ifCond .eq 7, 3) := by decide +kernel
theorem dX12_forcedOf_62 : decode cX12_forcedOf 62 = .ok (.iload_n 3, 1) := by decide +kernel
theorem dX12_forcedOf_63 : decode cX12_forcedOf 63 = .ok (.ifCond .eq 7, 3) := by decide +kernel
theorem dX12_forcedOf_70 : decode cX12_forcedOf 70 = .ok (.iconst 0, 1) := by decide +kernel
theorem dX12_forcedOf_71 : decode cX12_forcedOf 71 = .ok (.ireturn, 1) := by decide +kernel
theorem dX12_forcedOf_66 : decode cX12_forcedOf 66 = .ok (.iconst 2, 1) := by decide +kernel
theorem dX12_forcedOf_67 : decode cX12_forcedOf 67 = .ok (.goto 4, 3) := by decide +kernel
theorem dX12_forcedOf_46 : decode cX12_forcedOf 46 = .ok (.iload_n 3, 1) := by decide +kernel
theorem dX12_forcedOf_47 : decode cX12_forcedOf 47 = .ok (.ifCond .eq 7, 3) := by decide +kernel
theorem dX12_forcedOf_58 : decode cX12_forcedOf 58 = .ok (.iconst 1, 1) := by decide +kernel
theorem dX12_forcedOf_59 : decode cX12_forcedOf 59 = .ok (.goto 12, 3) := by decide +kernel
theorem dX12_forcedOf_50 : decode cX12_forcedOf 50 = .ok (.iconst 0, 1) := by decide +kernel
theorem dX12_forcedOf_51 : decode cX12_forcedOf 51 = .ok (.goto 20, 3) := by decide +kernel
theorem dX12_forcedOf_9 : decode cX12_forcedOf 9 = .ok (.iconst 0, 1) := by decide +kernel
theorem dX12_forcedOf_10 : decode cX12_forcedOf 10 = .ok (.ireturn, 1) := by decide +kernel
theorem dX12_forced_0 : decode cX12_forced 0 = .ok (.iload_n 1, 1) := by decide +kernel
theorem dX12_forced_1 : decode cX12_forced 1 = .ok (.invokestatic 239, 3) := by decide +kernel
theorem dX12_forced_4 : decode cX12_forced 4 = .ok (.ifCond .ne 6, 3) := by decide +kernel
theorem dX12_forced_7 : decode cX12_forced 7 = .ok (.bipush (-2), 2) := by decide +kernel
theorem dX12_forced_9 : decode cX12_forced 9 = .ok (.ireturn, 1) := by decide +kernel
theorem dX12_forced_10 : decode cX12_forced 10 = .ok (.aload_n 0, 1) := by decide +kernel
theorem dX12_forced_11 : decode cX12_forced 11 = .ok (.iload_n 1, 1) := by decide +kernel
theorem dX12_forced_12 : decode cX12_forced 12 = .ok (.invokevirtual 271, 3) := by decide +kernel
theorem dX12_forced_15 : decode cX12_forced 15 = .ok (.aload_n 0, 1) := by decide +kernel
theorem dX12_forced_16 : decode cX12_forced 16 = .ok (.invokevirtual 283, 3) := by decide +kernel
theorem dX12_forced_19 : decode cX12_forced 19 = .ok (.ifCond .ne 5, 3) := by decide +kernel
theorem dX12_forced_24 : decode cX12_forced 24 = .ok (.iconst 0, 1) := by decide +kernel
theorem dX12_forced_25 : decode cX12_forced 25 = .ok (.istore_n 2, 1) := by decide +kernel
theorem dX12_forced_26 : decode cX12_forced 26 = .ok (.iconst 0, 1) := by decide +kernel
theorem dX12_forced_27 : decode cX12_forced 27 = .ok (.istore_n 3, 1) := by decide +kernel
theorem dX12_forced_28 : decode cX12_forced 28 = .ok (.iload_n 3, 1) := by decide +kernel
theorem dX12_forced_29 : decode cX12_forced 29 = .ok (.aload_n 0, 1) := by decide +kernel
theorem dX12_forced_30 : decode cX12_forced 30 = .ok (.invokevirtual 102, 3) := by decide +kernel
theorem dX12_forced_33 : decode cX12_forced 33 = .ok (.if_icmp .ge 27, 3) := by decide +kernel
theorem dX12_forced_36 : decode cX12_forced 36 = .ok (.iload_n 2, 1) := by decide +kernel
theorem dX12_forced_37 : decode cX12_forced 37 = .ok (.aload_n 0, 1) := by decide +kernel
theorem dX12_forced_38 : decode cX12_forced 38 = .ok (.iload_n 3, 1) := by decide +kernel
theorem dX12_forced_39 : decode cX12_forced 39 = .ok (.invokevirtual 289, 3) := by decide +kernel
theorem dX12_forced_42 : decode cX12_forced 42 = .ok (.ifCond .le 9, 3) := by decide +kernel
theorem dX12_forced_51 : decode cX12_forced 51 = .ok (.iconst 0, 1) := by decide +kernel
theorem dX12_forced_52 : decode cX12_forced 52 = .ok (.ior, 1) := by decide +kernel
theorem dX12_forced_53 : decode cX12_forced 53 = .ok (.istore_n 2, 1) := by decide +kernel
theorem dX12_forced_54 : decode cX12_forced 54 = .ok (.iinc 3 1, 3) := by decide +kernel
theorem dX12_forced_57 : decode cX12_forced 57 = .ok (.goto (-29), 3) := by decide +kernel
theorem dX12_forced_45 : decode cX12_forced 45 = .ok (.iconst 1, 1) := by decide +kernel
theorem dX12_forced_46 : decode cX12_forced 46 = .ok (.iload_n 3, 1) := by decide +kernel
theorem dX12_forced_47 : decode cX12_forced 47 = .ok (.ishl, 1) := by decide +kernel
theorem dX12_forced_48 : decode cX12_forced 48 = .ok (.goto 4, 3) := by decide +kernel
theorem dX12_forced_60 : decode cX12_forced 60 = .ok (.iload_n 2, 1) := by decide +kernel
theorem dX12_forced_61 : decode cX12_forced 61 = .ok (.ireturn, 1) := by decide +kernel
theorem dX12_forced_22 : decode cX12_forced 22 = .ok (.iconst (-1), 1) := by decide +kernel
theorem dX12_forced_23 : decode cX12_forced 23 = .ok (.ireturn, 1) := by decide +kernel
theorem dX12_forcedWay_0 : decode cX12_forcedWay 0 = .ok (.iload_n 1, 1) := by decide +kernel
theorem dX12_forcedWay_1 : decode cX12_forcedWay 1 = .ok (.invokestatic 239, 3) := by decide +kernel
theorem dX12_forcedWay_4 : decode cX12_forcedWay 4 = .ok (.ifCond .eq 11, 3) := by decide +kernel
theorem dX12_forcedWay_15 : decode cX12_forcedWay 15 = .ok (.iconst (-1), 1) := by decide +kernel
theorem dX12_forcedWay_16 : decode cX12_forcedWay 16 = .ok (.ireturn, 1) := by decide +kernel
theorem dX12_forcedWay_7 : decode cX12_forcedWay 7 = .ok (.aload_n 0, 1) := by decide +kernel
theorem dX12_forcedWay_8 : decode cX12_forcedWay 8 = .ok (.iload_n 2, 1) := by decide +kernel
theorem dX12_forcedWay_9 : decode cX12_forcedWay 9 = .ok (.invokevirtual 243, 3) := by decide +kernel
theorem dX12_forcedWay_12 : decode cX12_forcedWay 12 = .ok (.ifCond .ne 5, 3) := by decide +kernel
theorem dX12_forcedWay_17 : decode cX12_forcedWay 17 = .ok (.aload_n 0, 1) := by decide +kernel
theorem dX12_forcedWay_18 : decode cX12_forcedWay 18 = .ok (.iload_n 1, 1) := by decide +kernel
theorem dX12_forcedWay_19 : decode cX12_forcedWay 19 = .ok (.invokevirtual 271, 3) := by decide +kernel
theorem dX12_forcedWay_22 : decode cX12_forcedWay 22 = .ok (.aload_n 0, 1) := by decide +kernel
theorem dX12_forcedWay_23 : decode cX12_forcedWay 23 = .ok (.invokevirtual 283, 3) := by decide +kernel
theorem dX12_forcedWay_26 : decode cX12_forcedWay 26 = .ok (.ifCond .eq 11, 3) := by decide +kernel
theorem dX12_forcedWay_37 : decode cX12_forcedWay 37 = .ok (.iconst 0, 1) := by decide +kernel
theorem dX12_forcedWay_38 : decode cX12_forcedWay 38 = .ok (.ireturn, 1) := by decide +kernel
theorem dX12_forcedWay_29 : decode cX12_forcedWay 29 = .ok (.aload_n 0, 1) := by decide +kernel
theorem dX12_forcedWay_30 : decode cX12_forcedWay 30 = .ok (.iload_n 2, 1) := by decide +kernel
theorem dX12_forcedWay_31 : decode cX12_forcedWay 31 = .ok (.invokevirtual 289, 3) := by decide +kernel
theorem dX12_forcedWay_34 : decode cX12_forcedWay 34 = .ok (.goto 4, 3) := by decide +kernel
theorem dX12_isCorner_0 : decode cX12_isCorner 0 = .ok (.iload_n 1, 1) := by decide +kernel
theorem dX12_isCorner_1 : decode cX12_isCorner 1 = .ok (.i2l, 1) := by decide +kernel
theorem dX12_isCorner_2 : decode cX12_isCorner 2 = .ok (.lconst 0, 1) := by decide +kernel
theorem dX12_isCorner_3 : decode cX12_isCorner 3 = .ok (.aload_n 0, 1) := by decide +kernel
theorem dX12_isCorner_4 : decode cX12_isCorner 4 = .ok (.invokevirtual 106, 3) := by decide +kernel
theorem dX12_isCorner_7 : decode cX12_isCorner 7 = .ok (.iconst 1, 1) := by decide +kernel
theorem dX12_isCorner_8 : decode cX12_isCorner 8 = .ok (.isub, 1) := by decide +kernel
theorem dX12_isCorner_9 : decode cX12_isCorner 9 = .ok (.i2l, 1) := by decide +kernel
theorem dX12_isCorner_10 : decode cX12_isCorner 10 = .ok (.invokestatic 98, 3) := by decide +kernel
theorem dX12_isCorner_13 : decode cX12_isCorner 13 = .ok (.ireturn, 1) := by decide +kernel
theorem dX12_minutes_0 : decode cX12_minutes 0 = .ok (.iload_n 1, 1) := by decide +kernel
theorem dX12_minutes_1 : decode cX12_minutes 1 = .ok (.invokestatic 239, 3) := by decide +kernel
theorem dX12_minutes_4 : decode cX12_minutes 4 = .ok (.ifCond .eq 19, 3) := by decide +kernel
theorem dX12_minutes_23 : decode cX12_minutes 23 = .ok (.bipush (-2), 2) := by decide +kernel
theorem dX12_minutes_25 : decode cX12_minutes 25 = .ok (.ireturn, 1) := by decide +kernel
theorem dX12_minutes_7 : decode cX12_minutes 7 = .ok (.aload_n 0, 1) := by decide +kernel
theorem dX12_minutes_8 : decode cX12_minutes 8 = .ok (.iload_n 2, 1) := by decide +kernel
theorem dX12_minutes_9 : decode cX12_minutes 9 = .ok (.invokevirtual 292, 3) := by decide +kernel
theorem dX12_minutes_12 : decode cX12_minutes 12 = .ok (.ifCond .eq 11, 3) := by decide +kernel
theorem dX12_minutes_15 : decode cX12_minutes 15 = .ok (.aload_n 0, 1) := by decide +kernel
theorem dX12_minutes_16 : decode cX12_minutes 16 = .ok (.iload_n 3, 1) := by decide +kernel
theorem dX12_minutes_17 : decode cX12_minutes 17 = .ok (.invokevirtual 292, 3) := by decide +kernel
theorem dX12_minutes_20 : decode cX12_minutes 20 = .ok (.ifCond .ne 6, 3) := by decide +kernel
theorem dX12_minutes_26 : decode cX12_minutes 26 = .ok (.aload_n 0, 1) := by decide +kernel
theorem dX12_minutes_27 : decode cX12_minutes 27 = .ok (.iload_n 1, 1) := by decide +kernel
theorem dX12_minutes_28 : decode cX12_minutes 28 = .ok (.invokevirtual 271, 3) := by decide +kernel
theorem dX12_minutes_31 : decode cX12_minutes 31 = .ok (.aload_n 0, 1) := by decide +kernel
theorem dX12_minutes_32 : decode cX12_minutes 32 = .ok (.invokevirtual 264, 3) := by decide +kernel
theorem dX12_minutes_35 : decode cX12_minutes 35 = .ok (.aload_n 0, 1) := by decide +kernel
theorem dX12_minutes_36 : decode cX12_minutes 36 = .ok (.getfield 43, 3) := by decide +kernel
theorem dX12_minutes_39 : decode cX12_minutes 39 = .ok (.bipush 16, 2) := by decide +kernel
theorem dX12_minutes_41 : decode cX12_minutes 41 = .ok (.iload_n 2, 1) := by decide +kernel
theorem dX12_minutes_42 : decode cX12_minutes 42 = .ok (.imul, 1) := by decide +kernel
theorem dX12_minutes_43 : decode cX12_minutes 43 = .ok (.iload_n 3, 1) := by decide +kernel
theorem dX12_minutes_44 : decode cX12_minutes 44 = .ok (.iadd, 1) := by decide +kernel
theorem dX12_minutes_45 : decode cX12_minutes 45 = .ok (.iaload, 1) := by decide +kernel
theorem dX12_minutes_46 : decode cX12_minutes 46 = .ok (.istore 4, 2) := by decide +kernel
theorem dX12_minutes_48 : decode cX12_minutes 48 = .ok (.iload 4, 2) := by decide +kernel
theorem dX12_minutes_50 : decode cX12_minutes 50 = .ok (.ldc 255, 2) := by decide +kernel
theorem dX12_minutes_52 : decode cX12_minutes 52 = .ok (.if_icmp .lt 7, 3) := by decide +kernel
theorem dX12_minutes_59 : decode cX12_minutes 59 = .ok (.iload 4, 2) := by decide +kernel
theorem dX12_minutes_61 : decode cX12_minutes 61 = .ok (.ireturn, 1) := by decide +kernel
theorem dX12_minutes_55 : decode cX12_minutes 55 = .ok (.iconst (-1), 1) := by decide +kernel
theorem dX12_minutes_56 : decode cX12_minutes 56 = .ok (.goto 5, 3) := by decide +kernel
theorem dX12_journeys_0 : decode cX12_journeys 0 = .ok (.aload_n 0, 1) := by decide +kernel
theorem dX12_journeys_1 : decode cX12_journeys 1 = .ok (.getfield 13, 3) := by decide +kernel
theorem dX12_journeys_4 : decode cX12_journeys 4 = .ok (.iconst 3, 1) := by decide +kernel
theorem dX12_journeys_5 : decode cX12_journeys 5 = .ok (.iaload, 1) := by decide +kernel
theorem dX12_journeys_6 : decode cX12_journeys 6 = .ok (.ireturn, 1) := by decide +kernel
theorem dX12_isJourney_0 : decode cX12_isJourney 0 = .ok (.iload_n 1, 1) := by decide +kernel
theorem dX12_isJourney_1 : decode cX12_isJourney 1 = .ok (.i2l, 1) := by decide +kernel
theorem dX12_isJourney_2 : decode cX12_isJourney 2 = .ok (.lconst 0, 1) := by decide +kernel
theorem dX12_isJourney_3 : decode cX12_isJourney 3 = .ok (.aload_n 0, 1) := by decide +kernel
theorem dX12_isJourney_4 : decode cX12_isJourney 4 = .ok (.invokevirtual 109, 3) := by decide +kernel
theorem dX12_isJourney_7 : decode cX12_isJourney 7 = .ok (.iconst 1, 1) := by decide +kernel
theorem dX12_isJourney_8 : decode cX12_isJourney 8 = .ok (.isub, 1) := by decide +kernel
theorem dX12_isJourney_9 : decode cX12_isJourney 9 = .ok (.i2l, 1) := by decide +kernel
theorem dX12_isJourney_10 : decode cX12_isJourney 10 = .ok (.invokestatic 98, 3) := by decide +kernel
theorem dX12_isJourney_13 : decode cX12_isJourney 13 = .ok (.ireturn, 1) := by decide +kernel
theorem dX12_ofJourney_0 : decode cX12_ofJourney 0 = .ok (.aload_n 0, 1) := by decide +kernel
theorem dX12_ofJourney_1 : decode cX12_ofJourney 1 = .ok (.getfield 13, 3) := by decide +kernel
theorem dX12_ofJourney_4 : decode cX12_ofJourney 4 = .ok (.sipush 176, 3) := by decide +kernel
theorem dX12_ofJourney_7 : decode cX12_ofJourney 7 = .ok (.iconst 3, 1) := by decide +kernel
theorem dX12_ofJourney_8 : decode cX12_ofJourney 8 = .ok (.iload_n 1, 1) := by decide +kernel
theorem dX12_ofJourney_9 : decode cX12_ofJourney 9 = .ok (.imul, 1) := by decide +kernel
theorem dX12_ofJourney_10 : decode cX12_ofJourney 10 = .ok (.iadd, 1) := by decide +kernel
theorem dX12_ofJourney_11 : decode cX12_ofJourney 11 = .ok (.iload_n 2, 1) := by decide +kernel
theorem dX12_ofJourney_12 : decode cX12_ofJourney 12 = .ok (.iadd, 1) := by decide +kernel
theorem dX12_ofJourney_13 : decode cX12_ofJourney 13 = .ok (.iaload, 1) := by decide +kernel
theorem dX12_ofJourney_14 : decode cX12_ofJourney 14 = .ok (.ireturn, 1) := by decide +kernel
theorem dX12_moreFor_0 : decode cX12_moreFor 0 = .ok (.aload_n 0, 1) := by decide +kernel
theorem dX12_moreFor_1 : decode cX12_moreFor 1 = .ok (.getfield 43, 3) := by decide +kernel
theorem dX12_moreFor_4 : decode cX12_moreFor 4 = .ok (.bipush 16, 2) := by decide +kernel
theorem dX12_moreFor_6 : decode cX12_moreFor 6 = .ok (.iload_n 1, 1) := by decide +kernel
theorem dX12_moreFor_7 : decode cX12_moreFor 7 = .ok (.imul, 1) := by decide +kernel
theorem dX12_moreFor_8 : decode cX12_moreFor 8 = .ok (.iload_n 2, 1) := by decide +kernel
theorem dX12_moreFor_9 : decode cX12_moreFor 9 = .ok (.iadd, 1) := by decide +kernel
theorem dX12_moreFor_10 : decode cX12_moreFor 10 = .ok (.iaload, 1) := by decide +kernel
theorem dX12_moreFor_11 : decode cX12_moreFor 11 = .ok (.istore_n 3, 1) := by decide +kernel
theorem dX12_moreFor_12 : decode cX12_moreFor 12 = .ok (.iload_n 3, 1) := by decide +kernel
theorem dX12_moreFor_13 : decode cX12_moreFor 13 = .ok (.ldc 255, 2) := by decide +kernel
theorem dX12_moreFor_15 : decode cX12_moreFor 15 = .ok (.if_icmp .lt 8, 3) := by decide +kernel
theorem dX12_moreFor_23 : decode cX12_moreFor 23 = .ok (.iload_n 3, 1) := by decide +kernel
theorem dX12_moreFor_24 : decode cX12_moreFor 24 = .ok (.aload_n 0, 1) := by decide +kernel
theorem dX12_moreFor_25 : decode cX12_moreFor 25 = .ok (.getfield 46, 3) := by decide +kernel
theorem dX12_moreFor_28 : decode cX12_moreFor 28 = .ok (.bipush 16, 2) := by decide +kernel
theorem dX12_moreFor_30 : decode cX12_moreFor 30 = .ok (.iload_n 1, 1) := by decide +kernel
theorem dX12_moreFor_31 : decode cX12_moreFor 31 = .ok (.imul, 1) := by decide +kernel
theorem dX12_moreFor_32 : decode cX12_moreFor 32 = .ok (.iload_n 2, 1) := by decide +kernel
theorem dX12_moreFor_33 : decode cX12_moreFor 33 = .ok (.iadd, 1) := by decide +kernel
theorem dX12_moreFor_34 : decode cX12_moreFor 34 = .ok (.iaload, 1) := by decide +kernel
theorem dX12_moreFor_35 : decode cX12_moreFor 35 = .ok (.isub, 1) := by decide +kernel
theorem dX12_moreFor_36 : decode cX12_moreFor 36 = .ok (.ireturn, 1) := by decide +kernel
theorem dX12_moreFor_18 : decode cX12_moreFor 18 = .ok (.ldc 255, 2) := by decide +kernel
theorem dX12_moreFor_20 : decode cX12_moreFor 20 = .ok (.goto 16, 3) := by decide +kernel
theorem dX12_roundOf_0 : decode cX12_roundOf 0 = .ok (.aload_n 0, 1) := by decide +kernel
theorem dX12_roundOf_1 : decode cX12_roundOf 1 = .ok (.aload_n 0, 1) := by decide +kernel
theorem dX12_roundOf_2 : decode cX12_roundOf 2 = .ok (.iload_n 1, 1) := by decide +kernel
theorem dX12_roundOf_3 : decode cX12_roundOf 3 = .ok (.iconst 0, 1) := by decide +kernel
theorem dX12_roundOf_4 : decode cX12_roundOf 4 = .ok (.invokevirtual 295, 3) := by decide +kernel
theorem dX12_roundOf_7 : decode cX12_roundOf 7 = .ok (.aload_n 0, 1) := by decide +kernel
theorem dX12_roundOf_8 : decode cX12_roundOf 8 = .ok (.iload_n 1, 1) := by decide +kernel
theorem dX12_roundOf_9 : decode cX12_roundOf 9 = .ok (.iconst 1, 1) := by decide +kernel
theorem dX12_roundOf_10 : decode cX12_roundOf 10 = .ok (.invokevirtual 295, 3) := by decide +kernel
theorem dX12_roundOf_13 : decode cX12_roundOf 13 = .ok (.invokevirtual 298, 3) := by decide +kernel
theorem dX12_roundOf_16 : decode cX12_roundOf 16 = .ok (.ireturn, 1) := by decide +kernel
theorem dX12_round_0 : decode cX12_round 0 = .ok (.iload_n 1, 1) := by decide +kernel
theorem dX12_round_1 : decode cX12_round 1 = .ok (.invokestatic 239, 3) := by decide +kernel
theorem dX12_round_4 : decode cX12_round 4 = .ok (.ifCond .eq 11, 3) := by decide +kernel
theorem dX12_round_15 : decode cX12_round 15 = .ok (.bipush (-2), 2) := by decide +kernel
theorem dX12_round_17 : decode cX12_round 17 = .ok (.ireturn, 1) := by decide +kernel
theorem dX12_round_7 : decode cX12_round 7 = .ok (.aload_n 0, 1) := by decide +kernel
theorem dX12_round_8 : decode cX12_round 8 = .ok (.iload_n 2, 1) := by decide +kernel
theorem dX12_round_9 : decode cX12_round 9 = .ok (.invokevirtual 301, 3) := by decide +kernel
theorem dX12_round_12 : decode cX12_round 12 = .ok (.ifCond .ne 6, 3) := by decide +kernel
theorem dX12_round_18 : decode cX12_round 18 = .ok (.aload_n 0, 1) := by decide +kernel
theorem dX12_round_19 : decode cX12_round 19 = .ok (.iload_n 1, 1) := by decide +kernel
theorem dX12_round_20 : decode cX12_round 20 = .ok (.invokevirtual 271, 3) := by decide +kernel
theorem dX12_round_23 : decode cX12_round 23 = .ok (.aload_n 0, 1) := by decide +kernel
theorem dX12_round_24 : decode cX12_round 24 = .ok (.aload_n 0, 1) := by decide +kernel
theorem dX12_round_25 : decode cX12_round 25 = .ok (.getfield 46, 3) := by decide +kernel
theorem dX12_round_28 : decode cX12_round 28 = .ok (.iconst 1, 1) := by decide +kernel
theorem dX12_round_29 : decode cX12_round 29 = .ok (.invokevirtual 260, 3) := by decide +kernel
theorem dX12_round_32 : decode cX12_round 32 = .ok (.aload_n 0, 1) := by decide +kernel
theorem dX12_round_33 : decode cX12_round 33 = .ok (.invokevirtual 264, 3) := by decide +kernel
theorem dX12_round_36 : decode cX12_round 36 = .ok (.aload_n 0, 1) := by decide +kernel
theorem dX12_round_37 : decode cX12_round 37 = .ok (.iload_n 2, 1) := by decide +kernel
theorem dX12_round_38 : decode cX12_round 38 = .ok (.invokevirtual 304, 3) := by decide +kernel
theorem dX12_round_41 : decode cX12_round 41 = .ok (.istore_n 3, 1) := by decide +kernel
theorem dX12_round_42 : decode cX12_round 42 = .ok (.iload_n 3, 1) := by decide +kernel
theorem dX12_round_43 : decode cX12_round 43 = .ok (.ldc 255, 2) := by decide +kernel
theorem dX12_round_45 : decode cX12_round 45 = .ok (.if_icmp .ne 7, 3) := by decide +kernel
theorem dX12_round_52 : decode cX12_round 52 = .ok (.iload_n 3, 1) := by decide +kernel
theorem dX12_round_53 : decode cX12_round 53 = .ok (.ireturn, 1) := by decide +kernel
theorem dX12_round_48 : decode cX12_round 48 = .ok (.iconst (-1), 1) := by decide +kernel
theorem dX12_round_49 : decode cX12_round 49 = .ok (.goto 4, 3) := by decide +kernel
theorem dX12_sumNow_0 : decode cX12_sumNow 0 = .ok (.iconst 0, 1) := by decide +kernel
theorem dX12_sumNow_1 : decode cX12_sumNow 1 = .ok (.istore_n 2, 1) := by decide +kernel
theorem dX12_sumNow_2 : decode cX12_sumNow 2 = .ok (.iconst 0, 1) := by decide +kernel
theorem dX12_sumNow_3 : decode cX12_sumNow 3 = .ok (.istore_n 3, 1) := by decide +kernel
theorem dX12_sumNow_4 : decode cX12_sumNow 4 = .ok (.iload_n 3, 1) := by decide +kernel
theorem dX12_sumNow_5 : decode cX12_sumNow 5 = .ok (.aload_n 0, 1) := by decide +kernel
theorem dX12_sumNow_6 : decode cX12_sumNow 6 = .ok (.invokevirtual 109, 3) := by decide +kernel
theorem dX12_sumNow_9 : decode cX12_sumNow 9 = .ok (.if_icmp .ge 60, 3) := by decide +kernel
theorem dX12_sumNow_12 : decode cX12_sumNow 12 = .ok (.iload_n 1, 1) := by decide +kernel
theorem dX12_sumNow_13 : decode cX12_sumNow 13 = .ok (.ifCond .eq 22, 3) := by decide +kernel
theorem dX12_sumNow_35 : decode cX12_sumNow 35 = .ok (.aload_n 0, 1) := by decide +kernel
theorem dX12_sumNow_36 : decode cX12_sumNow 36 = .ok (.iload_n 3, 1) := by decide +kernel
theorem dX12_sumNow_37 : decode cX12_sumNow 37 = .ok (.invokevirtual 304, 3) := by decide +kernel
theorem dX12_sumNow_40 : decode cX12_sumNow 40 = .ok (.istore 4, 2) := by decide +kernel
theorem dX12_sumNow_42 : decode cX12_sumNow 42 = .ok (.iload 4, 2) := by decide +kernel
theorem dX12_sumNow_44 : decode cX12_sumNow 44 = .ok (.ldc 255, 2) := by decide +kernel
theorem dX12_sumNow_46 : decode cX12_sumNow 46 = .ok (.if_icmp .ne 5, 3) := by decide +kernel
theorem dX12_sumNow_51 : decode cX12_sumNow 51 = .ok (.iload_n 2, 1) := by decide +kernel
theorem dX12_sumNow_52 : decode cX12_sumNow 52 = .ok (.aload_n 0, 1) := by decide +kernel
theorem dX12_sumNow_53 : decode cX12_sumNow 53 = .ok (.iload_n 3, 1) := by decide +kernel
theorem dX12_sumNow_54 : decode cX12_sumNow 54 = .ok (.iconst 2, 1) := by decide +kernel
theorem dX12_sumNow_55 : decode cX12_sumNow 55 = .ok (.invokevirtual 295, 3) := by decide +kernel
theorem dX12_sumNow_58 : decode cX12_sumNow 58 = .ok (.iload 4, 2) := by decide +kernel
theorem dX12_sumNow_60 : decode cX12_sumNow 60 = .ok (.imul, 1) := by decide +kernel
theorem dX12_sumNow_61 : decode cX12_sumNow 61 = .ok (.iadd, 1) := by decide +kernel
theorem dX12_sumNow_62 : decode cX12_sumNow 62 = .ok (.istore_n 2, 1) := by decide +kernel
theorem dX12_sumNow_63 : decode cX12_sumNow 63 = .ok (.iinc 3 1, 3) := by decide +kernel
theorem dX12_sumNow_66 : decode cX12_sumNow 66 = .ok (.goto (-62), 3) := by decide +kernel
theorem dX12_sumNow_49 : decode cX12_sumNow 49 = .ok (.iconst (-1), 1) := by decide +kernel
theorem dX12_sumNow_50 : decode cX12_sumNow 50 = .ok (.ireturn, 1) := by decide +kernel
theorem dX12_sumNow_69 : decode cX12_sumNow 69 = .ok (.iload_n 2, 1) := by decide +kernel
theorem dX12_sumNow_70 : decode cX12_sumNow 70 = .ok (.ireturn, 1) := by decide +kernel
theorem dX12_sumTried_0 : decode cX12_sumTried 0 = .ok (.aload_n 0, 1) := by decide +kernel
theorem dX12_sumTried_1 : decode cX12_sumTried 1 = .ok (.invokevirtual 264, 3) := by decide +kernel
theorem dX12_sumTried_4 : decode cX12_sumTried 4 = .ok (.aload_n 0, 1) := by decide +kernel
theorem dX12_sumTried_5 : decode cX12_sumTried 5 = .ok (.iconst 0, 1) := by decide +kernel
theorem dX12_sumTried_6 : decode cX12_sumTried 6 = .ok (.invokevirtual 310, 3) := by decide +kernel
theorem dX12_sumTried_9 : decode cX12_sumTried 9 = .ok (.ireturn, 1) := by decide +kernel
theorem dX12_sum_0 : decode cX12_sum 0 = .ok (.iload_n 1, 1) := by decide +kernel
theorem dX12_sum_1 : decode cX12_sum 1 = .ok (.invokestatic 239, 3) := by decide +kernel
theorem dX12_sum_4 : decode cX12_sum 4 = .ok (.ifCond .ne 6, 3) := by decide +kernel
theorem dX12_sum_7 : decode cX12_sum 7 = .ok (.bipush (-2), 2) := by decide +kernel
theorem dX12_sum_9 : decode cX12_sum 9 = .ok (.ireturn, 1) := by decide +kernel
theorem dX12_sum_10 : decode cX12_sum 10 = .ok (.aload_n 0, 1) := by decide +kernel
theorem dX12_sum_11 : decode cX12_sum 11 = .ok (.iload_n 1, 1) := by decide +kernel
theorem dX12_sum_12 : decode cX12_sum 12 = .ok (.invokevirtual 271, 3) := by decide +kernel
theorem dX12_sum_15 : decode cX12_sum 15 = .ok (.aload_n 0, 1) := by decide +kernel
theorem dX12_sum_16 : decode cX12_sum 16 = .ok (.aload_n 0, 1) := by decide +kernel
theorem dX12_sum_17 : decode cX12_sum 17 = .ok (.getfield 46, 3) := by decide +kernel
theorem dX12_sum_20 : decode cX12_sum 20 = .ok (.iconst 1, 1) := by decide +kernel
theorem dX12_sum_21 : decode cX12_sum 21 = .ok (.invokevirtual 260, 3) := by decide +kernel
theorem dX12_sum_24 : decode cX12_sum 24 = .ok (.aload_n 0, 1) := by decide +kernel
theorem dX12_sum_25 : decode cX12_sum 25 = .ok (.invokevirtual 314, 3) := by decide +kernel
theorem dX12_sum_28 : decode cX12_sum 28 = .ok (.ireturn, 1) := by decide +kernel
theorem dX12_worstNow_0 : decode cX12_worstNow 0 = .ok (.iconst 0, 1) := by decide +kernel
theorem dX12_worstNow_1 : decode cX12_worstNow 1 = .ok (.istore_n 1, 1) := by decide +kernel
theorem dX12_worstNow_2 : decode cX12_worstNow 2 = .ok (.iconst 0, 1) := by decide +kernel
theorem dX12_worstNow_3 : decode cX12_worstNow 3 = .ok (.istore_n 2, 1) := by decide +kernel
theorem dX12_worstNow_4 : decode cX12_worstNow 4 = .ok (.iload_n 2, 1) := by decide +kernel
theorem dX12_worstNow_5 : decode cX12_worstNow 5 = .ok (.aload_n 0, 1) := by decide +kernel
theorem dX12_worstNow_6 : decode cX12_worstNow 6 = .ok (.invokevirtual 109, 3) := by decide +kernel
theorem dX12_worstNow_9 : decode cX12_worstNow 9 = .ok (.if_icmp .ge 29, 3) := by decide +kernel
theorem dX12_worstNow_12 : decode cX12_worstNow 12 = .ok (.aload_n 0, 1) := by decide +kernel
theorem dX12_worstNow_13 : decode cX12_worstNow 13 = .ok (.iload_n 2, 1) := by decide +kernel
theorem dX12_worstNow_14 : decode cX12_worstNow 14 = .ok (.invokevirtual 304, 3) := by decide +kernel
theorem dX12_worstNow_17 : decode cX12_worstNow 17 = .ok (.istore_n 3, 1) := by decide +kernel
theorem dX12_worstNow_18 : decode cX12_worstNow 18 = .ok (.iload_n 3, 1) := by decide +kernel
theorem dX12_worstNow_19 : decode cX12_worstNow 19 = .ok (.ldc 255, 2) := by decide +kernel
theorem dX12_worstNow_21 : decode cX12_worstNow 21 = .ok (.if_icmp .ne 5, 3) := by decide +kernel
theorem dX12_worstNow_26 : decode cX12_worstNow 26 = .ok (.iload_n 1, 1) := by decide +kernel
theorem dX12_worstNow_27 : decode cX12_worstNow 27 = .ok (.iload_n 3, 1) := by decide +kernel
theorem dX12_worstNow_28 : decode cX12_worstNow 28 = .ok (.invokestatic 307, 3) := by decide +kernel
theorem dX12_worstNow_31 : decode cX12_worstNow 31 = .ok (.istore_n 1, 1) := by decide +kernel
theorem dX12_worstNow_32 : decode cX12_worstNow 32 = .ok (.iinc 2 1, 3) := by decide +kernel
theorem dX12_worstNow_35 : decode cX12_worstNow 35 = .ok (.goto (-31), 3) := by decide +kernel
theorem dX12_worstNow_24 : decode cX12_worstNow 24 = .ok (.iconst (-1), 1) := by decide +kernel
theorem dX12_worstNow_25 : decode cX12_worstNow 25 = .ok (.ireturn, 1) := by decide +kernel
theorem dX12_worstNow_38 : decode cX12_worstNow 38 = .ok (.iload_n 1, 1) := by decide +kernel
theorem dX12_worstNow_39 : decode cX12_worstNow 39 = .ok (.ireturn, 1) := by decide +kernel
theorem dX12_worst_0 : decode cX12_worst 0 = .ok (.iload_n 1, 1) := by decide +kernel
theorem dX12_worst_1 : decode cX12_worst 1 = .ok (.invokestatic 239, 3) := by decide +kernel
theorem dX12_worst_4 : decode cX12_worst 4 = .ok (.ifCond .ne 6, 3) := by decide +kernel
theorem dX12_worst_7 : decode cX12_worst 7 = .ok (.bipush (-2), 2) := by decide +kernel
theorem dX12_worst_9 : decode cX12_worst 9 = .ok (.ireturn, 1) := by decide +kernel
theorem dX12_worst_10 : decode cX12_worst 10 = .ok (.aload_n 0, 1) := by decide +kernel
theorem dX12_worst_11 : decode cX12_worst 11 = .ok (.iload_n 1, 1) := by decide +kernel
theorem dX12_worst_12 : decode cX12_worst 12 = .ok (.invokevirtual 271, 3) := by decide +kernel
theorem dX12_worst_15 : decode cX12_worst 15 = .ok (.aload_n 0, 1) := by decide +kernel
theorem dX12_worst_16 : decode cX12_worst 16 = .ok (.aload_n 0, 1) := by decide +kernel
theorem dX12_worst_17 : decode cX12_worst 17 = .ok (.getfield 46, 3) := by decide +kernel
theorem dX12_worst_20 : decode cX12_worst 20 = .ok (.iconst 1, 1) := by decide +kernel
theorem dX12_worst_21 : decode cX12_worst 21 = .ok (.invokevirtual 260, 3) := by decide +kernel
theorem dX12_worst_24 : decode cX12_worst 24 = .ok (.aload_n 0, 1) := by decide +kernel
theorem dX12_worst_25 : decode cX12_worst 25 = .ok (.invokevirtual 264, 3) := by decide +kernel
theorem dX12_worst_28 : decode cX12_worst 28 = .ok (.aload_n 0, 1) := by decide +kernel
theorem dX12_worst_29 : decode cX12_worst 29 = .ok (.invokevirtual 317, 3) := by decide +kernel
theorem dX12_worst_32 : decode cX12_worst 32 = .ok (.ireturn, 1) := by decide +kernel
theorem dX12_best_0 : decode cX12_best 0 = .ok (.iload_n 1, 1) := by decide +kernel
theorem dX12_best_1 : decode cX12_best 1 = .ok (.invokestatic 239, 3) := by decide +kernel
theorem dX12_best_4 : decode cX12_best 4 = .ok (.ifCond .eq 13, 3) := by decide +kernel
theorem dX12_best_17 : decode cX12_best 17 = .ok (.bipush (-2), 2) := by decide +kernel
theorem dX12_best_19 : decode cX12_best 19 = .ok (.ireturn, 1) := by decide +kernel
theorem dX12_best_7 : decode cX12_best 7 = .ok (.iload_n 2, 1) := by decide +kernel
theorem dX12_best_8 : decode cX12_best 8 = .ok (.i2l, 1) := by decide +kernel
theorem dX12_best_9 : decode cX12_best 9 = .ok (.lconst 0, 1) := by decide +kernel
theorem dX12_best_10 : decode cX12_best 10 = .ok (.lconst 1, 1) := by decide +kernel
theorem dX12_best_11 : decode cX12_best 11 = .ok (.invokestatic 98, 3) := by decide +kernel
theorem dX12_best_14 : decode cX12_best 14 = .ok (.ifCond .ne 6, 3) := by decide +kernel
theorem dX12_best_20 : decode cX12_best 20 = .ok (.aload_n 0, 1) := by decide +kernel
theorem dX12_best_21 : decode cX12_best 21 = .ok (.iload_n 1, 1) := by decide +kernel
theorem dX12_best_22 : decode cX12_best 22 = .ok (.invokevirtual 271, 3) := by decide +kernel
theorem dX12_best_25 : decode cX12_best 25 = .ok (.iconst 0, 1) := by decide +kernel
theorem dX12_best_26 : decode cX12_best 26 = .ok (.istore_n 3, 1) := by decide +kernel
theorem dX12_best_27 : decode cX12_best 27 = .ok (.iconst 0, 1) := by decide +kernel
theorem dX12_best_28 : decode cX12_best 28 = .ok (.istore 4, 2) := by decide +kernel
theorem dX12_best_30 : decode cX12_best 30 = .ok (.iload 4, 2) := by decide +kernel
theorem dX12_best_32 : decode cX12_best 32 = .ok (.aload_n 0, 1) := by decide +kernel
theorem dX12_best_33 : decode cX12_best 33 = .ok (.invokevirtual 102, 3) := by decide +kernel
theorem dX12_best_36 : decode cX12_best 36 = .ok (.if_icmp .ge 33, 3) := by decide +kernel
theorem dX12_best_39 : decode cX12_best 39 = .ok (.aload_n 0, 1) := by decide +kernel
theorem dX12_best_40 : decode cX12_best 40 = .ok (.getfield 40, 3) := by decide +kernel
theorem dX12_best_43 : decode cX12_best 43 = .ok (.iload 4, 2) := by decide +kernel
theorem dX12_best_45 : decode cX12_best 45 = .ok (.iaload, 1) := by decide +kernel
theorem dX12_best_46 : decode cX12_best 46 = .ok (.ifCond .eq 6, 3) := by decide +kernel
theorem dX12_best_52 : decode cX12_best 52 = .ok (.aload_n 0, 1) := by decide +kernel
theorem dX12_best_53 : decode cX12_best 53 = .ok (.getfield 52, 3) := by decide +kernel
theorem dX12_best_56 : decode cX12_best 56 = .ok (.iload_n 3, 1) := by decide +kernel
theorem dX12_best_57 : decode cX12_best 57 = .ok (.iload 4, 2) := by decide +kernel
theorem dX12_best_59 : decode cX12_best 59 = .ok (.iastore, 1) := by decide +kernel
theorem dX12_best_60 : decode cX12_best 60 = .ok (.iinc 3 1, 3) := by decide +kernel
theorem dX12_best_63 : decode cX12_best 63 = .ok (.iinc 4 1, 3) := by decide +kernel
theorem dX12_best_66 : decode cX12_best 66 = .ok (.goto (-36), 3) := by decide +kernel
theorem dX12_best_49 : decode cX12_best 49 = .ok (.goto 14, 3) := by decide +kernel
theorem dX12_best_69 : decode cX12_best 69 = .ok (.iload_n 3, 1) := by decide +kernel
theorem dX12_best_70 : decode cX12_best 70 = .ok (.bipush 10, 2) := by decide +kernel
theorem dX12_best_72 : decode cX12_best 72 = .ok (.if_icmp .le 6, 3) := by decide +kernel
theorem dX12_best_78 : decode cX12_best 78 = .ok (.aload_n 0, 1) := by decide +kernel
theorem dX12_best_79 : decode cX12_best 79 = .ok (.invokevirtual 283, 3) := by decide +kernel
theorem dX12_best_82 : decode cX12_best 82 = .ok (.ifCond .ne 5, 3) := by decide +kernel
theorem dX12_best_87 : decode cX12_best 87 = .ok (.aload_n 0, 1) := by decide +kernel
theorem dX12_best_88 : decode cX12_best 88 = .ok (.aload_n 0, 1) := by decide +kernel
theorem dX12_best_89 : decode cX12_best 89 = .ok (.getfield 46, 3) := by decide +kernel
theorem dX12_best_92 : decode cX12_best 92 = .ok (.iconst 1, 1) := by decide +kernel
theorem dX12_best_93 : decode cX12_best 93 = .ok (.invokevirtual 260, 3) := by decide +kernel
theorem dX12_best_96 : decode cX12_best 96 = .ok (.iconst (-1), 1) := by decide +kernel
theorem dX12_best_97 : decode cX12_best 97 = .ok (.istore 4, 2) := by decide +kernel
theorem dX12_best_99 : decode cX12_best 99 = .ok (.iconst 0, 1) := by decide +kernel
theorem dX12_best_100 : decode cX12_best 100 = .ok (.istore 5, 2) := by decide +kernel
theorem dX12_best_102 : decode cX12_best 102 = .ok (.iload 5, 2) := by decide +kernel
theorem dX12_best_104 : decode cX12_best 104 = .ok (.iconst 1, 1) := by decide +kernel
theorem dX12_best_105 : decode cX12_best 105 = .ok (.iload_n 3, 1) := by decide +kernel
theorem dX12_best_106 : decode cX12_best 106 = .ok (.ishl, 1) := by decide +kernel
theorem dX12_best_107 : decode cX12_best 107 = .ok (.if_icmp .ge 135, 3) := by decide +kernel
theorem dX12_best_110 : decode cX12_best 110 = .ok (.iconst 0, 1) := by decide +kernel
theorem dX12_best_111 : decode cX12_best 111 = .ok (.istore 6, 2) := by decide +kernel
theorem dX12_best_113 : decode cX12_best 113 = .ok (.iload 6, 2) := by decide +kernel
theorem dX12_best_115 : decode cX12_best 115 = .ok (.iload_n 3, 1) := by decide +kernel
theorem dX12_best_116 : decode cX12_best 116 = .ok (.if_icmp .ge 40, 3) := by decide +kernel
theorem dX12_best_119 : decode cX12_best 119 = .ok (.aload_n 0, 1) := by decide +kernel
theorem dX12_best_120 : decode cX12_best 120 = .ok (.getfield 40, 3) := by decide +kernel
theorem dX12_best_123 : decode cX12_best 123 = .ok (.aload_n 0, 1) := by decide +kernel
theorem dX12_best_124 : decode cX12_best 124 = .ok (.getfield 52, 3) := by decide +kernel
theorem dX12_best_127 : decode cX12_best 127 = .ok (.iload 6, 2) := by decide +kernel
theorem dX12_best_129 : decode cX12_best 129 = .ok (.iaload, 1) := by decide +kernel
theorem dX12_best_130 : decode cX12_best 130 = .ok (.iload 5, 2) := by decide +kernel
theorem dX12_best_132 : decode cX12_best 132 = .ok (.iload_n 3, 1) := by decide +kernel
theorem dX12_best_133 : decode cX12_best 133 = .ok (.iconst 1, 1) := by decide +kernel
theorem dX12_best_134 : decode cX12_best 134 = .ok (.isub, 1) := by decide +kernel
theorem dX12_best_135 : decode cX12_best 135 = .ok (.iload 6, 2) := by decide +kernel
theorem dX12_best_137 : decode cX12_best 137 = .ok (.isub, 1) := by decide +kernel
theorem dX12_best_138 : decode cX12_best 138 = .ok (.ishr, 1) := by decide +kernel
theorem dX12_best_139 : decode cX12_best 139 = .ok (.iconst 1, 1) := by decide +kernel
theorem dX12_best_140 : decode cX12_best 140 = .ok (.iand, 1) := by decide +kernel
theorem dX12_best_141 : decode cX12_best 141 = .ok (.ifCond .ne 7, 3) := by decide +kernel
theorem dX12_best_148 : decode cX12_best 148 = .ok (.iconst 2, 1) := by decide +kernel
theorem dX12_best_149 : decode cX12_best 149 = .ok (.iastore, 1) := by decide +kernel
theorem dX12_best_150 : decode cX12_best 150 = .ok (.iinc 6 1, 3) := by decide +kernel
theorem dX12_best_153 : decode cX12_best 153 = .ok (.goto (-40), 3) := by decide +kernel
theorem dX12_best_144 : decode cX12_best 144 = .ok (.iconst 1, 1) := by decide +kernel
theorem dX12_best_145 : decode cX12_best 145 = .ok (.goto 4, 3) := by decide +kernel
theorem dX12_best_156 : decode cX12_best 156 = .ok (.aload_n 0, 1) := by decide +kernel
theorem dX12_best_157 : decode cX12_best 157 = .ok (.invokevirtual 274, 3) := by decide +kernel
theorem dX12_best_160 : decode cX12_best 160 = .ok (.ifCond .ne 6, 3) := by decide +kernel
theorem dX12_best_166 : decode cX12_best 166 = .ok (.iload_n 2, 1) := by decide +kernel
theorem dX12_best_167 : decode cX12_best 167 = .ok (.ifCond .ne 11, 3) := by decide +kernel
theorem dX12_best_178 : decode cX12_best 178 = .ok (.aload_n 0, 1) := by decide +kernel
theorem dX12_best_179 : decode cX12_best 179 = .ok (.invokevirtual 317, 3) := by decide +kernel
theorem dX12_best_182 : decode cX12_best 182 = .ok (.istore 6, 2) := by decide +kernel
theorem dX12_best_184 : decode cX12_best 184 = .ok (.iload 4, 2) := by decide +kernel
theorem dX12_best_186 : decode cX12_best 186 = .ok (.iconst (-1), 1) := by decide +kernel
theorem dX12_best_187 : decode cX12_best 187 = .ok (.if_icmp .eq 13, 3) := by decide +kernel
theorem dX12_best_200 : decode cX12_best 200 = .ok (.iload 6, 2) := by decide +kernel
theorem dX12_best_202 : decode cX12_best 202 = .ok (.istore 4, 2) := by decide +kernel
theorem dX12_best_204 : decode cX12_best 204 = .ok (.iconst 0, 1) := by decide +kernel
theorem dX12_best_205 : decode cX12_best 205 = .ok (.istore 7, 2) := by decide +kernel
theorem dX12_best_207 : decode cX12_best 207 = .ok (.iload 7, 2) := by decide +kernel
theorem dX12_best_209 : decode cX12_best 209 = .ok (.aload_n 0, 1) := by decide +kernel
theorem dX12_best_210 : decode cX12_best 210 = .ok (.invokevirtual 102, 3) := by decide +kernel
theorem dX12_best_213 : decode cX12_best 213 = .ok (.if_icmp .ge 23, 3) := by decide +kernel
theorem dX12_best_216 : decode cX12_best 216 = .ok (.aload_n 0, 1) := by decide +kernel
theorem dX12_best_217 : decode cX12_best 217 = .ok (.getfield 55, 3) := by decide +kernel
theorem dX12_best_220 : decode cX12_best 220 = .ok (.iload 7, 2) := by decide +kernel
theorem dX12_best_222 : decode cX12_best 222 = .ok (.aload_n 0, 1) := by decide +kernel
theorem dX12_best_223 : decode cX12_best 223 = .ok (.getfield 40, 3) := by decide +kernel
theorem dX12_best_226 : decode cX12_best 226 = .ok (.iload 7, 2) := by decide +kernel
theorem dX12_best_228 : decode cX12_best 228 = .ok (.iaload, 1) := by decide +kernel
theorem dX12_best_229 : decode cX12_best 229 = .ok (.iastore, 1) := by decide +kernel
theorem dX12_best_230 : decode cX12_best 230 = .ok (.iinc 7 1, 3) := by decide +kernel
theorem dX12_best_233 : decode cX12_best 233 = .ok (.goto (-26), 3) := by decide +kernel
theorem dX12_best_236 : decode cX12_best 236 = .ok (.iinc 5 1, 3) := by decide +kernel
theorem dX12_best_239 : decode cX12_best 239 = .ok (.goto (-137), 3) := by decide +kernel
theorem dX12_best_190 : decode cX12_best 190 = .ok (.iload 6, 2) := by decide +kernel
theorem dX12_best_192 : decode cX12_best 192 = .ok (.iload 4, 2) := by decide +kernel
theorem dX12_best_194 : decode cX12_best 194 = .ok (.if_icmp .lt 6, 3) := by decide +kernel
theorem dX12_best_197 : decode cX12_best 197 = .ok (.goto 39, 3) := by decide +kernel
theorem dX12_best_170 : decode cX12_best 170 = .ok (.aload_n 0, 1) := by decide +kernel
theorem dX12_best_171 : decode cX12_best 171 = .ok (.iconst 0, 1) := by decide +kernel
theorem dX12_best_172 : decode cX12_best 172 = .ok (.invokevirtual 310, 3) := by decide +kernel
theorem dX12_best_175 : decode cX12_best 175 = .ok (.goto 7, 3) := by decide +kernel
theorem dX12_best_163 : decode cX12_best 163 = .ok (.goto 73, 3) := by decide +kernel
theorem dX12_best_242 : decode cX12_best 242 = .ok (.iconst 0, 1) := by decide +kernel
theorem dX12_best_243 : decode cX12_best 243 = .ok (.istore 5, 2) := by decide +kernel
theorem dX12_best_245 : decode cX12_best 245 = .ok (.iload 5, 2) := by decide +kernel
theorem dX12_best_247 : decode cX12_best 247 = .ok (.aload_n 0, 1) := by decide +kernel
theorem dX12_best_248 : decode cX12_best 248 = .ok (.invokevirtual 102, 3) := by decide +kernel
theorem dX12_best_251 : decode cX12_best 251 = .ok (.if_icmp .ge 23, 3) := by decide +kernel
theorem dX12_best_254 : decode cX12_best 254 = .ok (.aload_n 0, 1) := by decide +kernel
theorem dX12_best_255 : decode cX12_best 255 = .ok (.getfield 40, 3) := by decide +kernel
theorem dX12_best_258 : decode cX12_best 258 = .ok (.iload 5, 2) := by decide +kernel
theorem dX12_best_260 : decode cX12_best 260 = .ok (.aload_n 0, 1) := by decide +kernel
theorem dX12_best_261 : decode cX12_best 261 = .ok (.getfield 55, 3) := by decide +kernel
theorem dX12_best_264 : decode cX12_best 264 = .ok (.iload 5, 2) := by decide +kernel
theorem dX12_best_266 : decode cX12_best 266 = .ok (.iaload, 1) := by decide +kernel
theorem dX12_best_267 : decode cX12_best 267 = .ok (.iastore, 1) := by decide +kernel
theorem dX12_best_268 : decode cX12_best 268 = .ok (.iinc 5 1, 3) := by decide +kernel
theorem dX12_best_271 : decode cX12_best 271 = .ok (.goto (-26), 3) := by decide +kernel
theorem dX12_best_274 : decode cX12_best 274 = .ok (.aload_n 0, 1) := by decide +kernel
theorem dX12_best_275 : decode cX12_best 275 = .ok (.iload_n 1, 1) := by decide +kernel
theorem dX12_best_276 : decode cX12_best 276 = .ok (.invokevirtual 286, 3) := by decide +kernel
theorem dX12_best_279 : decode cX12_best 279 = .ok (.iload 4, 2) := by decide +kernel
theorem dX12_best_281 : decode cX12_best 281 = .ok (.ireturn, 1) := by decide +kernel
theorem dX12_best_85 : decode cX12_best 85 = .ok (.iconst (-1), 1) := by decide +kernel
theorem dX12_best_86 : decode cX12_best 86 = .ok (.ireturn, 1) := by decide +kernel
theorem dX12_best_75 : decode cX12_best 75 = .ok (.bipush (-3), 2) := by decide +kernel
theorem dX12_best_77 : decode cX12_best 77 = .ok (.ireturn, 1) := by decide +kernel
theorem dX12_isEnded_0 : decode cX12_isEnded 0 = .ok (.iconst 0, 1) := by decide +kernel
theorem dX12_isEnded_1 : decode cX12_isEnded 1 = .ok (.istore_n 1, 1) := by decide +kernel
theorem dX12_isEnded_2 : decode cX12_isEnded 2 = .ok (.iload_n 1, 1) := by decide +kernel
theorem dX12_isEnded_3 : decode cX12_isEnded 3 = .ok (.aload_n 0, 1) := by decide +kernel
theorem dX12_isEnded_4 : decode cX12_isEnded 4 = .ok (.invokevirtual 102, 3) := by decide +kernel
theorem dX12_isEnded_7 : decode cX12_isEnded 7 = .ok (.if_icmp .ge 20, 3) := by decide +kernel
theorem dX12_isEnded_10 : decode cX12_isEnded 10 = .ok (.aload_n 0, 1) := by decide +kernel
theorem dX12_isEnded_11 : decode cX12_isEnded 11 = .ok (.getfield 40, 3) := by decide +kernel
theorem dX12_isEnded_14 : decode cX12_isEnded 14 = .ok (.iload_n 1, 1) := by decide +kernel
theorem dX12_isEnded_15 : decode cX12_isEnded 15 = .ok (.iaload, 1) := by decide +kernel
theorem dX12_isEnded_16 : decode cX12_isEnded 16 = .ok (.ifCond .ne 5, 3) := by decide +kernel
theorem dX12_isEnded_21 : decode cX12_isEnded 21 = .ok (.iinc 1 1, 3) := by decide +kernel
theorem dX12_isEnded_24 : decode cX12_isEnded 24 = .ok (.goto (-22), 3) := by decide +kernel
theorem dX12_isEnded_19 : decode cX12_isEnded 19 = .ok (.iconst 0, 1) := by decide +kernel
theorem dX12_isEnded_20 : decode cX12_isEnded 20 = .ok (.ireturn, 1) := by decide +kernel
theorem dX12_isEnded_27 : decode cX12_isEnded 27 = .ok (.aload_n 0, 1) := by decide +kernel
theorem dX12_isEnded_28 : decode cX12_isEnded 28 = .ok (.invokevirtual 274, 3) := by decide +kernel
theorem dX12_isEnded_31 : decode cX12_isEnded 31 = .ok (.ireturn, 1) := by decide +kernel
theorem dX12_mayTurn_0 : decode cX12_mayTurn 0 = .ok (.aload_n 0, 1) := by decide +kernel
theorem dX12_mayTurn_1 : decode cX12_mayTurn 1 = .ok (.iload_n 1, 1) := by decide +kernel
theorem dX12_mayTurn_2 : decode cX12_mayTurn 2 = .ok (.iconst 4, 1) := by decide +kernel
theorem dX12_mayTurn_3 : decode cX12_mayTurn 3 = .ok (.invokevirtual 230, 3) := by decide +kernel
theorem dX12_mayTurn_6 : decode cX12_mayTurn 6 = .ok (.ifCond .ne 27, 3) := by decide +kernel
theorem dX12_mayTurn_33 : decode cX12_mayTurn 33 = .ok (.iconst 0, 1) := by decide +kernel
theorem dX12_mayTurn_34 : decode cX12_mayTurn 34 = .ok (.ireturn, 1) := by decide +kernel
theorem dX12_mayTurn_9 : decode cX12_mayTurn 9 = .ok (.aload_n 0, 1) := by decide +kernel
theorem dX12_mayTurn_10 : decode cX12_mayTurn 10 = .ok (.getfield 40, 3) := by decide +kernel
theorem dX12_mayTurn_13 : decode cX12_mayTurn 13 = .ok (.iload_n 1, 1) := by decide +kernel
theorem dX12_mayTurn_14 : decode cX12_mayTurn 14 = .ok (.iaload, 1) := by decide +kernel
theorem dX12_mayTurn_15 : decode cX12_mayTurn 15 = .ok (.iconst 1, 1) := by decide +kernel
theorem dX12_mayTurn_16 : decode cX12_mayTurn 16 = .ok (.if_icmp .eq 13, 3) := by decide +kernel
theorem dX12_mayTurn_29 : decode cX12_mayTurn 29 = .ok (.iconst 1, 1) := by decide +kernel
theorem dX12_mayTurn_30 : decode cX12_mayTurn 30 = .ok (.goto 4, 3) := by decide +kernel
theorem dX12_mayTurn_19 : decode cX12_mayTurn 19 = .ok (.aload_n 0, 1) := by decide +kernel
theorem dX12_mayTurn_20 : decode cX12_mayTurn 20 = .ok (.getfield 40, 3) := by decide +kernel
theorem dX12_mayTurn_23 : decode cX12_mayTurn 23 = .ok (.iload_n 1, 1) := by decide +kernel
theorem dX12_mayTurn_24 : decode cX12_mayTurn 24 = .ok (.iaload, 1) := by decide +kernel
theorem dX12_mayTurn_25 : decode cX12_mayTurn 25 = .ok (.iconst 2, 1) := by decide +kernel
theorem dX12_mayTurn_26 : decode cX12_mayTurn 26 = .ok (.if_icmp .ne 7, 3) := by decide +kernel
theorem dX12_turns_0 : decode cX12_turns 0 = .ok (.aload_n 0, 1) := by decide +kernel
theorem dX12_turns_1 : decode cX12_turns 1 = .ok (.getfield 40, 3) := by decide +kernel
theorem dX12_turns_4 : decode cX12_turns 4 = .ok (.iload_n 1, 1) := by decide +kernel
theorem dX12_turns_5 : decode cX12_turns 5 = .ok (.iconst 3, 1) := by decide +kernel
theorem dX12_turns_6 : decode cX12_turns 6 = .ok (.aload_n 0, 1) := by decide +kernel
theorem dX12_turns_7 : decode cX12_turns 7 = .ok (.getfield 40, 3) := by decide +kernel
theorem dX12_turns_10 : decode cX12_turns 10 = .ok (.iload_n 1, 1) := by decide +kernel
theorem dX12_turns_11 : decode cX12_turns 11 = .ok (.iaload, 1) := by decide +kernel
theorem dX12_turns_12 : decode cX12_turns 12 = .ok (.isub, 1) := by decide +kernel
theorem dX12_turns_13 : decode cX12_turns 13 = .ok (.iastore, 1) := by decide +kernel
theorem dX12_turns_14 : decode cX12_turns 14 = .ok (.return_, 1) := by decide +kernel
theorem dX12_isBetter_0 : decode cX12_isBetter 0 = .ok (.aload_n 0, 1) := by decide +kernel
theorem dX12_isBetter_1 : decode cX12_isBetter 1 = .ok (.invokevirtual 274, 3) := by decide +kernel
theorem dX12_isBetter_4 : decode cX12_isBetter 4 = .ok (.ifCond .eq 16, 3) := by decide +kernel
theorem dX12_isBetter_20 : decode cX12_isBetter 20 = .ok (.iconst 0, 1) := by decide +kernel
theorem dX12_isBetter_21 : decode cX12_isBetter 21 = .ok (.ireturn, 1) := by decide +kernel
theorem dX12_isBetter_7 : decode cX12_isBetter 7 = .ok (.aload_n 0, 1) := by decide +kernel
theorem dX12_isBetter_8 : decode cX12_isBetter 8 = .ok (.iconst 0, 1) := by decide +kernel
theorem dX12_isBetter_9 : decode cX12_isBetter 9 = .ok (.invokevirtual 310, 3) := by decide +kernel
theorem dX12_isBetter_12 : decode cX12_isBetter 12 = .ok (.iload_n 1, 1) := by decide +kernel
theorem dX12_isBetter_13 : decode cX12_isBetter 13 = .ok (.if_icmp .ge 7, 3) := by decide +kernel
theorem dX12_isBetter_16 : decode cX12_isBetter 16 = .ok (.iconst 1, 1) := by decide +kernel
theorem dX12_isBetter_17 : decode cX12_isBetter 17 = .ok (.goto 4, 3) := by decide +kernel
theorem dX12_ends_0 : decode cX12_ends 0 = .ok (.aload_n 0, 1) := by decide +kernel
theorem dX12_ends_1 : decode cX12_ends 1 = .ok (.iload_n 1, 1) := by decide +kernel
theorem dX12_ends_2 : decode cX12_ends 2 = .ok (.iconst 0, 1) := by decide +kernel
theorem dX12_ends_3 : decode cX12_ends 3 = .ok (.invokevirtual 230, 3) := by decide +kernel
theorem dX12_ends_6 : decode cX12_ends 6 = .ok (.iload_n 2, 1) := by decide +kernel
theorem dX12_ends_7 : decode cX12_ends 7 = .ok (.if_icmp .ne 20, 3) := by decide +kernel
theorem dX12_ends_27 : decode cX12_ends 27 = .ok (.aload_n 0, 1) := by decide +kernel
theorem dX12_ends_28 : decode cX12_ends 28 = .ok (.iload_n 1, 1) := by decide +kernel
theorem dX12_ends_29 : decode cX12_ends 29 = .ok (.iconst 1, 1) := by decide +kernel
theorem dX12_ends_30 : decode cX12_ends 30 = .ok (.invokevirtual 230, 3) := by decide +kernel
theorem dX12_ends_33 : decode cX12_ends 33 = .ok (.iload_n 2, 1) := by decide +kernel
theorem dX12_ends_34 : decode cX12_ends 34 = .ok (.if_icmp .ne 22, 3) := by decide +kernel
theorem dX12_ends_56 : decode cX12_ends 56 = .ok (.iconst (-1), 1) := by decide +kernel
theorem dX12_ends_57 : decode cX12_ends 57 = .ok (.ireturn, 1) := by decide +kernel
theorem dX12_ends_37 : decode cX12_ends 37 = .ok (.aload_n 0, 1) := by decide +kernel
theorem dX12_ends_38 : decode cX12_ends 38 = .ok (.getfield 40, 3) := by decide +kernel
theorem dX12_ends_41 : decode cX12_ends 41 = .ok (.iload_n 1, 1) := by decide +kernel
theorem dX12_ends_42 : decode cX12_ends 42 = .ok (.iaload, 1) := by decide +kernel
theorem dX12_ends_43 : decode cX12_ends 43 = .ok (.iconst 1, 1) := by decide +kernel
theorem dX12_ends_44 : decode cX12_ends 44 = .ok (.if_icmp .eq 12, 3) := by decide +kernel
theorem dX12_ends_47 : decode cX12_ends 47 = .ok (.aload_n 0, 1) := by decide +kernel
theorem dX12_ends_48 : decode cX12_ends 48 = .ok (.iload_n 1, 1) := by decide +kernel
theorem dX12_ends_49 : decode cX12_ends 49 = .ok (.iconst 0, 1) := by decide +kernel
theorem dX12_ends_50 : decode cX12_ends 50 = .ok (.invokevirtual 230, 3) := by decide +kernel
theorem dX12_ends_53 : decode cX12_ends 53 = .ok (.goto 4, 3) := by decide +kernel
theorem dX12_ends_10 : decode cX12_ends 10 = .ok (.aload_n 0, 1) := by decide +kernel
theorem dX12_ends_11 : decode cX12_ends 11 = .ok (.getfield 40, 3) := by decide +kernel
theorem dX12_ends_14 : decode cX12_ends 14 = .ok (.iload_n 1, 1) := by decide +kernel
theorem dX12_ends_15 : decode cX12_ends 15 = .ok (.iaload, 1) := by decide +kernel
theorem dX12_ends_16 : decode cX12_ends 16 = .ok (.iconst 2, 1) := by decide +kernel
theorem dX12_ends_17 : decode cX12_ends 17 = .ok (.if_icmp .eq 10, 3) := by decide +kernel
theorem dX12_ends_20 : decode cX12_ends 20 = .ok (.aload_n 0, 1) := by decide +kernel
theorem dX12_ends_21 : decode cX12_ends 21 = .ok (.iload_n 1, 1) := by decide +kernel
theorem dX12_ends_22 : decode cX12_ends 22 = .ok (.iconst 1, 1) := by decide +kernel
theorem dX12_ends_23 : decode cX12_ends 23 = .ok (.invokevirtual 230, 3) := by decide +kernel
theorem dX12_ends_26 : decode cX12_ends 26 = .ok (.ireturn, 1) := by decide +kernel
theorem dX12_firstTo_0 : decode cX12_firstTo 0 = .ok (.iload_n 1, 1) := by decide +kernel
theorem dX12_firstTo_1 : decode cX12_firstTo 1 = .ok (.iload_n 2, 1) := by decide +kernel
theorem dX12_firstTo_2 : decode cX12_firstTo 2 = .ok (.if_icmp .eq 19, 3) := by decide +kernel
theorem dX12_firstTo_21 : decode cX12_firstTo 21 = .ok (.iconst (-1), 1) := by decide +kernel
theorem dX12_firstTo_22 : decode cX12_firstTo 22 = .ok (.ireturn, 1) := by decide +kernel
theorem dX12_firstTo_5 : decode cX12_firstTo 5 = .ok (.aload_n 0, 1) := by decide +kernel
theorem dX12_firstTo_6 : decode cX12_firstTo 6 = .ok (.getfield 43, 3) := by decide +kernel
theorem dX12_firstTo_9 : decode cX12_firstTo 9 = .ok (.bipush 16, 2) := by decide +kernel
theorem dX12_firstTo_11 : decode cX12_firstTo 11 = .ok (.iload_n 1, 1) := by decide +kernel
theorem dX12_firstTo_12 : decode cX12_firstTo 12 = .ok (.imul, 1) := by decide +kernel
theorem dX12_firstTo_13 : decode cX12_firstTo 13 = .ok (.iload_n 2, 1) := by decide +kernel
theorem dX12_firstTo_14 : decode cX12_firstTo 14 = .ok (.iadd, 1) := by decide +kernel
theorem dX12_firstTo_15 : decode cX12_firstTo 15 = .ok (.iaload, 1) := by decide +kernel
theorem dX12_firstTo_16 : decode cX12_firstTo 16 = .ok (.ldc 255, 2) := by decide +kernel
theorem dX12_firstTo_18 : decode cX12_firstTo 18 = .ok (.if_icmp .lt 5, 3) := by decide +kernel
theorem dX12_firstTo_23 : decode cX12_firstTo 23 = .ok (.iconst 0, 1) := by decide +kernel
theorem dX12_firstTo_24 : decode cX12_firstTo 24 = .ok (.istore_n 3, 1) := by decide +kernel
theorem dX12_firstTo_25 : decode cX12_firstTo 25 = .ok (.iload_n 3, 1) := by decide +kernel
theorem dX12_firstTo_26 : decode cX12_firstTo 26 = .ok (.aload_n 0, 1) := by decide +kernel
theorem dX12_firstTo_27 : decode cX12_firstTo 27 = .ok (.invokevirtual 102, 3) := by decide +kernel
theorem dX12_firstTo_30 : decode cX12_firstTo 30 = .ok (.if_icmp .ge 58, 3) := by decide +kernel
theorem dX12_firstTo_33 : decode cX12_firstTo 33 = .ok (.aload_n 0, 1) := by decide +kernel
theorem dX12_firstTo_34 : decode cX12_firstTo 34 = .ok (.iload_n 3, 1) := by decide +kernel
theorem dX12_firstTo_35 : decode cX12_firstTo 35 = .ok (.iload_n 1, 1) := by decide +kernel
theorem dX12_firstTo_36 : decode cX12_firstTo 36 = .ok (.invokevirtual 320, 3) := by decide +kernel
theorem dX12_firstTo_39 : decode cX12_firstTo 39 = .ok (.istore 4, 2) := by decide +kernel
theorem dX12_firstTo_41 : decode cX12_firstTo 41 = .ok (.iload 4, 2) := by decide +kernel
theorem dX12_firstTo_43 : decode cX12_firstTo 43 = .ok (.iconst (-1), 1) := by decide +kernel
theorem dX12_firstTo_44 : decode cX12_firstTo 44 = .ok (.if_icmp .eq 38, 3) := by decide +kernel
theorem dX12_firstTo_82 : decode cX12_firstTo 82 = .ok (.iinc 3 1, 3) := by decide +kernel
theorem dX12_firstTo_85 : decode cX12_firstTo 85 = .ok (.goto (-60), 3) := by decide +kernel
theorem dX12_firstTo_47 : decode cX12_firstTo 47 = .ok (.aload_n 0, 1) := by decide +kernel
theorem dX12_firstTo_48 : decode cX12_firstTo 48 = .ok (.iload_n 3, 1) := by decide +kernel
theorem dX12_firstTo_49 : decode cX12_firstTo 49 = .ok (.iconst 2, 1) := by decide +kernel
theorem dX12_firstTo_50 : decode cX12_firstTo 50 = .ok (.invokevirtual 230, 3) := by decide +kernel
theorem dX12_firstTo_53 : decode cX12_firstTo 53 = .ok (.aload_n 0, 1) := by decide +kernel
theorem dX12_firstTo_54 : decode cX12_firstTo 54 = .ok (.getfield 43, 3) := by decide +kernel
theorem dX12_firstTo_57 : decode cX12_firstTo 57 = .ok (.bipush 16, 2) := by decide +kernel
theorem dX12_firstTo_59 : decode cX12_firstTo 59 = .ok (.iload 4, 2) := by decide +kernel
theorem dX12_firstTo_61 : decode cX12_firstTo 61 = .ok (.imul, 1) := by decide +kernel
theorem dX12_firstTo_62 : decode cX12_firstTo 62 = .ok (.iload_n 2, 1) := by decide +kernel
theorem dX12_firstTo_63 : decode cX12_firstTo 63 = .ok (.iadd, 1) := by decide +kernel
theorem dX12_firstTo_64 : decode cX12_firstTo 64 = .ok (.iaload, 1) := by decide +kernel
theorem dX12_firstTo_65 : decode cX12_firstTo 65 = .ok (.iadd, 1) := by decide +kernel
theorem dX12_firstTo_66 : decode cX12_firstTo 66 = .ok (.aload_n 0, 1) := by decide +kernel
theorem dX12_firstTo_67 : decode cX12_firstTo 67 = .ok (.getfield 43, 3) := by decide +kernel
theorem dX12_firstTo_70 : decode cX12_firstTo 70 = .ok (.bipush 16, 2) := by decide +kernel
theorem dX12_firstTo_72 : decode cX12_firstTo 72 = .ok (.iload_n 1, 1) := by decide +kernel
theorem dX12_firstTo_73 : decode cX12_firstTo 73 = .ok (.imul, 1) := by decide +kernel
theorem dX12_firstTo_74 : decode cX12_firstTo 74 = .ok (.iload_n 2, 1) := by decide +kernel
theorem dX12_firstTo_75 : decode cX12_firstTo 75 = .ok (.iadd, 1) := by decide +kernel
theorem dX12_firstTo_76 : decode cX12_firstTo 76 = .ok (.iaload, 1) := by decide +kernel
theorem dX12_firstTo_77 : decode cX12_firstTo 77 = .ok (.if_icmp .ne 5, 3) := by decide +kernel
theorem dX12_firstTo_80 : decode cX12_firstTo 80 = .ok (.iload_n 3, 1) := by decide +kernel
theorem dX12_firstTo_81 : decode cX12_firstTo 81 = .ok (.ireturn, 1) := by decide +kernel
theorem dX12_firstTo_88 : decode cX12_firstTo 88 = .ok (.iconst (-1), 1) := by decide +kernel
theorem dX12_firstTo_89 : decode cX12_firstTo 89 = .ok (.ireturn, 1) := by decide +kernel
theorem dX12_rings_25 : decode cX12_rings 25 = .ok (.istore_n 2, 1) := by decide +kernel
theorem dX12_rings_51 : decode cX12_rings 51 = .ok (.istore_n 3, 1) := by decide +kernel
theorem dX12_rings_52 : decode cX12_rings 52 = .ok (.aload_n 0, 1) := by decide +kernel
theorem dX12_rings_53 : decode cX12_rings 53 = .ok (.getfield 43, 3) := by decide +kernel
theorem dX12_rings_56 : decode cX12_rings 56 = .ok (.bipush 16, 2) := by decide +kernel
theorem dX12_rings_58 : decode cX12_rings 58 = .ok (.iload_n 3, 1) := by decide +kernel
theorem dX12_rings_59 : decode cX12_rings 59 = .ok (.imul, 1) := by decide +kernel
theorem dX12_rings_60 : decode cX12_rings 60 = .ok (.iload_n 2, 1) := by decide +kernel
theorem dX12_rings_61 : decode cX12_rings 61 = .ok (.iadd, 1) := by decide +kernel
theorem dX12_rings_62 : decode cX12_rings 62 = .ok (.iaload, 1) := by decide +kernel
theorem dX12_rings_63 : decode cX12_rings 63 = .ok (.ldc 255, 2) := by decide +kernel
theorem dX12_rings_65 : decode cX12_rings 65 = .ok (.if_icmp .lt 5, 3) := by decide +kernel
theorem dX12_rings_70 : decode cX12_rings 70 = .ok (.aload_n 0, 1) := by decide +kernel
theorem dX12_rings_71 : decode cX12_rings 71 = .ok (.iload_n 1, 1) := by decide +kernel
theorem dX12_rings_72 : decode cX12_rings 72 = .ok (.iconst 2, 1) := by decide +kernel
theorem dX12_rings_73 : decode cX12_rings 73 = .ok (.invokevirtual 230, 3) := by decide +kernel
theorem dX12_rings_76 : decode cX12_rings 76 = .ok (.aload_n 0, 1) := by decide +kernel
theorem dX12_rings_77 : decode cX12_rings 77 = .ok (.getfield 43, 3) := by decide +kernel
theorem dX12_rings_80 : decode cX12_rings 80 = .ok (.bipush 16, 2) := by decide +kernel
theorem dX12_rings_82 : decode cX12_rings 82 = .ok (.iload_n 3, 1) := by decide +kernel
theorem dX12_rings_83 : decode cX12_rings 83 = .ok (.imul, 1) := by decide +kernel
theorem dX12_rings_84 : decode cX12_rings 84 = .ok (.iload_n 2, 1) := by decide +kernel
theorem dX12_rings_85 : decode cX12_rings 85 = .ok (.iadd, 1) := by decide +kernel
theorem dX12_rings_86 : decode cX12_rings 86 = .ok (.iaload, 1) := by decide +kernel
theorem dX12_rings_87 : decode cX12_rings 87 = .ok (.iadd, 1) := by decide +kernel
theorem dX12_rings_88 : decode cX12_rings 88 = .ok (.istore 4, 2) := by decide +kernel
theorem dX12_rings_90 : decode cX12_rings 90 = .ok (.aload_n 0, 1) := by decide +kernel
theorem dX12_rings_91 : decode cX12_rings 91 = .ok (.getfield 58, 3) := by decide +kernel
theorem dX12_rings_94 : decode cX12_rings 94 = .ok (.iconst 0, 1) := by decide +kernel
theorem dX12_rings_95 : decode cX12_rings 95 = .ok (.iload_n 1, 1) := by decide +kernel
theorem dX12_rings_96 : decode cX12_rings 96 = .ok (.iastore, 1) := by decide +kernel
theorem dX12_rings_97 : decode cX12_rings 97 = .ok (.aload_n 0, 1) := by decide +kernel
theorem dX12_rings_98 : decode cX12_rings 98 = .ok (.iconst 1, 1) := by decide +kernel
theorem dX12_rings_99 : decode cX12_rings 99 = .ok (.putfield 323, 3) := by decide +kernel
theorem dX12_rings_102 : decode cX12_rings 102 = .ok (.iload_n 3, 1) := by decide +kernel
theorem dX12_rings_103 : decode cX12_rings 103 = .ok (.iload_n 2, 1) := by decide +kernel
theorem dX12_rings_104 : decode cX12_rings 104 = .ok (.if_icmp .eq 43, 3) := by decide +kernel
theorem dX12_rings_107 : decode cX12_rings 107 = .ok (.aload_n 0, 1) := by decide +kernel
theorem dX12_rings_108 : decode cX12_rings 108 = .ok (.iload_n 3, 1) := by decide +kernel
theorem dX12_rings_109 : decode cX12_rings 109 = .ok (.iload_n 2, 1) := by decide +kernel
theorem dX12_rings_110 : decode cX12_rings 110 = .ok (.invokevirtual 326, 3) := by decide +kernel
theorem dX12_rings_113 : decode cX12_rings 113 = .ok (.istore 5, 2) := by decide +kernel
theorem dX12_rings_115 : decode cX12_rings 115 = .ok (.aload_n 0, 1) := by decide +kernel
theorem dX12_rings_116 : decode cX12_rings 116 = .ok (.getfield 58, 3) := by decide +kernel
theorem dX12_rings_119 : decode cX12_rings 119 = .ok (.aload_n 0, 1) := by decide +kernel
theorem dX12_rings_120 : decode cX12_rings 120 = .ok (.getfield 323, 3) := by decide +kernel
theorem dX12_rings_123 : decode cX12_rings 123 = .ok (.iload 5, 2) := by decide +kernel
theorem dX12_rings_125 : decode cX12_rings 125 = .ok (.iastore, 1) := by decide +kernel
theorem dX12_rings_126 : decode cX12_rings 126 = .ok (.aload_n 0, 1) := by decide +kernel
theorem dX12_rings_127 : decode cX12_rings 127 = .ok (.dup, 1) := by decide +kernel
theorem dX12_rings_128 : decode cX12_rings 128 = .ok (.getfield 323, 3) := by decide +kernel
theorem dX12_rings_131 : decode cX12_rings 131 = .ok (.iconst 1, 1) := by decide +kernel
theorem dX12_rings_132 : decode cX12_rings 132 = .ok (.iadd, 1) := by decide +kernel
theorem dX12_rings_133 : decode cX12_rings 133 = .ok (.putfield 323, 3) := by decide +kernel
theorem dX12_rings_136 : decode cX12_rings 136 = .ok (.aload_n 0, 1) := by decide +kernel
theorem dX12_rings_137 : decode cX12_rings 137 = .ok (.iload 5, 2) := by decide +kernel
theorem dX12_rings_139 : decode cX12_rings 139 = .ok (.iload_n 3, 1) := by decide +kernel
theorem dX12_rings_140 : decode cX12_rings 140 = .ok (.invokevirtual 320, 3) := by decide +kernel
theorem dX12_rings_143 : decode cX12_rings 143 = .ok (.istore_n 3, 1) := by decide +kernel
theorem dX12_rings_144 : decode cX12_rings 144 = .ok (.goto (-42), 3) := by decide +kernel
theorem dX12_rings_147 : decode cX12_rings 147 = .ok (.iload 4, 2) := by decide +kernel
theorem dX12_rings_149 : decode cX12_rings 149 = .ok (.ireturn, 1) := by decide +kernel
theorem dX12_rings_68 : decode cX12_rings 68 = .ok (.iconst (-1), 1) := by decide +kernel
theorem dX12_rings_69 : decode cX12_rings 69 = .ok (.ireturn, 1) := by decide +kernel
theorem dX12_rings_26 : decode cX12_rings 26 = .ok (.aload_n 0, 1) := by decide +kernel
theorem dX12_rings_27 : decode cX12_rings 27 = .ok (.getfield 40, 3) := by decide +kernel
theorem dX12_rings_30 : decode cX12_rings 30 = .ok (.iload_n 1, 1) := by decide +kernel
theorem dX12_rings_31 : decode cX12_rings 31 = .ok (.iaload, 1) := by decide +kernel
theorem dX12_rings_32 : decode cX12_rings 32 = .ok (.iconst 2, 1) := by decide +kernel
theorem dX12_rings_33 : decode cX12_rings 33 = .ok (.if_icmp .ne 12, 3) := by decide +kernel
theorem dX12_rings_45 : decode cX12_rings 45 = .ok (.aload_n 0, 1) := by decide +kernel
theorem dX12_rings_46 : decode cX12_rings 46 = .ok (.iload_n 1, 1) := by decide +kernel
theorem dX12_rings_47 : decode cX12_rings 47 = .ok (.iconst 1, 1) := by decide +kernel
theorem dX12_rings_48 : decode cX12_rings 48 = .ok (.invokevirtual 230, 3) := by decide +kernel
theorem dX12_rings_36 : decode cX12_rings 36 = .ok (.aload_n 0, 1) := by decide +kernel
theorem dX12_rings_37 : decode cX12_rings 37 = .ok (.iload_n 1, 1) := by decide +kernel
theorem dX12_rings_38 : decode cX12_rings 38 = .ok (.iconst 0, 1) := by decide +kernel
theorem dX12_rings_39 : decode cX12_rings 39 = .ok (.invokevirtual 230, 3) := by decide +kernel
theorem dX12_rings_42 : decode cX12_rings 42 = .ok (.goto 9, 3) := by decide +kernel
theorem dX12_rings_0 : decode cX12_rings 0 = .ok (.aload_n 0, 1) := by decide +kernel
theorem dX12_rings_1 : decode cX12_rings 1 = .ok (.getfield 40, 3) := by decide +kernel
theorem dX12_rings_4 : decode cX12_rings 4 = .ok (.iload_n 1, 1) := by decide +kernel
theorem dX12_rings_5 : decode cX12_rings 5 = .ok (.iaload, 1) := by decide +kernel
theorem dX12_rings_6 : decode cX12_rings 6 = .ok (.iconst 2, 1) := by decide +kernel
theorem dX12_rings_7 : decode cX12_rings 7 = .ok (.if_icmp .ne 12, 3) := by decide +kernel
theorem dX12_rings_19 : decode cX12_rings 19 = .ok (.aload_n 0, 1) := by decide +kernel
theorem dX12_rings_20 : decode cX12_rings 20 = .ok (.iload_n 1, 1) := by decide +kernel
theorem dX12_rings_21 : decode cX12_rings 21 = .ok (.iconst 0, 1) := by decide +kernel
theorem dX12_rings_22 : decode cX12_rings 22 = .ok (.invokevirtual 230, 3) := by decide +kernel
theorem dX12_rings_10 : decode cX12_rings 10 = .ok (.aload_n 0, 1) := by decide +kernel
theorem dX12_rings_11 : decode cX12_rings 11 = .ok (.iload_n 1, 1) := by decide +kernel
theorem dX12_rings_12 : decode cX12_rings 12 = .ok (.iconst 1, 1) := by decide +kernel
theorem dX12_rings_13 : decode cX12_rings 13 = .ok (.invokevirtual 230, 3) := by decide +kernel
theorem dX12_rings_16 : decode cX12_rings 16 = .ok (.goto 9, 3) := by decide +kernel
theorem dX12_turnsOnce_0 : decode cX12_turnsOnce 0 = .ok (.iconst 0, 1) := by decide +kernel
theorem dX12_turnsOnce_1 : decode cX12_turnsOnce 1 = .ok (.istore_n 2, 1) := by decide +kernel
theorem dX12_turnsOnce_2 : decode cX12_turnsOnce 2 = .ok (.iload_n 2, 1) := by decide +kernel
theorem dX12_turnsOnce_3 : decode cX12_turnsOnce 3 = .ok (.aload_n 0, 1) := by decide +kernel
theorem dX12_turnsOnce_4 : decode cX12_turnsOnce 4 = .ok (.invokevirtual 102, 3) := by decide +kernel
theorem dX12_turnsOnce_7 : decode cX12_turnsOnce 7 = .ok (.if_icmp .ge 40, 3) := by decide +kernel
theorem dX12_turnsOnce_10 : decode cX12_turnsOnce 10 = .ok (.aload_n 0, 1) := by decide +kernel
theorem dX12_turnsOnce_11 : decode cX12_turnsOnce 11 = .ok (.iload_n 2, 1) := by decide +kernel
theorem dX12_turnsOnce_12 : decode cX12_turnsOnce 12 = .ok (.invokevirtual 329, 3) := by decide +kernel
theorem dX12_turnsOnce_15 : decode cX12_turnsOnce 15 = .ok (.ifCond .ne 6, 3) := by decide +kernel
theorem dX12_turnsOnce_18 : decode cX12_turnsOnce 18 = .ok (.goto 23, 3) := by decide +kernel
theorem dX12_turnsOnce_41 : decode cX12_turnsOnce 41 = .ok (.iinc 2 1, 3) := by decide +kernel
theorem dX12_turnsOnce_44 : decode cX12_turnsOnce 44 = .ok (.goto (-42), 3) := by decide +kernel
theorem dX12_turnsOnce_21 : decode cX12_turnsOnce 21 = .ok (.aload_n 0, 1) := by decide +kernel
theorem dX12_turnsOnce_22 : decode cX12_turnsOnce 22 = .ok (.iload_n 2, 1) := by decide +kernel
theorem dX12_turnsOnce_23 : decode cX12_turnsOnce 23 = .ok (.invokevirtual 332, 3) := by decide +kernel
theorem dX12_turnsOnce_26 : decode cX12_turnsOnce 26 = .ok (.aload_n 0, 1) := by decide +kernel
theorem dX12_turnsOnce_27 : decode cX12_turnsOnce 27 = .ok (.iload_n 1, 1) := by decide +kernel
theorem dX12_turnsOnce_28 : decode cX12_turnsOnce 28 = .ok (.invokevirtual 335, 3) := by decide +kernel
theorem dX12_turnsOnce_31 : decode cX12_turnsOnce 31 = .ok (.ifCond .eq 5, 3) := by decide +kernel
theorem dX12_turnsOnce_36 : decode cX12_turnsOnce 36 = .ok (.aload_n 0, 1) := by decide +kernel
theorem dX12_turnsOnce_37 : decode cX12_turnsOnce 37 = .ok (.iload_n 2, 1) := by decide +kernel
theorem dX12_turnsOnce_38 : decode cX12_turnsOnce 38 = .ok (.invokevirtual 332, 3) := by decide +kernel
theorem dX12_turnsOnce_34 : decode cX12_turnsOnce 34 = .ok (.iconst 1, 1) := by decide +kernel
theorem dX12_turnsOnce_35 : decode cX12_turnsOnce 35 = .ok (.ireturn, 1) := by decide +kernel
theorem dX12_turnsOnce_47 : decode cX12_turnsOnce 47 = .ok (.iconst 0, 1) := by decide +kernel
theorem dX12_turnsOnce_48 : decode cX12_turnsOnce 48 = .ok (.istore_n 2, 1) := by decide +kernel
theorem dX12_turnsOnce_49 : decode cX12_turnsOnce 49 = .ok (.iload_n 2, 1) := by decide +kernel
theorem dX12_turnsOnce_50 : decode cX12_turnsOnce 50 = .ok (.aload_n 0, 1) := by decide +kernel
theorem dX12_turnsOnce_51 : decode cX12_turnsOnce 51 = .ok (.invokevirtual 102, 3) := by decide +kernel
theorem dX12_turnsOnce_54 : decode cX12_turnsOnce 54 = .ok (.if_icmp .ge 76, 3) := by decide +kernel
theorem dX12_turnsOnce_57 : decode cX12_turnsOnce 57 = .ok (.iload_n 2, 1) := by decide +kernel
theorem dX12_turnsOnce_58 : decode cX12_turnsOnce 58 = .ok (.iconst 1, 1) := by decide +kernel
theorem dX12_turnsOnce_59 : decode cX12_turnsOnce 59 = .ok (.iadd, 1) := by decide +kernel
theorem dX12_turnsOnce_60 : decode cX12_turnsOnce 60 = .ok (.istore_n 3, 1) := by decide +kernel
theorem dX12_turnsOnce_61 : decode cX12_turnsOnce 61 = .ok (.iload_n 3, 1) := by decide +kernel
theorem dX12_turnsOnce_62 : decode cX12_turnsOnce 62 = .ok (.aload_n 0, 1) := by decide +kernel
theorem dX12_turnsOnce_63 : decode cX12_turnsOnce 63 = .ok (.invokevirtual 102, 3) := by decide +kernel
theorem dX12_turnsOnce_66 : decode cX12_turnsOnce 66 = .ok (.if_icmp .ge 58, 3) := by decide +kernel
theorem dX12_turnsOnce_69 : decode cX12_turnsOnce 69 = .ok (.aload_n 0, 1) := by decide +kernel
theorem dX12_turnsOnce_70 : decode cX12_turnsOnce 70 = .ok (.iload_n 2, 1) := by decide +kernel
theorem dX12_turnsOnce_71 : decode cX12_turnsOnce 71 = .ok (.invokevirtual 329, 3) := by decide +kernel
theorem dX12_turnsOnce_74 : decode cX12_turnsOnce 74 = .ok (.ifCond .eq 50, 3) := by decide +kernel
theorem dX12_turnsOnce_77 : decode cX12_turnsOnce 77 = .ok (.aload_n 0, 1) := by decide +kernel
theorem dX12_turnsOnce_78 : decode cX12_turnsOnce 78 = .ok (.iload_n 3, 1) := by decide +kernel
theorem dX12_turnsOnce_79 : decode cX12_turnsOnce 79 = .ok (.invokevirtual 329, 3) := by decide +kernel
theorem dX12_turnsOnce_82 : decode cX12_turnsOnce 82 = .ok (.ifCond .ne 6, 3) := by decide +kernel
theorem dX12_turnsOnce_85 : decode cX12_turnsOnce 85 = .ok (.goto 33, 3) := by decide +kernel
theorem dX12_turnsOnce_118 : decode cX12_turnsOnce 118 = .ok (.iinc 3 1, 3) := by decide +kernel
theorem dX12_turnsOnce_121 : decode cX12_turnsOnce 121 = .ok (.goto (-60), 3) := by decide +kernel
theorem dX12_turnsOnce_88 : decode cX12_turnsOnce 88 = .ok (.aload_n 0, 1) := by decide +kernel
theorem dX12_turnsOnce_89 : decode cX12_turnsOnce 89 = .ok (.iload_n 2, 1) := by decide +kernel
theorem dX12_turnsOnce_90 : decode cX12_turnsOnce 90 = .ok (.invokevirtual 332, 3) := by decide +kernel
theorem dX12_turnsOnce_93 : decode cX12_turnsOnce 93 = .ok (.aload_n 0, 1) := by decide +kernel
theorem dX12_turnsOnce_94 : decode cX12_turnsOnce 94 = .ok (.iload_n 3, 1) := by decide +kernel
theorem dX12_turnsOnce_95 : decode cX12_turnsOnce 95 = .ok (.invokevirtual 332, 3) := by decide +kernel
theorem dX12_turnsOnce_98 : decode cX12_turnsOnce 98 = .ok (.aload_n 0, 1) := by decide +kernel
theorem dX12_turnsOnce_99 : decode cX12_turnsOnce 99 = .ok (.iload_n 1, 1) := by decide +kernel
theorem dX12_turnsOnce_100 : decode cX12_turnsOnce 100 = .ok (.invokevirtual 335, 3) := by decide +kernel
theorem dX12_turnsOnce_103 : decode cX12_turnsOnce 103 = .ok (.ifCond .eq 5, 3) := by decide +kernel
theorem dX12_turnsOnce_108 : decode cX12_turnsOnce 108 = .ok (.aload_n 0, 1) := by decide +kernel
theorem dX12_turnsOnce_109 : decode cX12_turnsOnce 109 = .ok (.iload_n 2, 1) := by decide +kernel
theorem dX12_turnsOnce_110 : decode cX12_turnsOnce 110 = .ok (.invokevirtual 332, 3) := by decide +kernel
theorem dX12_turnsOnce_113 : decode cX12_turnsOnce 113 = .ok (.aload_n 0, 1) := by decide +kernel
theorem dX12_turnsOnce_114 : decode cX12_turnsOnce 114 = .ok (.iload_n 3, 1) := by decide +kernel
theorem dX12_turnsOnce_115 : decode cX12_turnsOnce 115 = .ok (.invokevirtual 332, 3) := by decide +kernel
theorem dX12_turnsOnce_106 : decode cX12_turnsOnce 106 = .ok (.iconst 1, 1) := by decide +kernel
theorem dX12_turnsOnce_107 : decode cX12_turnsOnce 107 = .ok (.ireturn, 1) := by decide +kernel
theorem dX12_turnsOnce_124 : decode cX12_turnsOnce 124 = .ok (.iinc 2 1, 3) := by decide +kernel
theorem dX12_turnsOnce_127 : decode cX12_turnsOnce 127 = .ok (.goto (-78), 3) := by decide +kernel
theorem dX12_turnsOnce_130 : decode cX12_turnsOnce 130 = .ok (.iconst 0, 1) := by decide +kernel
theorem dX12_turnsOnce_131 : decode cX12_turnsOnce 131 = .ok (.istore_n 2, 1) := by decide +kernel
theorem dX12_turnsOnce_132 : decode cX12_turnsOnce 132 = .ok (.iload_n 2, 1) := by decide +kernel
theorem dX12_turnsOnce_133 : decode cX12_turnsOnce 133 = .ok (.aload_n 0, 1) := by decide +kernel
theorem dX12_turnsOnce_134 : decode cX12_turnsOnce 134 = .ok (.invokevirtual 102, 3) := by decide +kernel
theorem dX12_turnsOnce_137 : decode cX12_turnsOnce 137 = .ok (.if_icmp .ge 155, 3) := by decide +kernel
theorem dX12_turnsOnce_140 : decode cX12_turnsOnce 140 = .ok (.aload_n 0, 1) := by decide +kernel
theorem dX12_turnsOnce_141 : decode cX12_turnsOnce 141 = .ok (.iload_n 2, 1) := by decide +kernel
theorem dX12_turnsOnce_142 : decode cX12_turnsOnce 142 = .ok (.invokevirtual 329, 3) := by decide +kernel
theorem dX12_turnsOnce_145 : decode cX12_turnsOnce 145 = .ok (.ifCond .ne 6, 3) := by decide +kernel
theorem dX12_turnsOnce_148 : decode cX12_turnsOnce 148 = .ok (.goto 138, 3) := by decide +kernel
theorem dX12_turnsOnce_286 : decode cX12_turnsOnce 286 = .ok (.iinc 2 1, 3) := by decide +kernel
theorem dX12_turnsOnce_289 : decode cX12_turnsOnce 289 = .ok (.goto (-157), 3) := by decide +kernel
theorem dX12_turnsOnce_151 : decode cX12_turnsOnce 151 = .ok (.aload_n 0, 1) := by decide +kernel
theorem dX12_turnsOnce_152 : decode cX12_turnsOnce 152 = .ok (.invokevirtual 264, 3) := by decide +kernel
theorem dX12_turnsOnce_155 : decode cX12_turnsOnce 155 = .ok (.aload_n 0, 1) := by decide +kernel
theorem dX12_turnsOnce_156 : decode cX12_turnsOnce 156 = .ok (.iload_n 2, 1) := by decide +kernel
theorem dX12_turnsOnce_157 : decode cX12_turnsOnce 157 = .ok (.invokevirtual 338, 3) := by decide +kernel
theorem dX12_turnsOnce_160 : decode cX12_turnsOnce 160 = .ok (.iconst (-1), 1) := by decide +kernel
theorem dX12_turnsOnce_161 : decode cX12_turnsOnce 161 = .ok (.if_icmp .ne 6, 3) := by decide +kernel
theorem dX12_turnsOnce_167 : decode cX12_turnsOnce 167 = .ok (.iconst 1, 1) := by decide +kernel
theorem dX12_turnsOnce_168 : decode cX12_turnsOnce 168 = .ok (.istore_n 3, 1) := by decide +kernel
theorem dX12_turnsOnce_169 : decode cX12_turnsOnce 169 = .ok (.iconst 0, 1) := by decide +kernel
theorem dX12_turnsOnce_170 : decode cX12_turnsOnce 170 = .ok (.istore 4, 2) := by decide +kernel
theorem dX12_turnsOnce_172 : decode cX12_turnsOnce 172 = .ok (.iload 4, 2) := by decide +kernel
theorem dX12_turnsOnce_174 : decode cX12_turnsOnce 174 = .ok (.aload_n 0, 1) := by decide +kernel
theorem dX12_turnsOnce_175 : decode cX12_turnsOnce 175 = .ok (.getfield 323, 3) := by decide +kernel
theorem dX12_turnsOnce_178 : decode cX12_turnsOnce 178 = .ok (.if_icmp .ge 33, 3) := by decide +kernel
theorem dX12_turnsOnce_181 : decode cX12_turnsOnce 181 = .ok (.iload_n 3, 1) := by decide +kernel
theorem dX12_turnsOnce_182 : decode cX12_turnsOnce 182 = .ok (.ifCond .eq 21, 3) := by decide +kernel
theorem dX12_turnsOnce_203 : decode cX12_turnsOnce 203 = .ok (.iconst 0, 1) := by decide +kernel
theorem dX12_turnsOnce_204 : decode cX12_turnsOnce 204 = .ok (.istore_n 3, 1) := by decide +kernel
theorem dX12_turnsOnce_205 : decode cX12_turnsOnce 205 = .ok (.iinc 4 1, 3) := by decide +kernel
theorem dX12_turnsOnce_208 : decode cX12_turnsOnce 208 = .ok (.goto (-36), 3) := by decide +kernel
theorem dX12_turnsOnce_185 : decode cX12_turnsOnce 185 = .ok (.aload_n 0, 1) := by decide +kernel
theorem dX12_turnsOnce_186 : decode cX12_turnsOnce 186 = .ok (.aload_n 0, 1) := by decide +kernel
theorem dX12_turnsOnce_187 : decode cX12_turnsOnce 187 = .ok (.getfield 58, 3) := by decide +kernel
theorem dX12_turnsOnce_190 : decode cX12_turnsOnce 190 = .ok (.iload 4, 2) := by decide +kernel
theorem dX12_turnsOnce_192 : decode cX12_turnsOnce 192 = .ok (.iaload, 1) := by decide +kernel
theorem dX12_turnsOnce_193 : decode cX12_turnsOnce 193 = .ok (.invokevirtual 329, 3) := by decide +kernel
theorem dX12_turnsOnce_196 : decode cX12_turnsOnce 196 = .ok (.ifCond .eq 7, 3) := by decide +kernel
theorem dX12_turnsOnce_199 : decode cX12_turnsOnce 199 = .ok (.iconst 1, 1) := by decide +kernel
theorem dX12_turnsOnce_200 : decode cX12_turnsOnce 200 = .ok (.goto 4, 3) := by decide +kernel
theorem dX12_turnsOnce_211 : decode cX12_turnsOnce 211 = .ok (.iload_n 3, 1) := by decide +kernel
theorem dX12_turnsOnce_212 : decode cX12_turnsOnce 212 = .ok (.ifCond .ne 6, 3) := by decide +kernel
theorem dX12_turnsOnce_218 : decode cX12_turnsOnce 218 = .ok (.iconst 0, 1) := by decide +kernel
theorem dX12_turnsOnce_219 : decode cX12_turnsOnce 219 = .ok (.istore 4, 2) := by decide +kernel
theorem dX12_turnsOnce_221 : decode cX12_turnsOnce 221 = .ok (.iload 4, 2) := by decide +kernel
theorem dX12_turnsOnce_223 : decode cX12_turnsOnce 223 = .ok (.aload_n 0, 1) := by decide +kernel
theorem dX12_turnsOnce_224 : decode cX12_turnsOnce 224 = .ok (.getfield 323, 3) := by decide +kernel
theorem dX12_turnsOnce_227 : decode cX12_turnsOnce 227 = .ok (.if_icmp .ge 20, 3) := by decide +kernel
theorem dX12_turnsOnce_230 : decode cX12_turnsOnce 230 = .ok (.aload_n 0, 1) := by decide +kernel
theorem dX12_turnsOnce_231 : decode cX12_turnsOnce 231 = .ok (.aload_n 0, 1) := by decide +kernel
theorem dX12_turnsOnce_232 : decode cX12_turnsOnce 232 = .ok (.getfield 58, 3) := by decide +kernel
theorem dX12_turnsOnce_235 : decode cX12_turnsOnce 235 = .ok (.iload 4, 2) := by decide +kernel
theorem dX12_turnsOnce_237 : decode cX12_turnsOnce 237 = .ok (.iaload, 1) := by decide +kernel
theorem dX12_turnsOnce_238 : decode cX12_turnsOnce 238 = .ok (.invokevirtual 332, 3) := by decide +kernel
theorem dX12_turnsOnce_241 : decode cX12_turnsOnce 241 = .ok (.iinc 4 1, 3) := by decide +kernel
theorem dX12_turnsOnce_244 : decode cX12_turnsOnce 244 = .ok (.goto (-23), 3) := by decide +kernel
theorem dX12_turnsOnce_247 : decode cX12_turnsOnce 247 = .ok (.aload_n 0, 1) := by decide +kernel
theorem dX12_turnsOnce_248 : decode cX12_turnsOnce 248 = .ok (.iload_n 1, 1) := by decide +kernel
theorem dX12_turnsOnce_249 : decode cX12_turnsOnce 249 = .ok (.invokevirtual 335, 3) := by decide +kernel
theorem dX12_turnsOnce_252 : decode cX12_turnsOnce 252 = .ok (.ifCond .eq 5, 3) := by decide +kernel
theorem dX12_turnsOnce_257 : decode cX12_turnsOnce 257 = .ok (.iconst 0, 1) := by decide +kernel
theorem dX12_turnsOnce_258 : decode cX12_turnsOnce 258 = .ok (.istore 4, 2) := by decide +kernel
theorem dX12_turnsOnce_260 : decode cX12_turnsOnce 260 = .ok (.iload 4, 2) := by decide +kernel
theorem dX12_turnsOnce_262 : decode cX12_turnsOnce 262 = .ok (.aload_n 0, 1) := by decide +kernel
theorem dX12_turnsOnce_263 : decode cX12_turnsOnce 263 = .ok (.getfield 323, 3) := by decide +kernel
theorem dX12_turnsOnce_266 : decode cX12_turnsOnce 266 = .ok (.if_icmp .ge 20, 3) := by decide +kernel
theorem dX12_turnsOnce_269 : decode cX12_turnsOnce 269 = .ok (.aload_n 0, 1) := by decide +kernel
theorem dX12_turnsOnce_270 : decode cX12_turnsOnce 270 = .ok (.aload_n 0, 1) := by decide +kernel
theorem dX12_turnsOnce_271 : decode cX12_turnsOnce 271 = .ok (.getfield 58, 3) := by decide +kernel
theorem dX12_turnsOnce_274 : decode cX12_turnsOnce 274 = .ok (.iload 4, 2) := by decide +kernel
theorem dX12_turnsOnce_276 : decode cX12_turnsOnce 276 = .ok (.iaload, 1) := by decide +kernel
theorem dX12_turnsOnce_277 : decode cX12_turnsOnce 277 = .ok (.invokevirtual 332, 3) := by decide +kernel
theorem dX12_turnsOnce_280 : decode cX12_turnsOnce 280 = .ok (.iinc 4 1, 3) := by decide +kernel
theorem dX12_turnsOnce_283 : decode cX12_turnsOnce 283 = .ok (.goto (-23), 3) := by decide +kernel
theorem dX12_turnsOnce_255 : decode cX12_turnsOnce 255 = .ok (.iconst 1, 1) := by decide +kernel
theorem dX12_turnsOnce_256 : decode cX12_turnsOnce 256 = .ok (.ireturn, 1) := by decide +kernel
theorem dX12_turnsOnce_215 : decode cX12_turnsOnce 215 = .ok (.goto 71, 3) := by decide +kernel
theorem dX12_turnsOnce_164 : decode cX12_turnsOnce 164 = .ok (.goto 122, 3) := by decide +kernel
theorem dX12_turnsOnce_292 : decode cX12_turnsOnce 292 = .ok (.iconst 0, 1) := by decide +kernel
theorem dX12_turnsOnce_293 : decode cX12_turnsOnce 293 = .ok (.ireturn, 1) := by decide +kernel
theorem dX12_better_0 : decode cX12_better 0 = .ok (.iload_n 1, 1) := by decide +kernel
theorem dX12_better_1 : decode cX12_better 1 = .ok (.invokestatic 239, 3) := by decide +kernel
theorem dX12_better_4 : decode cX12_better 4 = .ok (.ifCond .ne 6, 3) := by decide +kernel
theorem dX12_better_7 : decode cX12_better 7 = .ok (.bipush (-2), 2) := by decide +kernel
theorem dX12_better_9 : decode cX12_better 9 = .ok (.ireturn, 1) := by decide +kernel
theorem dX12_better_10 : decode cX12_better 10 = .ok (.aload_n 0, 1) := by decide +kernel
theorem dX12_better_11 : decode cX12_better 11 = .ok (.iload_n 1, 1) := by decide +kernel
theorem dX12_better_12 : decode cX12_better 12 = .ok (.invokevirtual 271, 3) := by decide +kernel
theorem dX12_better_15 : decode cX12_better 15 = .ok (.aload_n 0, 1) := by decide +kernel
theorem dX12_better_16 : decode cX12_better 16 = .ok (.invokevirtual 341, 3) := by decide +kernel
theorem dX12_better_19 : decode cX12_better 19 = .ok (.ifCond .ne 6, 3) := by decide +kernel
theorem dX12_better_25 : decode cX12_better 25 = .ok (.aload_n 0, 1) := by decide +kernel
theorem dX12_better_26 : decode cX12_better 26 = .ok (.aload_n 0, 1) := by decide +kernel
theorem dX12_better_27 : decode cX12_better 27 = .ok (.getfield 46, 3) := by decide +kernel
theorem dX12_better_30 : decode cX12_better 30 = .ok (.iconst 1, 1) := by decide +kernel
theorem dX12_better_31 : decode cX12_better 31 = .ok (.invokevirtual 260, 3) := by decide +kernel
theorem dX12_better_34 : decode cX12_better 34 = .ok (.iconst 0, 1) := by decide +kernel
theorem dX12_better_35 : decode cX12_better 35 = .ok (.istore_n 2, 1) := by decide +kernel
theorem dX12_better_36 : decode cX12_better 36 = .ok (.aload_n 0, 1) := by decide +kernel
theorem dX12_better_37 : decode cX12_better 37 = .ok (.invokevirtual 314, 3) := by decide +kernel
theorem dX12_better_40 : decode cX12_better 40 = .ok (.istore_n 3, 1) := by decide +kernel
theorem dX12_better_41 : decode cX12_better 41 = .ok (.iload_n 2, 1) := by decide +kernel
theorem dX12_better_42 : decode cX12_better 42 = .ok (.bipush 50, 2) := by decide +kernel
theorem dX12_better_44 : decode cX12_better 44 = .ok (.if_icmp .ge 22, 3) := by decide +kernel
theorem dX12_better_47 : decode cX12_better 47 = .ok (.aload_n 0, 1) := by decide +kernel
theorem dX12_better_48 : decode cX12_better 48 = .ok (.iload_n 3, 1) := by decide +kernel
theorem dX12_better_49 : decode cX12_better 49 = .ok (.invokevirtual 344, 3) := by decide +kernel
theorem dX12_better_52 : decode cX12_better 52 = .ok (.ifCond .eq 14, 3) := by decide +kernel
theorem dX12_better_55 : decode cX12_better 55 = .ok (.iinc 2 1, 3) := by decide +kernel
theorem dX12_better_58 : decode cX12_better 58 = .ok (.aload_n 0, 1) := by decide +kernel
theorem dX12_better_59 : decode cX12_better 59 = .ok (.invokevirtual 314, 3) := by decide +kernel
theorem dX12_better_62 : decode cX12_better 62 = .ok (.istore_n 3, 1) := by decide +kernel
theorem dX12_better_63 : decode cX12_better 63 = .ok (.goto (-22), 3) := by decide +kernel
theorem dX12_better_66 : decode cX12_better 66 = .ok (.aload_n 0, 1) := by decide +kernel
theorem dX12_better_67 : decode cX12_better 67 = .ok (.iload_n 1, 1) := by decide +kernel
theorem dX12_better_68 : decode cX12_better 68 = .ok (.invokevirtual 286, 3) := by decide +kernel
theorem dX12_better_71 : decode cX12_better 71 = .ok (.iload_n 2, 1) := by decide +kernel
theorem dX12_better_72 : decode cX12_better 72 = .ok (.ireturn, 1) := by decide +kernel
theorem dX12_better_22 : decode cX12_better 22 = .ok (.bipush (-5), 2) := by decide +kernel
theorem dX12_better_24 : decode cX12_better 24 = .ok (.ireturn, 1) := by decide +kernel
theorem dX12_alike_0 : decode cX12_alike 0 = .ok (.iload_n 1, 1) := by decide +kernel
theorem dX12_alike_1 : decode cX12_alike 1 = .ok (.invokestatic 239, 3) := by decide +kernel
theorem dX12_alike_4 : decode cX12_alike 4 = .ok (.ifCond .ne 6, 3) := by decide +kernel
theorem dX12_alike_7 : decode cX12_alike 7 = .ok (.bipush (-2), 2) := by decide +kernel
theorem dX12_alike_9 : decode cX12_alike 9 = .ok (.ireturn, 1) := by decide +kernel
theorem dX12_alike_10 : decode cX12_alike 10 = .ok (.iconst 0, 1) := by decide +kernel
theorem dX12_alike_11 : decode cX12_alike 11 = .ok (.istore_n 2, 1) := by decide +kernel
theorem dX12_alike_12 : decode cX12_alike 12 = .ok (.iconst 0, 1) := by decide +kernel
theorem dX12_alike_13 : decode cX12_alike 13 = .ok (.istore_n 3, 1) := by decide +kernel
theorem dX12_alike_14 : decode cX12_alike 14 = .ok (.iload_n 3, 1) := by decide +kernel
theorem dX12_alike_15 : decode cX12_alike 15 = .ok (.aload_n 0, 1) := by decide +kernel
theorem dX12_alike_16 : decode cX12_alike 16 = .ok (.getfield 13, 3) := by decide +kernel
theorem dX12_alike_19 : decode cX12_alike 19 = .ok (.iconst 5, 1) := by decide +kernel
theorem dX12_alike_20 : decode cX12_alike 20 = .ok (.iaload, 1) := by decide +kernel
theorem dX12_alike_21 : decode cX12_alike 21 = .ok (.if_icmp .ge 82, 3) := by decide +kernel
theorem dX12_alike_24 : decode cX12_alike 24 = .ok (.sipush 206, 3) := by decide +kernel
theorem dX12_alike_27 : decode cX12_alike 27 = .ok (.bipush 7, 2) := by decide +kernel
theorem dX12_alike_29 : decode cX12_alike 29 = .ok (.iload_n 3, 1) := by decide +kernel
theorem dX12_alike_30 : decode cX12_alike 30 = .ok (.imul, 1) := by decide +kernel
theorem dX12_alike_31 : decode cX12_alike 31 = .ok (.iadd, 1) := by decide +kernel
theorem dX12_alike_32 : decode cX12_alike 32 = .ok (.istore 4, 2) := by decide +kernel
theorem dX12_alike_34 : decode cX12_alike 34 = .ok (.iconst 2, 1) := by decide +kernel
theorem dX12_alike_35 : decode cX12_alike 35 = .ok (.istore 5, 2) := by decide +kernel
theorem dX12_alike_37 : decode cX12_alike 37 = .ok (.iload 5, 2) := by decide +kernel
theorem dX12_alike_39 : decode cX12_alike 39 = .ok (.aload_n 0, 1) := by decide +kernel
theorem dX12_alike_40 : decode cX12_alike 40 = .ok (.getfield 13, 3) := by decide +kernel
theorem dX12_alike_43 : decode cX12_alike 43 = .ok (.iload 4, 2) := by decide +kernel
theorem dX12_alike_45 : decode cX12_alike 45 = .ok (.iaload, 1) := by decide +kernel
theorem dX12_alike_46 : decode cX12_alike 46 = .ok (.if_icmp .gt 51, 3) := by decide +kernel
theorem dX12_alike_49 : decode cX12_alike 49 = .ok (.iload_n 2, 1) := by decide +kernel
theorem dX12_alike_50 : decode cX12_alike 50 = .ok (.aload_n 0, 1) := by decide +kernel
theorem dX12_alike_51 : decode cX12_alike 51 = .ok (.iload_n 1, 1) := by decide +kernel
theorem dX12_alike_52 : decode cX12_alike 52 = .ok (.aload_n 0, 1) := by decide +kernel
theorem dX12_alike_53 : decode cX12_alike 53 = .ok (.getfield 13, 3) := by decide +kernel
theorem dX12_alike_56 : decode cX12_alike 56 = .ok (.iload 4, 2) := by decide +kernel
theorem dX12_alike_58 : decode cX12_alike 58 = .ok (.iload 5, 2) := by decide +kernel
theorem dX12_alike_60 : decode cX12_alike 60 = .ok (.iadd, 1) := by decide +kernel
theorem dX12_alike_61 : decode cX12_alike 61 = .ok (.iaload, 1) := by decide +kernel
theorem dX12_alike_62 : decode cX12_alike 62 = .ok (.invokevirtual 249, 3) := by decide +kernel
theorem dX12_alike_65 : decode cX12_alike 65 = .ok (.aload_n 0, 1) := by decide +kernel
theorem dX12_alike_66 : decode cX12_alike 66 = .ok (.iload_n 1, 1) := by decide +kernel
theorem dX12_alike_67 : decode cX12_alike 67 = .ok (.aload_n 0, 1) := by decide +kernel
theorem dX12_alike_68 : decode cX12_alike 68 = .ok (.getfield 13, 3) := by decide +kernel
theorem dX12_alike_71 : decode cX12_alike 71 = .ok (.iload 4, 2) := by decide +kernel
theorem dX12_alike_73 : decode cX12_alike 73 = .ok (.iconst 1, 1) := by decide +kernel
theorem dX12_alike_74 : decode cX12_alike 74 = .ok (.iadd, 1) := by decide +kernel
theorem dX12_alike_75 : decode cX12_alike 75 = .ok (.iaload, 1) := by decide +kernel
theorem dX12_alike_76 : decode cX12_alike 76 = .ok (.invokevirtual 249, 3) := by decide +kernel
theorem dX12_alike_79 : decode cX12_alike 79 = .ok (.if_icmp .ne 7, 3) := by decide +kernel
theorem dX12_alike_86 : decode cX12_alike 86 = .ok (.iconst 1, 1) := by decide +kernel
theorem dX12_alike_87 : decode cX12_alike 87 = .ok (.iload_n 3, 1) := by decide +kernel
theorem dX12_alike_88 : decode cX12_alike 88 = .ok (.ishl, 1) := by decide +kernel
theorem dX12_alike_89 : decode cX12_alike 89 = .ok (.ior, 1) := by decide +kernel
theorem dX12_alike_90 : decode cX12_alike 90 = .ok (.istore_n 2, 1) := by decide +kernel
theorem dX12_alike_91 : decode cX12_alike 91 = .ok (.iinc 5 1, 3) := by decide +kernel
theorem dX12_alike_94 : decode cX12_alike 94 = .ok (.goto (-57), 3) := by decide +kernel
theorem dX12_alike_82 : decode cX12_alike 82 = .ok (.iconst 0, 1) := by decide +kernel
theorem dX12_alike_83 : decode cX12_alike 83 = .ok (.goto 6, 3) := by decide +kernel
theorem dX12_alike_97 : decode cX12_alike 97 = .ok (.iinc 3 1, 3) := by decide +kernel
theorem dX12_alike_100 : decode cX12_alike 100 = .ok (.goto (-86), 3) := by decide +kernel
theorem dX12_alike_103 : decode cX12_alike 103 = .ok (.iload_n 2, 1) := by decide +kernel
theorem dX12_alike_104 : decode cX12_alike 104 = .ok (.ireturn, 1) := by decide +kernel
theorem dX12_known_0 : decode cX12_known 0 = .ok (.iload_n 1, 1) := by decide +kernel
theorem dX12_known_1 : decode cX12_known 1 = .ok (.invokestatic 239, 3) := by decide +kernel
theorem dX12_known_4 : decode cX12_known 4 = .ok (.ifCond .ne 6, 3) := by decide +kernel
theorem dX12_known_7 : decode cX12_known 7 = .ok (.bipush (-2), 2) := by decide +kernel
theorem dX12_known_9 : decode cX12_known 9 = .ok (.ireturn, 1) := by decide +kernel
theorem dX12_known_10 : decode cX12_known 10 = .ok (.aload_n 0, 1) := by decide +kernel
theorem dX12_known_11 : decode cX12_known 11 = .ok (.getfield 13, 3) := by decide +kernel
theorem dX12_known_14 : decode cX12_known 14 = .ok (.bipush 6, 2) := by decide +kernel
theorem dX12_known_16 : decode cX12_known 16 = .ok (.iaload, 1) := by decide +kernel
theorem dX12_known_17 : decode cX12_known 17 = .ok (.ifCond .ne 6, 3) := by decide +kernel
theorem dX12_known_23 : decode cX12_known 23 = .ok (.iconst 0, 1) := by decide +kernel
theorem dX12_known_24 : decode cX12_known 24 = .ok (.istore_n 2, 1) := by decide +kernel
theorem dX12_known_25 : decode cX12_known 25 = .ok (.iconst 0, 1) := by decide +kernel
theorem dX12_known_26 : decode cX12_known 26 = .ok (.istore_n 3, 1) := by decide +kernel
theorem dX12_known_27 : decode cX12_known 27 = .ok (.iload_n 3, 1) := by decide +kernel
theorem dX12_known_28 : decode cX12_known 28 = .ok (.aload_n 0, 1) := by decide +kernel
theorem dX12_known_29 : decode cX12_known 29 = .ok (.getfield 13, 3) := by decide +kernel
theorem dX12_known_32 : decode cX12_known 32 = .ok (.bipush 7, 2) := by decide +kernel
theorem dX12_known_34 : decode cX12_known 34 = .ok (.iaload, 1) := by decide +kernel
theorem dX12_known_35 : decode cX12_known 35 = .ok (.if_icmp .ge 61, 3) := by decide +kernel
theorem dX12_known_38 : decode cX12_known 38 = .ok (.iconst 0, 1) := by decide +kernel
theorem dX12_known_39 : decode cX12_known 39 = .ok (.istore 4, 2) := by decide +kernel
theorem dX12_known_41 : decode cX12_known 41 = .ok (.iload 4, 2) := by decide +kernel
theorem dX12_known_43 : decode cX12_known 43 = .ok (.iconst 1, 1) := by decide +kernel
theorem dX12_known_44 : decode cX12_known 44 = .ok (.iadd, 1) := by decide +kernel
theorem dX12_known_45 : decode cX12_known 45 = .ok (.aload_n 0, 1) := by decide +kernel
theorem dX12_known_46 : decode cX12_known 46 = .ok (.getfield 13, 3) := by decide +kernel
theorem dX12_known_49 : decode cX12_known 49 = .ok (.bipush 6, 2) := by decide +kernel
theorem dX12_known_51 : decode cX12_known 51 = .ok (.iaload, 1) := by decide +kernel
theorem dX12_known_52 : decode cX12_known 52 = .ok (.if_icmp .ge 38, 3) := by decide +kernel
theorem dX12_known_55 : decode cX12_known 55 = .ok (.aload_n 0, 1) := by decide +kernel
theorem dX12_known_56 : decode cX12_known 56 = .ok (.getfield 13, 3) := by decide +kernel
theorem dX12_known_59 : decode cX12_known 59 = .ok (.sipush 248, 3) := by decide +kernel
theorem dX12_known_62 : decode cX12_known 62 = .ok (.bipush 28, 2) := by decide +kernel
theorem dX12_known_64 : decode cX12_known 64 = .ok (.iload_n 1, 1) := by decide +kernel
theorem dX12_known_65 : decode cX12_known 65 = .ok (.imul, 1) := by decide +kernel
theorem dX12_known_66 : decode cX12_known 66 = .ok (.iadd, 1) := by decide +kernel
theorem dX12_known_67 : decode cX12_known 67 = .ok (.iload_n 2, 1) := by decide +kernel
theorem dX12_known_68 : decode cX12_known 68 = .ok (.iadd, 1) := by decide +kernel
theorem dX12_known_69 : decode cX12_known 69 = .ok (.iload_n 3, 1) := by decide +kernel
theorem dX12_known_70 : decode cX12_known 70 = .ok (.iconst 2, 1) := by decide +kernel
theorem dX12_known_71 : decode cX12_known 71 = .ok (.irem, 1) := by decide +kernel
theorem dX12_known_72 : decode cX12_known 72 = .ok (.ifCond .ne 7, 3) := by decide +kernel
theorem dX12_known_79 : decode cX12_known 79 = .ok (.iconst 2, 1) := by decide +kernel
theorem dX12_known_80 : decode cX12_known 80 = .ok (.iastore, 1) := by decide +kernel
theorem dX12_known_81 : decode cX12_known 81 = .ok (.iinc 2 1, 3) := by decide +kernel
theorem dX12_known_84 : decode cX12_known 84 = .ok (.iinc 4 1, 3) := by decide +kernel
theorem dX12_known_87 : decode cX12_known 87 = .ok (.goto (-46), 3) := by decide +kernel
theorem dX12_known_75 : decode cX12_known 75 = .ok (.iconst 1, 1) := by decide +kernel
theorem dX12_known_76 : decode cX12_known 76 = .ok (.goto 4, 3) := by decide +kernel
theorem dX12_known_90 : decode cX12_known 90 = .ok (.iinc 3 1, 3) := by decide +kernel
theorem dX12_known_93 : decode cX12_known 93 = .ok (.goto (-66), 3) := by decide +kernel
theorem dX12_known_96 : decode cX12_known 96 = .ok (.iconst 0, 1) := by decide +kernel
theorem dX12_known_97 : decode cX12_known 97 = .ok (.istore_n 3, 1) := by decide +kernel
theorem dX12_known_98 : decode cX12_known 98 = .ok (.iload_n 3, 1) := by decide +kernel
theorem dX12_known_99 : decode cX12_known 99 = .ok (.aload_n 0, 1) := by decide +kernel
theorem dX12_known_100 : decode cX12_known 100 = .ok (.getfield 13, 3) := by decide +kernel
theorem dX12_known_103 : decode cX12_known 103 = .ok (.bipush 6, 2) := by decide +kernel
theorem dX12_known_105 : decode cX12_known 105 = .ok (.iaload, 1) := by decide +kernel
theorem dX12_known_106 : decode cX12_known 106 = .ok (.if_icmp .ge 61, 3) := by decide +kernel
theorem dX12_known_109 : decode cX12_known 109 = .ok (.iconst 0, 1) := by decide +kernel
theorem dX12_known_110 : decode cX12_known 110 = .ok (.istore 4, 2) := by decide +kernel
theorem dX12_known_112 : decode cX12_known 112 = .ok (.iload 4, 2) := by decide +kernel
theorem dX12_known_114 : decode cX12_known 114 = .ok (.iconst 1, 1) := by decide +kernel
theorem dX12_known_115 : decode cX12_known 115 = .ok (.iadd, 1) := by decide +kernel
theorem dX12_known_116 : decode cX12_known 116 = .ok (.aload_n 0, 1) := by decide +kernel
theorem dX12_known_117 : decode cX12_known 117 = .ok (.getfield 13, 3) := by decide +kernel
theorem dX12_known_120 : decode cX12_known 120 = .ok (.bipush 7, 2) := by decide +kernel
theorem dX12_known_122 : decode cX12_known 122 = .ok (.iaload, 1) := by decide +kernel
theorem dX12_known_123 : decode cX12_known 123 = .ok (.if_icmp .ge 38, 3) := by decide +kernel
theorem dX12_known_126 : decode cX12_known 126 = .ok (.aload_n 0, 1) := by decide +kernel
theorem dX12_known_127 : decode cX12_known 127 = .ok (.getfield 13, 3) := by decide +kernel
theorem dX12_known_130 : decode cX12_known 130 = .ok (.sipush 248, 3) := by decide +kernel
theorem dX12_known_133 : decode cX12_known 133 = .ok (.bipush 28, 2) := by decide +kernel
theorem dX12_known_135 : decode cX12_known 135 = .ok (.iload_n 1, 1) := by decide +kernel
theorem dX12_known_136 : decode cX12_known 136 = .ok (.imul, 1) := by decide +kernel
theorem dX12_known_137 : decode cX12_known 137 = .ok (.iadd, 1) := by decide +kernel
theorem dX12_known_138 : decode cX12_known 138 = .ok (.iload_n 2, 1) := by decide +kernel
theorem dX12_known_139 : decode cX12_known 139 = .ok (.iadd, 1) := by decide +kernel
theorem dX12_known_140 : decode cX12_known 140 = .ok (.iload_n 3, 1) := by decide +kernel
theorem dX12_known_141 : decode cX12_known 141 = .ok (.iconst 2, 1) := by decide +kernel
theorem dX12_known_142 : decode cX12_known 142 = .ok (.irem, 1) := by decide +kernel
theorem dX12_known_143 : decode cX12_known 143 = .ok (.ifCond .ne 7, 3) := by decide +kernel
theorem dX12_known_150 : decode cX12_known 150 = .ok (.iconst 2, 1) := by decide +kernel
theorem dX12_known_151 : decode cX12_known 151 = .ok (.iastore, 1) := by decide +kernel
theorem dX12_known_152 : decode cX12_known 152 = .ok (.iinc 2 1, 3) := by decide +kernel
theorem dX12_known_155 : decode cX12_known 155 = .ok (.iinc 4 1, 3) := by decide +kernel
theorem dX12_known_158 : decode cX12_known 158 = .ok (.goto (-46), 3) := by decide +kernel
theorem dX12_known_146 : decode cX12_known 146 = .ok (.iconst 1, 1) := by decide +kernel
theorem dX12_known_147 : decode cX12_known 147 = .ok (.goto 4, 3) := by decide +kernel
theorem dX12_known_161 : decode cX12_known 161 = .ok (.iinc 3 1, 3) := by decide +kernel
theorem dX12_known_164 : decode cX12_known 164 = .ok (.goto (-66), 3) := by decide +kernel
theorem dX12_known_167 : decode cX12_known 167 = .ok (.iload_n 2, 1) := by decide +kernel
theorem dX12_known_168 : decode cX12_known 168 = .ok (.ireturn, 1) := by decide +kernel
theorem dX12_known_20 : decode cX12_known 20 = .ok (.bipush (-6), 2) := by decide +kernel
theorem dX12_known_22 : decode cX12_known 22 = .ok (.ireturn, 1) := by decide +kernel
theorem dX12_ring_0 : decode cX12_ring 0 = .ok (.iload_n 1, 1) := by decide +kernel
theorem dX12_ring_1 : decode cX12_ring 1 = .ok (.invokestatic 239, 3) := by decide +kernel
theorem dX12_ring_4 : decode cX12_ring 4 = .ok (.ifCond .eq 11, 3) := by decide +kernel
theorem dX12_ring_15 : decode cX12_ring 15 = .ok (.bipush (-2), 2) := by decide +kernel
theorem dX12_ring_17 : decode cX12_ring 17 = .ok (.ireturn, 1) := by decide +kernel
theorem dX12_ring_7 : decode cX12_ring 7 = .ok (.aload_n 0, 1) := by decide +kernel
theorem dX12_ring_8 : decode cX12_ring 8 = .ok (.iload_n 2, 1) := by decide +kernel
theorem dX12_ring_9 : decode cX12_ring 9 = .ok (.invokevirtual 243, 3) := by decide +kernel
theorem dX12_ring_12 : decode cX12_ring 12 = .ok (.ifCond .ne 6, 3) := by decide +kernel
theorem dX12_ring_18 : decode cX12_ring 18 = .ok (.aload_n 0, 1) := by decide +kernel
theorem dX12_ring_19 : decode cX12_ring 19 = .ok (.iload_n 1, 1) := by decide +kernel
theorem dX12_ring_20 : decode cX12_ring 20 = .ok (.invokevirtual 271, 3) := by decide +kernel
theorem dX12_ring_23 : decode cX12_ring 23 = .ok (.aload_n 0, 1) := by decide +kernel
theorem dX12_ring_24 : decode cX12_ring 24 = .ok (.invokevirtual 264, 3) := by decide +kernel
theorem dX12_ring_27 : decode cX12_ring 27 = .ok (.aload_n 0, 1) := by decide +kernel
theorem dX12_ring_28 : decode cX12_ring 28 = .ok (.iload_n 2, 1) := by decide +kernel
theorem dX12_ring_29 : decode cX12_ring 29 = .ok (.invokevirtual 338, 3) := by decide +kernel
theorem dX12_ring_32 : decode cX12_ring 32 = .ok (.ireturn, 1) := by decide +kernel
theorem dX12_ended_0 : decode cX12_ended 0 = .ok (.iload_n 1, 1) := by decide +kernel
theorem dX12_ended_1 : decode cX12_ended 1 = .ok (.invokestatic 239, 3) := by decide +kernel
theorem dX12_ended_4 : decode cX12_ended 4 = .ok (.ifCond .ne 6, 3) := by decide +kernel
theorem dX12_ended_7 : decode cX12_ended 7 = .ok (.bipush (-2), 2) := by decide +kernel
theorem dX12_ended_9 : decode cX12_ended 9 = .ok (.ireturn, 1) := by decide +kernel
theorem dX12_ended_10 : decode cX12_ended 10 = .ok (.aload_n 0, 1) := by decide +kernel
theorem dX12_ended_11 : decode cX12_ended 11 = .ok (.iload_n 1, 1) := by decide +kernel
theorem dX12_ended_12 : decode cX12_ended 12 = .ok (.invokevirtual 271, 3) := by decide +kernel
theorem dX12_ended_15 : decode cX12_ended 15 = .ok (.aload_n 0, 1) := by decide +kernel
theorem dX12_ended_16 : decode cX12_ended 16 = .ok (.invokevirtual 341, 3) := by decide +kernel
theorem dX12_ended_19 : decode cX12_ended 19 = .ok (.ifCond .ne 6, 3) := by decide +kernel
theorem dX12_ended_25 : decode cX12_ended 25 = .ok (.aload_n 0, 1) := by decide +kernel
theorem dX12_ended_26 : decode cX12_ended 26 = .ok (.aload_n 0, 1) := by decide +kernel
theorem dX12_ended_27 : decode cX12_ended 27 = .ok (.getfield 46, 3) := by decide +kernel
theorem dX12_ended_30 : decode cX12_ended 30 = .ok (.iconst 1, 1) := by decide +kernel
theorem dX12_ended_31 : decode cX12_ended 31 = .ok (.invokevirtual 260, 3) := by decide +kernel
theorem dX12_ended_34 : decode cX12_ended 34 = .ok (.aload_n 0, 1) := by decide +kernel
theorem dX12_ended_35 : decode cX12_ended 35 = .ok (.aload_n 0, 1) := by decide +kernel
theorem dX12_ended_36 : decode cX12_ended 36 = .ok (.invokevirtual 314, 3) := by decide +kernel
theorem dX12_ended_39 : decode cX12_ended 39 = .ok (.invokevirtual 344, 3) := by decide +kernel
theorem dX12_ended_42 : decode cX12_ended 42 = .ok (.ifCond .eq 7, 3) := by decide +kernel
theorem dX12_ended_49 : decode cX12_ended 49 = .ok (.iconst 1, 1) := by decide +kernel
theorem dX12_ended_50 : decode cX12_ended 50 = .ok (.ireturn, 1) := by decide +kernel
theorem dX12_ended_45 : decode cX12_ended 45 = .ok (.iconst 0, 1) := by decide +kernel
theorem dX12_ended_46 : decode cX12_ended 46 = .ok (.goto 4, 3) := by decide +kernel
theorem dX12_ended_22 : decode cX12_ended 22 = .ok (.bipush (-5), 2) := by decide +kernel
theorem dX12_ended_24 : decode cX12_ended 24 = .ok (.ireturn, 1) := by decide +kernel
theorem dX12_pair_0 : decode cX12_pair 0 = .ok (.iload_n 1, 1) := by decide +kernel
theorem dX12_pair_1 : decode cX12_pair 1 = .ok (.invokestatic 239, 3) := by decide +kernel
theorem dX12_pair_4 : decode cX12_pair 4 = .ok (.ifCond .ne 6, 3) := by decide +kernel
theorem dX12_pair_7 : decode cX12_pair 7 = .ok (.bipush (-2), 2) := by decide +kernel
theorem dX12_pair_9 : decode cX12_pair 9 = .ok (.ireturn, 1) := by decide +kernel
theorem dX12_pair_10 : decode cX12_pair 10 = .ok (.aload_n 0, 1) := by decide +kernel
theorem dX12_pair_11 : decode cX12_pair 11 = .ok (.iload_n 1, 1) := by decide +kernel
theorem dX12_pair_12 : decode cX12_pair 12 = .ok (.invokevirtual 271, 3) := by decide +kernel
theorem dX12_pair_15 : decode cX12_pair 15 = .ok (.aload_n 0, 1) := by decide +kernel
theorem dX12_pair_16 : decode cX12_pair 16 = .ok (.invokevirtual 274, 3) := by decide +kernel
theorem dX12_pair_19 : decode cX12_pair 19 = .ok (.ifCond .ne 5, 3) := by decide +kernel
theorem dX12_pair_24 : decode cX12_pair 24 = .ok (.aload_n 0, 1) := by decide +kernel
theorem dX12_pair_25 : decode cX12_pair 25 = .ok (.aload_n 0, 1) := by decide +kernel
theorem dX12_pair_26 : decode cX12_pair 26 = .ok (.getfield 46, 3) := by decide +kernel
theorem dX12_pair_29 : decode cX12_pair 29 = .ok (.iconst 1, 1) := by decide +kernel
theorem dX12_pair_30 : decode cX12_pair 30 = .ok (.invokevirtual 260, 3) := by decide +kernel
theorem dX12_pair_33 : decode cX12_pair 33 = .ok (.iconst (-1), 1) := by decide +kernel
theorem dX12_pair_34 : decode cX12_pair 34 = .ok (.istore_n 2, 1) := by decide +kernel
theorem dX12_pair_35 : decode cX12_pair 35 = .ok (.iconst 0, 1) := by decide +kernel
theorem dX12_pair_36 : decode cX12_pair 36 = .ok (.istore_n 3, 1) := by decide +kernel
theorem dX12_pair_37 : decode cX12_pair 37 = .ok (.iload_n 3, 1) := by decide +kernel
theorem dX12_pair_38 : decode cX12_pair 38 = .ok (.aload_n 0, 1) := by decide +kernel
theorem dX12_pair_39 : decode cX12_pair 39 = .ok (.invokevirtual 106, 3) := by decide +kernel
theorem dX12_pair_42 : decode cX12_pair 42 = .ok (.if_icmp .ge 70, 3) := by decide +kernel
theorem dX12_pair_45 : decode cX12_pair 45 = .ok (.iconst 0, 1) := by decide +kernel
theorem dX12_pair_46 : decode cX12_pair 46 = .ok (.istore 4, 2) := by decide +kernel
theorem dX12_pair_48 : decode cX12_pair 48 = .ok (.iload 4, 2) := by decide +kernel
theorem dX12_pair_50 : decode cX12_pair 50 = .ok (.aload_n 0, 1) := by decide +kernel
theorem dX12_pair_51 : decode cX12_pair 51 = .ok (.invokevirtual 106, 3) := by decide +kernel
theorem dX12_pair_54 : decode cX12_pair 54 = .ok (.if_icmp .ge 52, 3) := by decide +kernel
theorem dX12_pair_57 : decode cX12_pair 57 = .ok (.iload_n 3, 1) := by decide +kernel
theorem dX12_pair_58 : decode cX12_pair 58 = .ok (.iload 4, 2) := by decide +kernel
theorem dX12_pair_60 : decode cX12_pair 60 = .ok (.if_icmp .eq 40, 3) := by decide +kernel
theorem dX12_pair_100 : decode cX12_pair 100 = .ok (.iinc 4 1, 3) := by decide +kernel
theorem dX12_pair_103 : decode cX12_pair 103 = .ok (.goto (-55), 3) := by decide +kernel
theorem dX12_pair_63 : decode cX12_pair 63 = .ok (.aload_n 0, 1) := by decide +kernel
theorem dX12_pair_64 : decode cX12_pair 64 = .ok (.iload_n 3, 1) := by decide +kernel
theorem dX12_pair_65 : decode cX12_pair 65 = .ok (.iload 4, 2) := by decide +kernel
theorem dX12_pair_67 : decode cX12_pair 67 = .ok (.invokevirtual 298, 3) := by decide +kernel
theorem dX12_pair_70 : decode cX12_pair 70 = .ok (.iload_n 2, 1) := by decide +kernel
theorem dX12_pair_71 : decode cX12_pair 71 = .ok (.if_icmp .gt 6, 3) := by decide +kernel
theorem dX12_pair_77 : decode cX12_pair 77 = .ok (.aload_n 0, 1) := by decide +kernel
theorem dX12_pair_78 : decode cX12_pair 78 = .ok (.iload_n 3, 1) := by decide +kernel
theorem dX12_pair_79 : decode cX12_pair 79 = .ok (.iload 4, 2) := by decide +kernel
theorem dX12_pair_81 : decode cX12_pair 81 = .ok (.invokevirtual 298, 3) := by decide +kernel
theorem dX12_pair_84 : decode cX12_pair 84 = .ok (.istore_n 2, 1) := by decide +kernel
theorem dX12_pair_85 : decode cX12_pair 85 = .ok (.aload_n 0, 1) := by decide +kernel
theorem dX12_pair_86 : decode cX12_pair 86 = .ok (.getfield 61, 3) := by decide +kernel
theorem dX12_pair_89 : decode cX12_pair 89 = .ok (.iconst 0, 1) := by decide +kernel
theorem dX12_pair_90 : decode cX12_pair 90 = .ok (.iload_n 3, 1) := by decide +kernel
theorem dX12_pair_91 : decode cX12_pair 91 = .ok (.iastore, 1) := by decide +kernel
theorem dX12_pair_92 : decode cX12_pair 92 = .ok (.aload_n 0, 1) := by decide +kernel
theorem dX12_pair_93 : decode cX12_pair 93 = .ok (.getfield 61, 3) := by decide +kernel
theorem dX12_pair_96 : decode cX12_pair 96 = .ok (.iconst 1, 1) := by decide +kernel
theorem dX12_pair_97 : decode cX12_pair 97 = .ok (.iload 4, 2) := by decide +kernel
theorem dX12_pair_99 : decode cX12_pair 99 = .ok (.iastore, 1) := by decide +kernel
theorem dX12_pair_74 : decode cX12_pair 74 = .ok (.goto 26, 3) := by decide +kernel
theorem dX12_pair_106 : decode cX12_pair 106 = .ok (.iinc 3 1, 3) := by decide +kernel
theorem dX12_pair_109 : decode cX12_pair 109 = .ok (.goto (-72), 3) := by decide +kernel
theorem dX12_pair_112 : decode cX12_pair 112 = .ok (.aload_n 0, 1) := by decide +kernel
theorem dX12_pair_113 : decode cX12_pair 113 = .ok (.iconst 1, 1) := by decide +kernel
theorem dX12_pair_114 : decode cX12_pair 114 = .ok (.putfield 347, 3) := by decide +kernel
theorem dX12_pair_117 : decode cX12_pair 117 = .ok (.iload_n 2, 1) := by decide +kernel
theorem dX12_pair_118 : decode cX12_pair 118 = .ok (.ireturn, 1) := by decide +kernel
theorem dX12_pair_22 : decode cX12_pair 22 = .ok (.iconst (-1), 1) := by decide +kernel
theorem dX12_pair_23 : decode cX12_pair 23 = .ok (.ireturn, 1) := by decide +kernel
theorem dX12_paired_0 : decode cX12_paired 0 = .ok (.aload_n 0, 1) := by decide +kernel
theorem dX12_paired_1 : decode cX12_paired 1 = .ok (.getfield 347, 3) := by decide +kernel
theorem dX12_paired_4 : decode cX12_paired 4 = .ok (.ifCond .eq 22, 3) := by decide +kernel
theorem dX12_paired_26 : decode cX12_paired 26 = .ok (.iconst (-1), 1) := by decide +kernel
theorem dX12_paired_27 : decode cX12_paired 27 = .ok (.ireturn, 1) := by decide +kernel
theorem dX12_paired_7 : decode cX12_paired 7 = .ok (.iload_n 1, 1) := by decide +kernel
theorem dX12_paired_8 : decode cX12_paired 8 = .ok (.i2l, 1) := by decide +kernel
theorem dX12_paired_9 : decode cX12_paired 9 = .ok (.lconst 0, 1) := by decide +kernel
theorem dX12_paired_10 : decode cX12_paired 10 = .ok (.lconst 1, 1) := by decide +kernel
theorem dX12_paired_11 : decode cX12_paired 11 = .ok (.invokestatic 98, 3) := by decide +kernel
theorem dX12_paired_14 : decode cX12_paired 14 = .ok (.ifCond .eq 12, 3) := by decide +kernel
theorem dX12_paired_17 : decode cX12_paired 17 = .ok (.aload_n 0, 1) := by decide +kernel
theorem dX12_paired_18 : decode cX12_paired 18 = .ok (.getfield 61, 3) := by decide +kernel
theorem dX12_paired_21 : decode cX12_paired 21 = .ok (.iload_n 1, 1) := by decide +kernel
theorem dX12_paired_22 : decode cX12_paired 22 = .ok (.iaload, 1) := by decide +kernel
theorem dX12_paired_23 : decode cX12_paired 23 = .ok (.goto 4, 3) := by decide +kernel
theorem dX12_total_0 : decode cX12_total 0 = .ok (.iload_n 1, 1) := by decide +kernel
theorem dX12_total_1 : decode cX12_total 1 = .ok (.invokestatic 239, 3) := by decide +kernel
theorem dX12_total_4 : decode cX12_total 4 = .ok (.ifCond .eq 13, 3) := by decide +kernel
theorem dX12_total_17 : decode cX12_total 17 = .ok (.bipush (-2), 2) := by decide +kernel
theorem dX12_total_19 : decode cX12_total 19 = .ok (.ireturn, 1) := by decide +kernel
theorem dX12_total_7 : decode cX12_total 7 = .ok (.iload_n 2, 1) := by decide +kernel
theorem dX12_total_8 : decode cX12_total 8 = .ok (.i2l, 1) := by decide +kernel
theorem dX12_total_9 : decode cX12_total 9 = .ok (.lconst 0, 1) := by decide +kernel
theorem dX12_total_10 : decode cX12_total 10 = .ok (.lconst 1, 1) := by decide +kernel
theorem dX12_total_11 : decode cX12_total 11 = .ok (.invokestatic 98, 3) := by decide +kernel
theorem dX12_total_14 : decode cX12_total 14 = .ok (.ifCond .ne 6, 3) := by decide +kernel
theorem dX12_total_20 : decode cX12_total 20 = .ok (.aload_n 0, 1) := by decide +kernel
theorem dX12_total_21 : decode cX12_total 21 = .ok (.iload_n 1, 1) := by decide +kernel
theorem dX12_total_22 : decode cX12_total 22 = .ok (.invokevirtual 271, 3) := by decide +kernel
theorem dX12_total_25 : decode cX12_total 25 = .ok (.aload_n 0, 1) := by decide +kernel
theorem dX12_total_26 : decode cX12_total 26 = .ok (.invokevirtual 274, 3) := by decide +kernel
theorem dX12_total_29 : decode cX12_total 29 = .ok (.ifCond .ne 5, 3) := by decide +kernel
theorem dX12_total_34 : decode cX12_total 34 = .ok (.iconst 0, 1) := by decide +kernel
theorem dX12_total_35 : decode cX12_total 35 = .ok (.istore_n 3, 1) := by decide +kernel
theorem dX12_total_36 : decode cX12_total 36 = .ok (.iconst 0, 1) := by decide +kernel
theorem dX12_total_37 : decode cX12_total 37 = .ok (.istore 4, 2) := by decide +kernel
theorem dX12_total_39 : decode cX12_total 39 = .ok (.iconst 0, 1) := by decide +kernel
theorem dX12_total_40 : decode cX12_total 40 = .ok (.istore 5, 2) := by decide +kernel
theorem dX12_total_42 : decode cX12_total 42 = .ok (.iload 5, 2) := by decide +kernel
theorem dX12_total_44 : decode cX12_total 44 = .ok (.aload_n 0, 1) := by decide +kernel
theorem dX12_total_45 : decode cX12_total 45 = .ok (.invokevirtual 106, 3) := by decide +kernel
theorem dX12_total_48 : decode cX12_total 48 = .ok (.if_icmp .ge 63, 3) := by decide +kernel
theorem dX12_total_51 : decode cX12_total 51 = .ok (.iconst 0, 1) := by decide +kernel
theorem dX12_total_52 : decode cX12_total 52 = .ok (.istore 6, 2) := by decide +kernel
theorem dX12_total_54 : decode cX12_total 54 = .ok (.iload 6, 2) := by decide +kernel
theorem dX12_total_56 : decode cX12_total 56 = .ok (.aload_n 0, 1) := by decide +kernel
theorem dX12_total_57 : decode cX12_total 57 = .ok (.invokevirtual 106, 3) := by decide +kernel
theorem dX12_total_60 : decode cX12_total 60 = .ok (.if_icmp .ge 45, 3) := by decide +kernel
theorem dX12_total_63 : decode cX12_total 63 = .ok (.iload_n 3, 1) := by decide +kernel
theorem dX12_total_64 : decode cX12_total 64 = .ok (.aload_n 0, 1) := by decide +kernel
theorem dX12_total_65 : decode cX12_total 65 = .ok (.getfield 43, 3) := by decide +kernel
theorem dX12_total_68 : decode cX12_total 68 = .ok (.bipush 16, 2) := by decide +kernel
theorem dX12_total_70 : decode cX12_total 70 = .ok (.iload 5, 2) := by decide +kernel
theorem dX12_total_72 : decode cX12_total 72 = .ok (.imul, 1) := by decide +kernel
theorem dX12_total_73 : decode cX12_total 73 = .ok (.iload 6, 2) := by decide +kernel
theorem dX12_total_75 : decode cX12_total 75 = .ok (.iadd, 1) := by decide +kernel
theorem dX12_total_76 : decode cX12_total 76 = .ok (.iaload, 1) := by decide +kernel
theorem dX12_total_77 : decode cX12_total 77 = .ok (.iadd, 1) := by decide +kernel
theorem dX12_total_78 : decode cX12_total 78 = .ok (.istore_n 3, 1) := by decide +kernel
theorem dX12_total_79 : decode cX12_total 79 = .ok (.iload 4, 2) := by decide +kernel
theorem dX12_total_81 : decode cX12_total 81 = .ok (.aload_n 0, 1) := by decide +kernel
theorem dX12_total_82 : decode cX12_total 82 = .ok (.getfield 43, 3) := by decide +kernel
theorem dX12_total_85 : decode cX12_total 85 = .ok (.bipush 16, 2) := by decide +kernel
theorem dX12_total_87 : decode cX12_total 87 = .ok (.iload 5, 2) := by decide +kernel
theorem dX12_total_89 : decode cX12_total 89 = .ok (.imul, 1) := by decide +kernel
theorem dX12_total_90 : decode cX12_total 90 = .ok (.iload 6, 2) := by decide +kernel
theorem dX12_total_92 : decode cX12_total 92 = .ok (.iadd, 1) := by decide +kernel
theorem dX12_total_93 : decode cX12_total 93 = .ok (.iaload, 1) := by decide +kernel
theorem dX12_total_94 : decode cX12_total 94 = .ok (.invokestatic 307, 3) := by decide +kernel
theorem dX12_total_97 : decode cX12_total 97 = .ok (.istore 4, 2) := by decide +kernel
theorem dX12_total_99 : decode cX12_total 99 = .ok (.iinc 6 1, 3) := by decide +kernel
theorem dX12_total_102 : decode cX12_total 102 = .ok (.goto (-48), 3) := by decide +kernel
theorem dX12_total_105 : decode cX12_total 105 = .ok (.iinc 5 1, 3) := by decide +kernel
theorem dX12_total_108 : decode cX12_total 108 = .ok (.goto (-66), 3) := by decide +kernel
theorem dX12_total_111 : decode cX12_total 111 = .ok (.iload_n 2, 1) := by decide +kernel
theorem dX12_total_112 : decode cX12_total 112 = .ok (.ifCond .ne 7, 3) := by decide +kernel
theorem dX12_total_119 : decode cX12_total 119 = .ok (.iload 4, 2) := by decide +kernel
theorem dX12_total_121 : decode cX12_total 121 = .ok (.ireturn, 1) := by decide +kernel
theorem dX12_total_115 : decode cX12_total 115 = .ok (.iload_n 3, 1) := by decide +kernel
theorem dX12_total_116 : decode cX12_total 116 = .ok (.goto 5, 3) := by decide +kernel
theorem dX12_total_32 : decode cX12_total 32 = .ok (.iconst (-1), 1) := by decide +kernel
theorem dX12_total_33 : decode cX12_total 33 = .ok (.ireturn, 1) := by decide +kernel
theorem dX12_buys_0 : decode cX12_buys 0 = .ok (.aload_n 0, 1) := by decide +kernel
theorem dX12_buys_1 : decode cX12_buys 1 = .ok (.iconst 0, 1) := by decide +kernel
theorem dX12_buys_2 : decode cX12_buys 2 = .ok (.putfield 351, 3) := by decide +kernel
theorem dX12_buys_5 : decode cX12_buys 5 = .ok (.iconst 0, 1) := by decide +kernel
theorem dX12_buys_6 : decode cX12_buys 6 = .ok (.istore_n 1, 1) := by decide +kernel
theorem dX12_buys_7 : decode cX12_buys 7 = .ok (.iload_n 1, 1) := by decide +kernel
theorem dX12_buys_8 : decode cX12_buys 8 = .ok (.aload_n 0, 1) := by decide +kernel
theorem dX12_buys_9 : decode cX12_buys 9 = .ok (.invokevirtual 102, 3) := by decide +kernel
theorem dX12_buys_12 : decode cX12_buys 12 = .ok (.if_icmp .ge 59, 3) := by decide +kernel
theorem dX12_buys_15 : decode cX12_buys 15 = .ok (.aload_n 0, 1) := by decide +kernel
theorem dX12_buys_16 : decode cX12_buys 16 = .ok (.getfield 351, 3) := by decide +kernel
theorem dX12_buys_19 : decode cX12_buys 19 = .ok (.bipush 9, 2) := by decide +kernel
theorem dX12_buys_21 : decode cX12_buys 21 = .ok (.if_icmp .ge 50, 3) := by decide +kernel
theorem dX12_buys_24 : decode cX12_buys 24 = .ok (.aload_n 0, 1) := by decide +kernel
theorem dX12_buys_25 : decode cX12_buys 25 = .ok (.iload_n 1, 1) := by decide +kernel
theorem dX12_buys_26 : decode cX12_buys 26 = .ok (.invokevirtual 329, 3) := by decide +kernel
theorem dX12_buys_29 : decode cX12_buys 29 = .ok (.ifCond .eq 36, 3) := by decide +kernel
theorem dX12_buys_65 : decode cX12_buys 65 = .ok (.iinc 1 1, 3) := by decide +kernel
theorem dX12_buys_68 : decode cX12_buys 68 = .ok (.goto (-61), 3) := by decide +kernel
theorem dX12_buys_32 : decode cX12_buys 32 = .ok (.aload_n 0, 1) := by decide +kernel
theorem dX12_buys_33 : decode cX12_buys 33 = .ok (.iload_n 1, 1) := by decide +kernel
theorem dX12_buys_34 : decode cX12_buys 34 = .ok (.iconst 3, 1) := by decide +kernel
theorem dX12_buys_35 : decode cX12_buys 35 = .ok (.invokevirtual 230, 3) := by decide +kernel
theorem dX12_buys_38 : decode cX12_buys 38 = .ok (.iconst (-1), 1) := by decide +kernel
theorem dX12_buys_39 : decode cX12_buys 39 = .ok (.if_icmp .ne 6, 3) := by decide +kernel
theorem dX12_buys_45 : decode cX12_buys 45 = .ok (.aload_n 0, 1) := by decide +kernel
theorem dX12_buys_46 : decode cX12_buys 46 = .ok (.getfield 64, 3) := by decide +kernel
theorem dX12_buys_49 : decode cX12_buys 49 = .ok (.aload_n 0, 1) := by decide +kernel
theorem dX12_buys_50 : decode cX12_buys 50 = .ok (.getfield 351, 3) := by decide +kernel
theorem dX12_buys_53 : decode cX12_buys 53 = .ok (.iload_n 1, 1) := by decide +kernel
theorem dX12_buys_54 : decode cX12_buys 54 = .ok (.iastore, 1) := by decide +kernel
theorem dX12_buys_55 : decode cX12_buys 55 = .ok (.aload_n 0, 1) := by decide +kernel
theorem dX12_buys_56 : decode cX12_buys 56 = .ok (.dup, 1) := by decide +kernel
theorem dX12_buys_57 : decode cX12_buys 57 = .ok (.getfield 351, 3) := by decide +kernel
theorem dX12_buys_60 : decode cX12_buys 60 = .ok (.iconst 1, 1) := by decide +kernel
theorem dX12_buys_61 : decode cX12_buys 61 = .ok (.iadd, 1) := by decide +kernel
theorem dX12_buys_62 : decode cX12_buys 62 = .ok (.putfield 351, 3) := by decide +kernel
theorem dX12_buys_42 : decode cX12_buys 42 = .ok (.goto 23, 3) := by decide +kernel
theorem dX12_buys_71 : decode cX12_buys 71 = .ok (.iconst 0, 1) := by decide +kernel
theorem dX12_buys_72 : decode cX12_buys 72 = .ok (.istore_n 1, 1) := by decide +kernel
theorem dX12_buys_73 : decode cX12_buys 73 = .ok (.iload_n 1, 1) := by decide +kernel
theorem dX12_buys_74 : decode cX12_buys 74 = .ok (.aload_n 0, 1) := by decide +kernel
theorem dX12_buys_75 : decode cX12_buys 75 = .ok (.invokevirtual 102, 3) := by decide +kernel
theorem dX12_buys_78 : decode cX12_buys 78 = .ok (.if_icmp .ge 21, 3) := by decide +kernel
theorem dX12_buys_81 : decode cX12_buys 81 = .ok (.aload_n 0, 1) := by decide +kernel
theorem dX12_buys_82 : decode cX12_buys 82 = .ok (.getfield 55, 3) := by decide +kernel
theorem dX12_buys_85 : decode cX12_buys 85 = .ok (.iload_n 1, 1) := by decide +kernel
theorem dX12_buys_86 : decode cX12_buys 86 = .ok (.aload_n 0, 1) := by decide +kernel
theorem dX12_buys_87 : decode cX12_buys 87 = .ok (.getfield 40, 3) := by decide +kernel
theorem dX12_buys_90 : decode cX12_buys 90 = .ok (.iload_n 1, 1) := by decide +kernel
theorem dX12_buys_91 : decode cX12_buys 91 = .ok (.iaload, 1) := by decide +kernel
theorem dX12_buys_92 : decode cX12_buys 92 = .ok (.iastore, 1) := by decide +kernel
theorem dX12_buys_93 : decode cX12_buys 93 = .ok (.iinc 1 1, 3) := by decide +kernel
theorem dX12_buys_96 : decode cX12_buys 96 = .ok (.goto (-23), 3) := by decide +kernel
theorem dX12_buys_99 : decode cX12_buys 99 = .ok (.iconst 0, 1) := by decide +kernel
theorem dX12_buys_100 : decode cX12_buys 100 = .ok (.istore_n 1, 1) := by decide +kernel
theorem dX12_buys_101 : decode cX12_buys 101 = .ok (.iload_n 1, 1) := by decide +kernel
theorem dX12_buys_102 : decode cX12_buys 102 = .ok (.iconst 1, 1) := by decide +kernel
theorem dX12_buys_103 : decode cX12_buys 103 = .ok (.aload_n 0, 1) := by decide +kernel
theorem dX12_buys_104 : decode cX12_buys 104 = .ok (.getfield 351, 3) := by decide +kernel
theorem dX12_buys_107 : decode cX12_buys 107 = .ok (.ishl, 1) := by decide +kernel
theorem dX12_buys_108 : decode cX12_buys 108 = .ok (.if_icmp .ge 115, 3) := by decide +kernel
theorem dX12_buys_111 : decode cX12_buys 111 = .ok (.aload_n 0, 1) := by decide +kernel
theorem dX12_buys_112 : decode cX12_buys 112 = .ok (.getfield 67, 3) := by decide +kernel
theorem dX12_buys_115 : decode cX12_buys 115 = .ok (.iload_n 1, 1) := by decide +kernel
theorem dX12_buys_116 : decode cX12_buys 116 = .ok (.iconst 0, 1) := by decide +kernel
theorem dX12_buys_117 : decode cX12_buys 117 = .ok (.iastore, 1) := by decide +kernel
theorem dX12_buys_118 : decode cX12_buys 118 = .ok (.iconst 0, 1) := by decide +kernel
theorem dX12_buys_119 : decode cX12_buys 119 = .ok (.istore_n 2, 1) := by decide +kernel
theorem dX12_buys_120 : decode cX12_buys 120 = .ok (.iload_n 2, 1) := by decide +kernel
theorem dX12_buys_121 : decode cX12_buys 121 = .ok (.aload_n 0, 1) := by decide +kernel
theorem dX12_buys_122 : decode cX12_buys 122 = .ok (.getfield 351, 3) := by decide +kernel
theorem dX12_buys_125 : decode cX12_buys 125 = .ok (.if_icmp .ge 82, 3) := by decide +kernel
theorem dX12_buys_142 : decode cX12_buys 142 = .ok (.istore_n 3, 1) := by decide +kernel
theorem dX12_buys_173 : decode cX12_buys 173 = .ok (.aload_n 0, 1) := by decide +kernel
theorem dX12_buys_174 : decode cX12_buys 174 = .ok (.getfield 67, 3) := by decide +kernel
theorem dX12_buys_177 : decode cX12_buys 177 = .ok (.iload_n 1, 1) := by decide +kernel
theorem dX12_buys_178 : decode cX12_buys 178 = .ok (.dup2, 1) := by decide +kernel
theorem dX12_buys_179 : decode cX12_buys 179 = .ok (.iaload, 1) := by decide +kernel
theorem dX12_buys_180 : decode cX12_buys 180 = .ok (.iload_n 3, 1) := by decide +kernel
theorem dX12_buys_181 : decode cX12_buys 181 = .ok (.ifCond .eq 17, 3) := by decide +kernel
theorem dX12_buys_198 : decode cX12_buys 198 = .ok (.iconst 0, 1) := by decide +kernel
theorem dX12_buys_199 : decode cX12_buys 199 = .ok (.iadd, 1) := by decide +kernel
theorem dX12_buys_200 : decode cX12_buys 200 = .ok (.iastore, 1) := by decide +kernel
theorem dX12_buys_201 : decode cX12_buys 201 = .ok (.iinc 2 1, 3) := by decide +kernel
theorem dX12_buys_204 : decode cX12_buys 204 = .ok (.goto (-84), 3) := by decide +kernel
theorem dX12_buys_184 : decode cX12_buys 184 = .ok (.aload_n 0, 1) := by decide +kernel
theorem dX12_buys_185 : decode cX12_buys 185 = .ok (.aload_n 0, 1) := by decide +kernel
theorem dX12_buys_186 : decode cX12_buys 186 = .ok (.getfield 64, 3) := by decide +kernel
theorem dX12_buys_189 : decode cX12_buys 189 = .ok (.iload_n 2, 1) := by decide +kernel
theorem dX12_buys_190 : decode cX12_buys 190 = .ok (.iaload, 1) := by decide +kernel
theorem dX12_buys_191 : decode cX12_buys 191 = .ok (.iconst 3, 1) := by decide +kernel
theorem dX12_buys_192 : decode cX12_buys 192 = .ok (.invokevirtual 230, 3) := by decide +kernel
theorem dX12_buys_195 : decode cX12_buys 195 = .ok (.goto 4, 3) := by decide +kernel
theorem dX12_buys_143 : decode cX12_buys 143 = .ok (.aload_n 0, 1) := by decide +kernel
theorem dX12_buys_144 : decode cX12_buys 144 = .ok (.getfield 40, 3) := by decide +kernel
theorem dX12_buys_147 : decode cX12_buys 147 = .ok (.aload_n 0, 1) := by decide +kernel
theorem dX12_buys_148 : decode cX12_buys 148 = .ok (.getfield 64, 3) := by decide +kernel
theorem dX12_buys_151 : decode cX12_buys 151 = .ok (.iload_n 2, 1) := by decide +kernel
theorem dX12_buys_152 : decode cX12_buys 152 = .ok (.iaload, 1) := by decide +kernel
theorem dX12_buys_153 : decode cX12_buys 153 = .ok (.iload_n 3, 1) := by decide +kernel
theorem dX12_buys_154 : decode cX12_buys 154 = .ok (.ifCond .eq 7, 3) := by decide +kernel
theorem dX12_buys_161 : decode cX12_buys 161 = .ok (.aload_n 0, 1) := by decide +kernel
theorem dX12_buys_162 : decode cX12_buys 162 = .ok (.getfield 55, 3) := by decide +kernel
theorem dX12_buys_165 : decode cX12_buys 165 = .ok (.aload_n 0, 1) := by decide +kernel
theorem dX12_buys_166 : decode cX12_buys 166 = .ok (.getfield 64, 3) := by decide +kernel
theorem dX12_buys_169 : decode cX12_buys 169 = .ok (.iload_n 2, 1) := by decide +kernel
theorem dX12_buys_170 : decode cX12_buys 170 = .ok (.iaload, 1) := by decide +kernel
theorem dX12_buys_171 : decode cX12_buys 171 = .ok (.iaload, 1) := by decide +kernel
theorem dX12_buys_172 : decode cX12_buys 172 = .ok (.iastore, 1) := by decide +kernel
theorem dX12_buys_157 : decode cX12_buys 157 = .ok (.iconst 3, 1) := by decide +kernel
theorem dX12_buys_158 : decode cX12_buys 158 = .ok (.goto 14, 3) := by decide +kernel
theorem dX12_buys_128 : decode cX12_buys 128 = .ok (.iload_n 1, 1) := by decide +kernel
theorem dX12_buys_129 : decode cX12_buys 129 = .ok (.iload_n 2, 1) := by decide +kernel
theorem dX12_buys_130 : decode cX12_buys 130 = .ok (.ishr, 1) := by decide +kernel
theorem dX12_buys_131 : decode cX12_buys 131 = .ok (.iconst 1, 1) := by decide +kernel
theorem dX12_buys_132 : decode cX12_buys 132 = .ok (.iand, 1) := by decide +kernel
theorem dX12_buys_133 : decode cX12_buys 133 = .ok (.iconst 1, 1) := by decide +kernel
theorem dX12_buys_134 : decode cX12_buys 134 = .ok (.if_icmp .ne 7, 3) := by decide +kernel
theorem dX12_buys_141 : decode cX12_buys 141 = .ok (.iconst 0, 1) := by decide +kernel
theorem dX12_buys_137 : decode cX12_buys 137 = .ok (.iconst 1, 1) := by decide +kernel
theorem dX12_buys_138 : decode cX12_buys 138 = .ok (.goto 4, 3) := by decide +kernel
theorem dX12_buys_207 : decode cX12_buys 207 = .ok (.aload_n 0, 1) := by decide +kernel
theorem dX12_buys_208 : decode cX12_buys 208 = .ok (.getfield 70, 3) := by decide +kernel
theorem dX12_buys_211 : decode cX12_buys 211 = .ok (.iload_n 1, 1) := by decide +kernel
theorem dX12_buys_212 : decode cX12_buys 212 = .ok (.aload_n 0, 1) := by decide +kernel
theorem dX12_buys_213 : decode cX12_buys 213 = .ok (.invokevirtual 314, 3) := by decide +kernel
theorem dX12_buys_216 : decode cX12_buys 216 = .ok (.iastore, 1) := by decide +kernel
theorem dX12_buys_217 : decode cX12_buys 217 = .ok (.iinc 1 1, 3) := by decide +kernel
theorem dX12_buys_220 : decode cX12_buys 220 = .ok (.goto (-119), 3) := by decide +kernel
theorem dX12_buys_223 : decode cX12_buys 223 = .ok (.iconst 0, 1) := by decide +kernel
theorem dX12_buys_224 : decode cX12_buys 224 = .ok (.istore_n 1, 1) := by decide +kernel
theorem dX12_buys_225 : decode cX12_buys 225 = .ok (.iload_n 1, 1) := by decide +kernel
theorem dX12_buys_226 : decode cX12_buys 226 = .ok (.aload_n 0, 1) := by decide +kernel
theorem dX12_buys_227 : decode cX12_buys 227 = .ok (.invokevirtual 102, 3) := by decide +kernel
theorem dX12_buys_230 : decode cX12_buys 230 = .ok (.if_icmp .ge 21, 3) := by decide +kernel
theorem dX12_buys_233 : decode cX12_buys 233 = .ok (.aload_n 0, 1) := by decide +kernel
theorem dX12_buys_234 : decode cX12_buys 234 = .ok (.getfield 40, 3) := by decide +kernel
theorem dX12_buys_237 : decode cX12_buys 237 = .ok (.iload_n 1, 1) := by decide +kernel
theorem dX12_buys_238 : decode cX12_buys 238 = .ok (.aload_n 0, 1) := by decide +kernel
theorem dX12_buys_239 : decode cX12_buys 239 = .ok (.getfield 55, 3) := by decide +kernel
theorem dX12_buys_242 : decode cX12_buys 242 = .ok (.iload_n 1, 1) := by decide +kernel
theorem dX12_buys_243 : decode cX12_buys 243 = .ok (.iaload, 1) := by decide +kernel
theorem dX12_buys_244 : decode cX12_buys 244 = .ok (.iastore, 1) := by decide +kernel
theorem dX12_buys_245 : decode cX12_buys 245 = .ok (.iinc 1 1, 3) := by decide +kernel
theorem dX12_buys_248 : decode cX12_buys 248 = .ok (.goto (-23), 3) := by decide +kernel
theorem dX12_buys_251 : decode cX12_buys 251 = .ok (.return_, 1) := by decide +kernel
theorem dX12_isAhead_0 : decode cX12_isAhead 0 = .ok (.iload_n 0, 1) := by decide +kernel
theorem dX12_isAhead_1 : decode cX12_isAhead 1 = .ok (.iload_n 1, 1) := by decide +kernel
theorem dX12_isAhead_2 : decode cX12_isAhead 2 = .ok (.ixor, 1) := by decide +kernel
theorem dX12_isAhead_3 : decode cX12_isAhead 3 = .ok (.istore_n 2, 1) := by decide +kernel
theorem dX12_isAhead_4 : decode cX12_isAhead 4 = .ok (.iload_n 2, 1) := by decide +kernel
theorem dX12_isAhead_5 : decode cX12_isAhead 5 = .ok (.iload_n 2, 1) := by decide +kernel
theorem dX12_isAhead_6 : decode cX12_isAhead 6 = .ok (.ineg, 1) := by decide +kernel
theorem dX12_isAhead_7 : decode cX12_isAhead 7 = .ok (.iand, 1) := by decide +kernel
theorem dX12_isAhead_8 : decode cX12_isAhead 8 = .ok (.istore_n 3, 1) := by decide +kernel
theorem dX12_isAhead_9 : decode cX12_isAhead 9 = .ok (.iload_n 0, 1) := by decide +kernel
theorem dX12_isAhead_10 : decode cX12_isAhead 10 = .ok (.iload_n 3, 1) := by decide +kernel
theorem dX12_isAhead_11 : decode cX12_isAhead 11 = .ok (.iand, 1) := by decide +kernel
theorem dX12_isAhead_12 : decode cX12_isAhead 12 = .ok (.ifCond .eq 21, 3) := by decide +kernel
theorem dX12_isAhead_33 : decode cX12_isAhead 33 = .ok (.iload_n 0, 1) := by decide +kernel
theorem dX12_isAhead_34 : decode cX12_isAhead 34 = .ok (.iload_n 3, 1) := by decide +kernel
theorem dX12_isAhead_35 : decode cX12_isAhead 35 = .ok (.iconst 1, 1) := by decide +kernel
theorem dX12_isAhead_36 : decode cX12_isAhead 36 = .ok (.isub, 1) := by decide +kernel
theorem dX12_isAhead_37 : decode cX12_isAhead 37 = .ok (.iconst (-1), 1) := by decide +kernel
theorem dX12_isAhead_38 : decode cX12_isAhead 38 = .ok (.ixor, 1) := by decide +kernel
theorem dX12_isAhead_39 : decode cX12_isAhead 39 = .ok (.iand, 1) := by decide +kernel
theorem dX12_isAhead_40 : decode cX12_isAhead 40 = .ok (.ifCond .ne 7, 3) := by decide +kernel
theorem dX12_isAhead_47 : decode cX12_isAhead 47 = .ok (.iconst 0, 1) := by decide +kernel
theorem dX12_isAhead_48 : decode cX12_isAhead 48 = .ok (.ireturn, 1) := by decide +kernel
theorem dX12_isAhead_43 : decode cX12_isAhead 43 = .ok (.iconst 1, 1) := by decide +kernel
theorem dX12_isAhead_44 : decode cX12_isAhead 44 = .ok (.goto 4, 3) := by decide +kernel
theorem dX12_isAhead_15 : decode cX12_isAhead 15 = .ok (.iload_n 1, 1) := by decide +kernel
theorem dX12_isAhead_16 : decode cX12_isAhead 16 = .ok (.iload_n 3, 1) := by decide +kernel
theorem dX12_isAhead_17 : decode cX12_isAhead 17 = .ok (.iconst 1, 1) := by decide +kernel
theorem dX12_isAhead_18 : decode cX12_isAhead 18 = .ok (.isub, 1) := by decide +kernel
theorem dX12_isAhead_19 : decode cX12_isAhead 19 = .ok (.iconst (-1), 1) := by decide +kernel
theorem dX12_isAhead_20 : decode cX12_isAhead 20 = .ok (.ixor, 1) := by decide +kernel
theorem dX12_isAhead_21 : decode cX12_isAhead 21 = .ok (.iand, 1) := by decide +kernel
theorem dX12_isAhead_22 : decode cX12_isAhead 22 = .ok (.ifCond .eq 7, 3) := by decide +kernel
theorem dX12_isAhead_29 : decode cX12_isAhead 29 = .ok (.iconst 0, 1) := by decide +kernel
theorem dX12_isAhead_30 : decode cX12_isAhead 30 = .ok (.goto 18, 3) := by decide +kernel
theorem dX12_isAhead_25 : decode cX12_isAhead 25 = .ok (.iconst 1, 1) := by decide +kernel
theorem dX12_isAhead_26 : decode cX12_isAhead 26 = .ok (.goto 22, 3) := by decide +kernel
theorem dX12_bestFor_0 : decode cX12_bestFor 0 = .ok (.iconst (-1), 1) := by decide +kernel
theorem dX12_bestFor_1 : decode cX12_bestFor 1 = .ok (.istore_n 2, 1) := by decide +kernel
theorem dX12_bestFor_2 : decode cX12_bestFor 2 = .ok (.iconst 0, 1) := by decide +kernel
theorem dX12_bestFor_3 : decode cX12_bestFor 3 = .ok (.istore_n 3, 1) := by decide +kernel
theorem dX12_bestFor_4 : decode cX12_bestFor 4 = .ok (.iload_n 3, 1) := by decide +kernel
theorem dX12_bestFor_5 : decode cX12_bestFor 5 = .ok (.iconst 1, 1) := by decide +kernel
theorem dX12_bestFor_6 : decode cX12_bestFor 6 = .ok (.aload_n 0, 1) := by decide +kernel
theorem dX12_bestFor_7 : decode cX12_bestFor 7 = .ok (.getfield 351, 3) := by decide +kernel
theorem dX12_bestFor_10 : decode cX12_bestFor 10 = .ok (.ishl, 1) := by decide +kernel
theorem dX12_bestFor_11 : decode cX12_bestFor 11 = .ok (.if_icmp .ge 86, 3) := by decide +kernel
theorem dX12_bestFor_14 : decode cX12_bestFor 14 = .ok (.aload_n 0, 1) := by decide +kernel
theorem dX12_bestFor_15 : decode cX12_bestFor 15 = .ok (.getfield 67, 3) := by decide +kernel
theorem dX12_bestFor_18 : decode cX12_bestFor 18 = .ok (.iload_n 3, 1) := by decide +kernel
theorem dX12_bestFor_19 : decode cX12_bestFor 19 = .ok (.iaload, 1) := by decide +kernel
theorem dX12_bestFor_20 : decode cX12_bestFor 20 = .ok (.iload_n 1, 1) := by decide +kernel
theorem dX12_bestFor_21 : decode cX12_bestFor 21 = .ok (.if_icmp .le 6, 3) := by decide +kernel
theorem dX12_bestFor_27 : decode cX12_bestFor 27 = .ok (.iload_n 2, 1) := by decide +kernel
theorem dX12_bestFor_28 : decode cX12_bestFor 28 = .ok (.iconst (-1), 1) := by decide +kernel
theorem dX12_bestFor_29 : decode cX12_bestFor 29 = .ok (.if_icmp .ne 7, 3) := by decide +kernel
theorem dX12_bestFor_36 : decode cX12_bestFor 36 = .ok (.aload_n 0, 1) := by decide +kernel
theorem dX12_bestFor_37 : decode cX12_bestFor 37 = .ok (.getfield 70, 3) := by decide +kernel
theorem dX12_bestFor_40 : decode cX12_bestFor 40 = .ok (.iload_n 3, 1) := by decide +kernel
theorem dX12_bestFor_41 : decode cX12_bestFor 41 = .ok (.iaload, 1) := by decide +kernel
theorem dX12_bestFor_42 : decode cX12_bestFor 42 = .ok (.aload_n 0, 1) := by decide +kernel
theorem dX12_bestFor_43 : decode cX12_bestFor 43 = .ok (.getfield 70, 3) := by decide +kernel
theorem dX12_bestFor_46 : decode cX12_bestFor 46 = .ok (.iload_n 2, 1) := by decide +kernel
theorem dX12_bestFor_47 : decode cX12_bestFor 47 = .ok (.iaload, 1) := by decide +kernel
theorem dX12_bestFor_48 : decode cX12_bestFor 48 = .ok (.isub, 1) := by decide +kernel
theorem dX12_bestFor_49 : decode cX12_bestFor 49 = .ok (.istore 4, 2) := by decide +kernel
theorem dX12_bestFor_51 : decode cX12_bestFor 51 = .ok (.iload 4, 2) := by decide +kernel
theorem dX12_bestFor_53 : decode cX12_bestFor 53 = .ok (.ifCond .ne 18, 3) := by decide +kernel
theorem dX12_bestFor_71 : decode cX12_bestFor 71 = .ok (.iload 4, 2) := by decide +kernel
theorem dX12_bestFor_73 : decode cX12_bestFor 73 = .ok (.ifCond .lt 16, 3) := by decide +kernel
theorem dX12_bestFor_89 : decode cX12_bestFor 89 = .ok (.iload_n 3, 1) := by decide +kernel
theorem dX12_bestFor_90 : decode cX12_bestFor 90 = .ok (.istore_n 2, 1) := by decide +kernel
theorem dX12_bestFor_91 : decode cX12_bestFor 91 = .ok (.iinc 3 1, 3) := by decide +kernel
theorem dX12_bestFor_94 : decode cX12_bestFor 94 = .ok (.goto (-90), 3) := by decide +kernel
theorem dX12_bestFor_76 : decode cX12_bestFor 76 = .ok (.iload 4, 2) := by decide +kernel
theorem dX12_bestFor_78 : decode cX12_bestFor 78 = .ok (.ifCond .ne 13, 3) := by decide +kernel
theorem dX12_bestFor_81 : decode cX12_bestFor 81 = .ok (.iload_n 3, 1) := by decide +kernel
theorem dX12_bestFor_82 : decode cX12_bestFor 82 = .ok (.iload_n 2, 1) := by decide +kernel
theorem dX12_bestFor_83 : decode cX12_bestFor 83 = .ok (.invokestatic 354, 3) := by decide +kernel
theorem dX12_bestFor_86 : decode cX12_bestFor 86 = .ok (.ifCond .eq 5, 3) := by decide +kernel
theorem dX12_bestFor_56 : decode cX12_bestFor 56 = .ok (.aload_n 0, 1) := by decide +kernel
theorem dX12_bestFor_57 : decode cX12_bestFor 57 = .ok (.getfield 67, 3) := by decide +kernel
theorem dX12_bestFor_60 : decode cX12_bestFor 60 = .ok (.iload_n 3, 1) := by decide +kernel
theorem dX12_bestFor_61 : decode cX12_bestFor 61 = .ok (.iaload, 1) := by decide +kernel
theorem dX12_bestFor_62 : decode cX12_bestFor 62 = .ok (.aload_n 0, 1) := by decide +kernel
theorem dX12_bestFor_63 : decode cX12_bestFor 63 = .ok (.getfield 67, 3) := by decide +kernel
theorem dX12_bestFor_66 : decode cX12_bestFor 66 = .ok (.iload_n 2, 1) := by decide +kernel
theorem dX12_bestFor_67 : decode cX12_bestFor 67 = .ok (.iaload, 1) := by decide +kernel
theorem dX12_bestFor_68 : decode cX12_bestFor 68 = .ok (.isub, 1) := by decide +kernel
theorem dX12_bestFor_69 : decode cX12_bestFor 69 = .ok (.istore 4, 2) := by decide +kernel
theorem dX12_bestFor_32 : decode cX12_bestFor 32 = .ok (.iconst (-1), 1) := by decide +kernel
theorem dX12_bestFor_33 : decode cX12_bestFor 33 = .ok (.goto 16, 3) := by decide +kernel
theorem dX12_bestFor_24 : decode cX12_bestFor 24 = .ok (.goto 67, 3) := by decide +kernel
theorem dX12_bestFor_97 : decode cX12_bestFor 97 = .ok (.iload_n 2, 1) := by decide +kernel
theorem dX12_bestFor_98 : decode cX12_bestFor 98 = .ok (.ireturn, 1) := by decide +kernel
theorem dX12_coin_0 : decode cX12_coin 0 = .ok (.iload_n 1, 1) := by decide +kernel
theorem dX12_coin_1 : decode cX12_coin 1 = .ok (.invokestatic 239, 3) := by decide +kernel
theorem dX12_coin_4 : decode cX12_coin 4 = .ok (.ifCond .eq 15, 3) := by decide +kernel
theorem dX12_coin_19 : decode cX12_coin 19 = .ok (.bipush (-2), 2) := by decide +kernel
theorem dX12_coin_21 : decode cX12_coin 21 = .ok (.ireturn, 1) := by decide +kernel
theorem dX12_coin_7 : decode cX12_coin 7 = .ok (.iload_n 2, 1) := by decide +kernel
theorem dX12_coin_8 : decode cX12_coin 8 = .ok (.i2l, 1) := by decide +kernel
theorem dX12_coin_9 : decode cX12_coin 9 = .ok (.lconst 0, 1) := by decide +kernel
theorem dX12_coin_10 : decode cX12_coin 10 = .ok (.ldc2_w 358, 3) := by decide +kernel
theorem dX12_coin_13 : decode cX12_coin 13 = .ok (.invokestatic 98, 3) := by decide +kernel
theorem dX12_coin_16 : decode cX12_coin 16 = .ok (.ifCond .ne 6, 3) := by decide +kernel
theorem dX12_coin_22 : decode cX12_coin 22 = .ok (.aload_n 0, 1) := by decide +kernel
theorem dX12_coin_23 : decode cX12_coin 23 = .ok (.iload_n 1, 1) := by decide +kernel
theorem dX12_coin_24 : decode cX12_coin 24 = .ok (.invokevirtual 271, 3) := by decide +kernel
theorem dX12_coin_27 : decode cX12_coin 27 = .ok (.aload_n 0, 1) := by decide +kernel
theorem dX12_coin_28 : decode cX12_coin 28 = .ok (.invokevirtual 341, 3) := by decide +kernel
theorem dX12_coin_31 : decode cX12_coin 31 = .ok (.ifCond .ne 6, 3) := by decide +kernel
theorem dX12_coin_37 : decode cX12_coin 37 = .ok (.aload_n 0, 1) := by decide +kernel
theorem dX12_coin_38 : decode cX12_coin 38 = .ok (.aload_n 0, 1) := by decide +kernel
theorem dX12_coin_39 : decode cX12_coin 39 = .ok (.getfield 46, 3) := by decide +kernel
theorem dX12_coin_42 : decode cX12_coin 42 = .ok (.iconst 1, 1) := by decide +kernel
theorem dX12_coin_43 : decode cX12_coin 43 = .ok (.invokevirtual 260, 3) := by decide +kernel
theorem dX12_coin_46 : decode cX12_coin 46 = .ok (.aload_n 0, 1) := by decide +kernel
theorem dX12_coin_47 : decode cX12_coin 47 = .ok (.invokevirtual 360, 3) := by decide +kernel
theorem dX12_coin_50 : decode cX12_coin 50 = .ok (.aload_n 0, 1) := by decide +kernel
theorem dX12_coin_51 : decode cX12_coin 51 = .ok (.iload_n 2, 1) := by decide +kernel
theorem dX12_coin_52 : decode cX12_coin 52 = .ok (.invokevirtual 363, 3) := by decide +kernel
theorem dX12_coin_55 : decode cX12_coin 55 = .ok (.istore_n 3, 1) := by decide +kernel
theorem dX12_coin_56 : decode cX12_coin 56 = .ok (.iconst 0, 1) := by decide +kernel
theorem dX12_coin_57 : decode cX12_coin 57 = .ok (.istore 4, 2) := by decide +kernel
theorem dX12_coin_59 : decode cX12_coin 59 = .ok (.iload 4, 2) := by decide +kernel
theorem dX12_coin_61 : decode cX12_coin 61 = .ok (.aload_n 0, 1) := by decide +kernel
theorem dX12_coin_62 : decode cX12_coin 62 = .ok (.getfield 351, 3) := by decide +kernel
theorem dX12_coin_65 : decode cX12_coin 65 = .ok (.if_icmp .ge 41, 3) := by decide +kernel
theorem dX12_coin_68 : decode cX12_coin 68 = .ok (.iload_n 3, 1) := by decide +kernel
theorem dX12_coin_69 : decode cX12_coin 69 = .ok (.iload 4, 2) := by decide +kernel
theorem dX12_coin_71 : decode cX12_coin 71 = .ok (.ishr, 1) := by decide +kernel
theorem dX12_coin_72 : decode cX12_coin 72 = .ok (.iconst 1, 1) := by decide +kernel
theorem dX12_coin_73 : decode cX12_coin 73 = .ok (.iand, 1) := by decide +kernel
theorem dX12_coin_74 : decode cX12_coin 74 = .ok (.iconst 1, 1) := by decide +kernel
theorem dX12_coin_75 : decode cX12_coin 75 = .ok (.if_icmp .ne 25, 3) := by decide +kernel
theorem dX12_coin_100 : decode cX12_coin 100 = .ok (.iinc 4 1, 3) := by decide +kernel
theorem dX12_coin_103 : decode cX12_coin 103 = .ok (.goto (-44), 3) := by decide +kernel
theorem dX12_coin_78 : decode cX12_coin 78 = .ok (.aload_n 0, 1) := by decide +kernel
theorem dX12_coin_79 : decode cX12_coin 79 = .ok (.getfield 13, 3) := by decide +kernel
theorem dX12_coin_82 : decode cX12_coin 82 = .ok (.sipush 248, 3) := by decide +kernel
theorem dX12_coin_85 : decode cX12_coin 85 = .ok (.bipush 28, 2) := by decide +kernel
theorem dX12_coin_87 : decode cX12_coin 87 = .ok (.iload_n 1, 1) := by decide +kernel
theorem dX12_coin_88 : decode cX12_coin 88 = .ok (.imul, 1) := by decide +kernel
theorem dX12_coin_89 : decode cX12_coin 89 = .ok (.iadd, 1) := by decide +kernel
theorem dX12_coin_90 : decode cX12_coin 90 = .ok (.aload_n 0, 1) := by decide +kernel
theorem dX12_coin_91 : decode cX12_coin 91 = .ok (.getfield 64, 3) := by decide +kernel
theorem dX12_coin_94 : decode cX12_coin 94 = .ok (.iload 4, 2) := by decide +kernel
theorem dX12_coin_96 : decode cX12_coin 96 = .ok (.iaload, 1) := by decide +kernel
theorem dX12_coin_97 : decode cX12_coin 97 = .ok (.iadd, 1) := by decide +kernel
theorem dX12_coin_98 : decode cX12_coin 98 = .ok (.iconst 3, 1) := by decide +kernel
theorem dX12_coin_99 : decode cX12_coin 99 = .ok (.iastore, 1) := by decide +kernel
theorem dX12_coin_106 : decode cX12_coin 106 = .ok (.aload_n 0, 1) := by decide +kernel
theorem dX12_coin_107 : decode cX12_coin 107 = .ok (.getfield 70, 3) := by decide +kernel
theorem dX12_coin_110 : decode cX12_coin 110 = .ok (.iload_n 3, 1) := by decide +kernel
theorem dX12_coin_111 : decode cX12_coin 111 = .ok (.iaload, 1) := by decide +kernel
theorem dX12_coin_112 : decode cX12_coin 112 = .ok (.ireturn, 1) := by decide +kernel
theorem dX12_coin_34 : decode cX12_coin 34 = .ok (.bipush (-5), 2) := by decide +kernel
theorem dX12_coin_36 : decode cX12_coin 36 = .ok (.ireturn, 1) := by decide +kernel
theorem dX12_next_0 : decode cX12_next 0 = .ok (.iload_n 1, 1) := by decide +kernel
theorem dX12_next_1 : decode cX12_next 1 = .ok (.invokestatic 239, 3) := by decide +kernel
theorem dX12_next_4 : decode cX12_next 4 = .ok (.ifCond .eq 15, 3) := by decide +kernel
theorem dX12_next_19 : decode cX12_next 19 = .ok (.bipush (-2), 2) := by decide +kernel
theorem dX12_next_21 : decode cX12_next 21 = .ok (.ireturn, 1) := by decide +kernel
theorem dX12_next_7 : decode cX12_next 7 = .ok (.iload_n 2, 1) := by decide +kernel
theorem dX12_next_8 : decode cX12_next 8 = .ok (.i2l, 1) := by decide +kernel
theorem dX12_next_9 : decode cX12_next 9 = .ok (.lconst 0, 1) := by decide +kernel
theorem dX12_next_10 : decode cX12_next 10 = .ok (.ldc2_w 358, 3) := by decide +kernel
theorem dX12_next_13 : decode cX12_next 13 = .ok (.invokestatic 98, 3) := by decide +kernel
theorem dX12_next_16 : decode cX12_next 16 = .ok (.ifCond .ne 6, 3) := by decide +kernel
theorem dX12_next_22 : decode cX12_next 22 = .ok (.aload_n 0, 1) := by decide +kernel
theorem dX12_next_23 : decode cX12_next 23 = .ok (.iload_n 1, 1) := by decide +kernel
theorem dX12_next_24 : decode cX12_next 24 = .ok (.invokevirtual 271, 3) := by decide +kernel
theorem dX12_next_27 : decode cX12_next 27 = .ok (.aload_n 0, 1) := by decide +kernel
theorem dX12_next_28 : decode cX12_next 28 = .ok (.invokevirtual 341, 3) := by decide +kernel
theorem dX12_next_31 : decode cX12_next 31 = .ok (.ifCond .ne 6, 3) := by decide +kernel
theorem dX12_next_37 : decode cX12_next 37 = .ok (.aload_n 0, 1) := by decide +kernel
theorem dX12_next_38 : decode cX12_next 38 = .ok (.aload_n 0, 1) := by decide +kernel
theorem dX12_next_39 : decode cX12_next 39 = .ok (.getfield 46, 3) := by decide +kernel
theorem dX12_next_42 : decode cX12_next 42 = .ok (.iconst 1, 1) := by decide +kernel
theorem dX12_next_43 : decode cX12_next 43 = .ok (.invokevirtual 260, 3) := by decide +kernel
theorem dX12_next_46 : decode cX12_next 46 = .ok (.aload_n 0, 1) := by decide +kernel
theorem dX12_next_47 : decode cX12_next 47 = .ok (.invokevirtual 360, 3) := by decide +kernel
theorem dX12_next_50 : decode cX12_next 50 = .ok (.aload_n 0, 1) := by decide +kernel
theorem dX12_next_51 : decode cX12_next 51 = .ok (.getfield 70, 3) := by decide +kernel
theorem dX12_next_54 : decode cX12_next 54 = .ok (.aload_n 0, 1) := by decide +kernel
theorem dX12_next_55 : decode cX12_next 55 = .ok (.iload_n 2, 1) := by decide +kernel
theorem dX12_next_56 : decode cX12_next 56 = .ok (.invokevirtual 363, 3) := by decide +kernel
theorem dX12_next_59 : decode cX12_next 59 = .ok (.iaload, 1) := by decide +kernel
theorem dX12_next_60 : decode cX12_next 60 = .ok (.istore_n 3, 1) := by decide +kernel
theorem dX12_next_61 : decode cX12_next 61 = .ok (.iconst (-1), 1) := by decide +kernel
theorem dX12_next_62 : decode cX12_next 62 = .ok (.istore 4, 2) := by decide +kernel
theorem dX12_next_64 : decode cX12_next 64 = .ok (.iconst 0, 1) := by decide +kernel
theorem dX12_next_65 : decode cX12_next 65 = .ok (.istore 5, 2) := by decide +kernel
theorem dX12_next_67 : decode cX12_next 67 = .ok (.iload 5, 2) := by decide +kernel
theorem dX12_next_69 : decode cX12_next 69 = .ok (.iconst 1, 1) := by decide +kernel
theorem dX12_next_70 : decode cX12_next 70 = .ok (.aload_n 0, 1) := by decide +kernel
theorem dX12_next_71 : decode cX12_next 71 = .ok (.getfield 351, 3) := by decide +kernel
theorem dX12_next_74 : decode cX12_next 74 = .ok (.ishl, 1) := by decide +kernel
theorem dX12_next_75 : decode cX12_next 75 = .ok (.if_icmp .ge 58, 3) := by decide +kernel
theorem dX12_next_78 : decode cX12_next 78 = .ok (.aload_n 0, 1) := by decide +kernel
theorem dX12_next_79 : decode cX12_next 79 = .ok (.getfield 70, 3) := by decide +kernel
theorem dX12_next_82 : decode cX12_next 82 = .ok (.iload 5, 2) := by decide +kernel
theorem dX12_next_84 : decode cX12_next 84 = .ok (.iaload, 1) := by decide +kernel
theorem dX12_next_85 : decode cX12_next 85 = .ok (.iload_n 3, 1) := by decide +kernel
theorem dX12_next_86 : decode cX12_next 86 = .ok (.if_icmp .ge 41, 3) := by decide +kernel
theorem dX12_next_127 : decode cX12_next 127 = .ok (.iinc 5 1, 3) := by decide +kernel
theorem dX12_next_130 : decode cX12_next 130 = .ok (.goto (-63), 3) := by decide +kernel
theorem dX12_next_89 : decode cX12_next 89 = .ok (.aload_n 0, 1) := by decide +kernel
theorem dX12_next_90 : decode cX12_next 90 = .ok (.getfield 67, 3) := by decide +kernel
theorem dX12_next_93 : decode cX12_next 93 = .ok (.iload 5, 2) := by decide +kernel
theorem dX12_next_95 : decode cX12_next 95 = .ok (.iaload, 1) := by decide +kernel
theorem dX12_next_96 : decode cX12_next 96 = .ok (.iload_n 2, 1) := by decide +kernel
theorem dX12_next_97 : decode cX12_next 97 = .ok (.if_icmp .le 30, 3) := by decide +kernel
theorem dX12_next_100 : decode cX12_next 100 = .ok (.iload 4, 2) := by decide +kernel
theorem dX12_next_102 : decode cX12_next 102 = .ok (.iconst (-1), 1) := by decide +kernel
theorem dX12_next_103 : decode cX12_next 103 = .ok (.if_icmp .eq 15, 3) := by decide +kernel
theorem dX12_next_118 : decode cX12_next 118 = .ok (.aload_n 0, 1) := by decide +kernel
theorem dX12_next_119 : decode cX12_next 119 = .ok (.getfield 67, 3) := by decide +kernel
theorem dX12_next_122 : decode cX12_next 122 = .ok (.iload 5, 2) := by decide +kernel
theorem dX12_next_124 : decode cX12_next 124 = .ok (.iaload, 1) := by decide +kernel
theorem dX12_next_125 : decode cX12_next 125 = .ok (.istore 4, 2) := by decide +kernel
theorem dX12_next_106 : decode cX12_next 106 = .ok (.aload_n 0, 1) := by decide +kernel
theorem dX12_next_107 : decode cX12_next 107 = .ok (.getfield 67, 3) := by decide +kernel
theorem dX12_next_110 : decode cX12_next 110 = .ok (.iload 5, 2) := by decide +kernel
theorem dX12_next_112 : decode cX12_next 112 = .ok (.iaload, 1) := by decide +kernel
theorem dX12_next_113 : decode cX12_next 113 = .ok (.iload 4, 2) := by decide +kernel
theorem dX12_next_115 : decode cX12_next 115 = .ok (.if_icmp .ge 12, 3) := by decide +kernel
theorem dX12_next_133 : decode cX12_next 133 = .ok (.iload 4, 2) := by decide +kernel
theorem dX12_next_135 : decode cX12_next 135 = .ok (.sipush 9999, 3) := by decide +kernel
theorem dX12_next_138 : decode cX12_next 138 = .ok (.if_icmp .le 7, 3) := by decide +kernel
theorem dX12_next_145 : decode cX12_next 145 = .ok (.iload 4, 2) := by decide +kernel
theorem dX12_next_147 : decode cX12_next 147 = .ok (.ireturn, 1) := by decide +kernel
theorem dX12_next_141 : decode cX12_next 141 = .ok (.iconst (-1), 1) := by decide +kernel
theorem dX12_next_142 : decode cX12_next 142 = .ok (.goto 5, 3) := by decide +kernel
theorem dX12_next_34 : decode cX12_next 34 = .ok (.bipush (-5), 2) := by decide +kernel
theorem dX12_next_36 : decode cX12_next 36 = .ok (.ireturn, 1) := by decide +kernel
theorem dX12_paid_0 : decode cX12_paid 0 = .ok (.iload_n 1, 1) := by decide +kernel
theorem dX12_paid_1 : decode cX12_paid 1 = .ok (.invokestatic 239, 3) := by decide +kernel
theorem dX12_paid_4 : decode cX12_paid 4 = .ok (.ifCond .ne 6, 3) := by decide +kernel
theorem dX12_paid_7 : decode cX12_paid 7 = .ok (.bipush (-2), 2) := by decide +kernel
theorem dX12_paid_9 : decode cX12_paid 9 = .ok (.ireturn, 1) := by decide +kernel
theorem dX12_paid_10 : decode cX12_paid 10 = .ok (.iconst 0, 1) := by decide +kernel
theorem dX12_paid_11 : decode cX12_paid 11 = .ok (.istore_n 2, 1) := by decide +kernel
theorem dX12_paid_12 : decode cX12_paid 12 = .ok (.iconst 0, 1) := by decide +kernel
theorem dX12_paid_13 : decode cX12_paid 13 = .ok (.istore_n 3, 1) := by decide +kernel
theorem dX12_paid_14 : decode cX12_paid 14 = .ok (.iload_n 3, 1) := by decide +kernel
theorem dX12_paid_15 : decode cX12_paid 15 = .ok (.aload_n 0, 1) := by decide +kernel
theorem dX12_paid_16 : decode cX12_paid 16 = .ok (.invokevirtual 102, 3) := by decide +kernel
theorem dX12_paid_19 : decode cX12_paid 19 = .ok (.if_icmp .ge 32, 3) := by decide +kernel
theorem dX12_paid_22 : decode cX12_paid 22 = .ok (.iload_n 2, 1) := by decide +kernel
theorem dX12_paid_23 : decode cX12_paid 23 = .ok (.aload_n 0, 1) := by decide +kernel
theorem dX12_paid_24 : decode cX12_paid 24 = .ok (.iload_n 1, 1) := by decide +kernel
theorem dX12_paid_25 : decode cX12_paid 25 = .ok (.iload_n 3, 1) := by decide +kernel
theorem dX12_paid_26 : decode cX12_paid 26 = .ok (.invokevirtual 249, 3) := by decide +kernel
theorem dX12_paid_29 : decode cX12_paid 29 = .ok (.iconst 3, 1) := by decide +kernel
theorem dX12_paid_30 : decode cX12_paid 30 = .ok (.if_icmp .ne 12, 3) := by decide +kernel
theorem dX12_paid_42 : decode cX12_paid 42 = .ok (.iconst 0, 1) := by decide +kernel
theorem dX12_paid_43 : decode cX12_paid 43 = .ok (.iadd, 1) := by decide +kernel
theorem dX12_paid_44 : decode cX12_paid 44 = .ok (.istore_n 2, 1) := by decide +kernel
theorem dX12_paid_45 : decode cX12_paid 45 = .ok (.iinc 3 1, 3) := by decide +kernel
theorem dX12_paid_48 : decode cX12_paid 48 = .ok (.goto (-34), 3) := by decide +kernel
theorem dX12_paid_33 : decode cX12_paid 33 = .ok (.aload_n 0, 1) := by decide +kernel
theorem dX12_paid_34 : decode cX12_paid 34 = .ok (.iload_n 3, 1) := by decide +kernel
theorem dX12_paid_35 : decode cX12_paid 35 = .ok (.iconst 3, 1) := by decide +kernel
theorem dX12_paid_36 : decode cX12_paid 36 = .ok (.invokevirtual 230, 3) := by decide +kernel
theorem dX12_paid_39 : decode cX12_paid 39 = .ok (.goto 4, 3) := by decide +kernel
theorem dX12_paid_51 : decode cX12_paid 51 = .ok (.iload_n 2, 1) := by decide +kernel
theorem dX12_paid_52 : decode cX12_paid 52 = .ok (.ireturn, 1) := by decide +kernel
theorem dX12_drives_0 : decode cX12_drives 0 = .ok (.aload_n 0, 1) := by decide +kernel
theorem dX12_drives_1 : decode cX12_drives 1 = .ok (.iload_n 1, 1) := by decide +kernel
theorem dX12_drives_2 : decode cX12_drives 2 = .ok (.invokevirtual 271, 3) := by decide +kernel
theorem dX12_drives_5 : decode cX12_drives 5 = .ok (.iconst 0, 1) := by decide +kernel
theorem dX12_drives_6 : decode cX12_drives 6 = .ok (.istore_n 2, 1) := by decide +kernel
theorem dX12_drives_7 : decode cX12_drives 7 = .ok (.iload_n 2, 1) := by decide +kernel
theorem dX12_drives_8 : decode cX12_drives 8 = .ok (.aload_n 0, 1) := by decide +kernel
theorem dX12_drives_9 : decode cX12_drives 9 = .ok (.invokevirtual 106, 3) := by decide +kernel
theorem dX12_drives_12 : decode cX12_drives 12 = .ok (.if_icmp .ge 31, 3) := by decide +kernel
theorem dX12_drives_15 : decode cX12_drives 15 = .ok (.aload_n 0, 1) := by decide +kernel
theorem dX12_drives_16 : decode cX12_drives 16 = .ok (.getfield 73, 3) := by decide +kernel
theorem dX12_drives_19 : decode cX12_drives 19 = .ok (.iload_n 2, 1) := by decide +kernel
theorem dX12_drives_20 : decode cX12_drives 20 = .ok (.iload_n 2, 1) := by decide +kernel
theorem dX12_drives_21 : decode cX12_drives 21 = .ok (.aload_n 0, 1) := by decide +kernel
theorem dX12_drives_22 : decode cX12_drives 22 = .ok (.getfield 13, 3) := by decide +kernel
theorem dX12_drives_25 : decode cX12_drives 25 = .ok (.iconst 4, 1) := by decide +kernel
theorem dX12_drives_26 : decode cX12_drives 26 = .ok (.iaload, 1) := by decide +kernel
theorem dX12_drives_27 : decode cX12_drives 27 = .ok (.if_icmp .ne 7, 3) := by decide +kernel
theorem dX12_drives_34 : decode cX12_drives 34 = .ok (.ldc 255, 2) := by decide +kernel
theorem dX12_drives_36 : decode cX12_drives 36 = .ok (.iastore, 1) := by decide +kernel
theorem dX12_drives_37 : decode cX12_drives 37 = .ok (.iinc 2 1, 3) := by decide +kernel
theorem dX12_drives_40 : decode cX12_drives 40 = .ok (.goto (-33), 3) := by decide +kernel
theorem dX12_drives_30 : decode cX12_drives 30 = .ok (.iconst 0, 1) := by decide +kernel
theorem dX12_drives_31 : decode cX12_drives 31 = .ok (.goto 5, 3) := by decide +kernel
theorem dX12_drives_43 : decode cX12_drives 43 = .ok (.iconst 1, 1) := by decide +kernel
theorem dX12_drives_44 : decode cX12_drives 44 = .ok (.istore_n 2, 1) := by decide +kernel
theorem dX12_drives_45 : decode cX12_drives 45 = .ok (.iload_n 2, 1) := by decide +kernel
theorem dX12_drives_46 : decode cX12_drives 46 = .ok (.ifCond .eq 159, 3) := by decide +kernel
theorem dX12_drives_49 : decode cX12_drives 49 = .ok (.iconst 0, 1) := by decide +kernel
theorem dX12_drives_50 : decode cX12_drives 50 = .ok (.istore_n 2, 1) := by decide +kernel
theorem dX12_drives_51 : decode cX12_drives 51 = .ok (.iconst 0, 1) := by decide +kernel
theorem dX12_drives_52 : decode cX12_drives 52 = .ok (.istore_n 3, 1) := by decide +kernel
theorem dX12_drives_53 : decode cX12_drives 53 = .ok (.iload_n 3, 1) := by decide +kernel
theorem dX12_drives_54 : decode cX12_drives 54 = .ok (.aload_n 0, 1) := by decide +kernel
theorem dX12_drives_55 : decode cX12_drives 55 = .ok (.invokevirtual 102, 3) := by decide +kernel
theorem dX12_drives_58 : decode cX12_drives 58 = .ok (.if_icmp .ge 144, 3) := by decide +kernel
theorem dX12_drives_61 : decode cX12_drives 61 = .ok (.iconst 0, 1) := by decide +kernel
theorem dX12_drives_62 : decode cX12_drives 62 = .ok (.istore 4, 2) := by decide +kernel
theorem dX12_drives_64 : decode cX12_drives 64 = .ok (.iload 4, 2) := by decide +kernel
theorem dX12_drives_66 : decode cX12_drives 66 = .ok (.iconst 2, 1) := by decide +kernel
theorem dX12_drives_67 : decode cX12_drives 67 = .ok (.if_icmp .ge 129, 3) := by decide +kernel
theorem dX12_drives_70 : decode cX12_drives 70 = .ok (.aload_n 0, 1) := by decide +kernel
theorem dX12_drives_71 : decode cX12_drives 71 = .ok (.iload_n 3, 1) := by decide +kernel
theorem dX12_drives_72 : decode cX12_drives 72 = .ok (.iload 4, 2) := by decide +kernel
theorem dX12_drives_74 : decode cX12_drives 74 = .ok (.invokevirtual 230, 3) := by decide +kernel
theorem dX12_drives_77 : decode cX12_drives 77 = .ok (.istore 5, 2) := by decide +kernel
theorem dX12_drives_79 : decode cX12_drives 79 = .ok (.aload_n 0, 1) := by decide +kernel
theorem dX12_drives_80 : decode cX12_drives 80 = .ok (.iload_n 3, 1) := by decide +kernel
theorem dX12_drives_81 : decode cX12_drives 81 = .ok (.iconst 1, 1) := by decide +kernel
theorem dX12_drives_82 : decode cX12_drives 82 = .ok (.iload 4, 2) := by decide +kernel
theorem dX12_drives_84 : decode cX12_drives 84 = .ok (.isub, 1) := by decide +kernel
theorem dX12_drives_85 : decode cX12_drives 85 = .ok (.invokevirtual 230, 3) := by decide +kernel
theorem dX12_drives_88 : decode cX12_drives 88 = .ok (.istore 6, 2) := by decide +kernel
theorem dX12_drives_106 : decode cX12_drives 106 = .ok (.istore 7, 2) := by decide +kernel
theorem dX12_drives_108 : decode cX12_drives 108 = .ok (.iload 7, 2) := by decide +kernel
theorem dX12_drives_110 : decode cX12_drives 110 = .ok (.ifCond .ne 12, 3) := by decide +kernel
theorem dX12_drives_122 : decode cX12_drives 122 = .ok (.aload_n 0, 1) := by decide +kernel
theorem dX12_drives_123 : decode cX12_drives 123 = .ok (.getfield 73, 3) := by decide +kernel
theorem dX12_drives_126 : decode cX12_drives 126 = .ok (.iload 5, 2) := by decide +kernel
theorem dX12_drives_128 : decode cX12_drives 128 = .ok (.iaload, 1) := by decide +kernel
theorem dX12_drives_129 : decode cX12_drives 129 = .ok (.ldc 255, 2) := by decide +kernel
theorem dX12_drives_131 : decode cX12_drives 131 = .ok (.if_icmp .ne 6, 3) := by decide +kernel
theorem dX12_drives_137 : decode cX12_drives 137 = .ok (.aload_n 0, 1) := by decide +kernel
theorem dX12_drives_138 : decode cX12_drives 138 = .ok (.getfield 73, 3) := by decide +kernel
theorem dX12_drives_141 : decode cX12_drives 141 = .ok (.iload 5, 2) := by decide +kernel
theorem dX12_drives_143 : decode cX12_drives 143 = .ok (.iaload, 1) := by decide +kernel
theorem dX12_drives_144 : decode cX12_drives 144 = .ok (.iload 7, 2) := by decide +kernel
theorem dX12_drives_154 : decode cX12_drives 154 = .ok (.aload_n 0, 1) := by decide +kernel
theorem dX12_drives_155 : decode cX12_drives 155 = .ok (.iload_n 3, 1) := by decide +kernel
theorem dX12_drives_156 : decode cX12_drives 156 = .ok (.iconst 2, 1) := by decide +kernel
theorem dX12_drives_157 : decode cX12_drives 157 = .ok (.invokevirtual 230, 3) := by decide +kernel
theorem dX12_drives_160 : decode cX12_drives 160 = .ok (.imul, 1) := by decide +kernel
theorem dX12_drives_161 : decode cX12_drives 161 = .ok (.iadd, 1) := by decide +kernel
theorem dX12_drives_162 : decode cX12_drives 162 = .ok (.istore 8, 2) := by decide +kernel
theorem dX12_drives_164 : decode cX12_drives 164 = .ok (.iload 8, 2) := by decide +kernel
theorem dX12_drives_166 : decode cX12_drives 166 = .ok (.aload_n 0, 1) := by decide +kernel
theorem dX12_drives_167 : decode cX12_drives 167 = .ok (.getfield 73, 3) := by decide +kernel
theorem dX12_drives_170 : decode cX12_drives 170 = .ok (.iload 6, 2) := by decide +kernel
theorem dX12_drives_172 : decode cX12_drives 172 = .ok (.iaload, 1) := by decide +kernel
theorem dX12_drives_173 : decode cX12_drives 173 = .ok (.if_icmp .lt 6, 3) := by decide +kernel
theorem dX12_drives_179 : decode cX12_drives 179 = .ok (.aload_n 0, 1) := by decide +kernel
theorem dX12_drives_180 : decode cX12_drives 180 = .ok (.getfield 73, 3) := by decide +kernel
theorem dX12_drives_183 : decode cX12_drives 183 = .ok (.iload 6, 2) := by decide +kernel
theorem dX12_drives_185 : decode cX12_drives 185 = .ok (.iload 8, 2) := by decide +kernel
theorem dX12_drives_187 : decode cX12_drives 187 = .ok (.iastore, 1) := by decide +kernel
theorem dX12_drives_188 : decode cX12_drives 188 = .ok (.iconst 1, 1) := by decide +kernel
theorem dX12_drives_189 : decode cX12_drives 189 = .ok (.istore_n 2, 1) := by decide +kernel
theorem dX12_drives_190 : decode cX12_drives 190 = .ok (.iinc 4 1, 3) := by decide +kernel
theorem dX12_drives_193 : decode cX12_drives 193 = .ok (.goto (-129), 3) := by decide +kernel
theorem dX12_drives_176 : decode cX12_drives 176 = .ok (.goto 14, 3) := by decide +kernel
theorem dX12_drives_146 : decode cX12_drives 146 = .ok (.ifCond .eq 7, 3) := by decide +kernel
theorem dX12_drives_149 : decode cX12_drives 149 = .ok (.iconst 1, 1) := by decide +kernel
theorem dX12_drives_150 : decode cX12_drives 150 = .ok (.goto 4, 3) := by decide +kernel
theorem dX12_drives_134 : decode cX12_drives 134 = .ok (.goto 56, 3) := by decide +kernel
theorem dX12_drives_113 : decode cX12_drives 113 = .ok (.aload_n 0, 1) := by decide +kernel
theorem dX12_drives_114 : decode cX12_drives 114 = .ok (.iload_n 3, 1) := by decide +kernel
theorem dX12_drives_115 : decode cX12_drives 115 = .ok (.iconst 5, 1) := by decide +kernel
theorem dX12_drives_116 : decode cX12_drives 116 = .ok (.invokevirtual 230, 3) := by decide +kernel
theorem dX12_drives_119 : decode cX12_drives 119 = .ok (.ifCond .eq 71, 3) := by decide +kernel
theorem dX12_drives_153 : decode cX12_drives 153 = .ok (.iconst 2, 1) := by decide +kernel
theorem dX12_drives_90 : decode cX12_drives 90 = .ok (.aload_n 0, 1) := by decide +kernel
theorem dX12_drives_91 : decode cX12_drives 91 = .ok (.iload_n 3, 1) := by decide +kernel
theorem dX12_drives_92 : decode cX12_drives 92 = .ok (.iload 5, 2) := by decide +kernel
theorem dX12_drives_94 : decode cX12_drives 94 = .ok (.invokevirtual 320, 3) := by decide +kernel
theorem dX12_drives_97 : decode cX12_drives 97 = .ok (.iconst (-1), 1) := by decide +kernel
theorem dX12_drives_98 : decode cX12_drives 98 = .ok (.if_icmp .eq 7, 3) := by decide +kernel
theorem dX12_drives_105 : decode cX12_drives 105 = .ok (.iconst 0, 1) := by decide +kernel
theorem dX12_drives_101 : decode cX12_drives 101 = .ok (.iconst 1, 1) := by decide +kernel
theorem dX12_drives_102 : decode cX12_drives 102 = .ok (.goto 4, 3) := by decide +kernel
theorem dX12_drives_196 : decode cX12_drives 196 = .ok (.iinc 3 1, 3) := by decide +kernel
theorem dX12_drives_199 : decode cX12_drives 199 = .ok (.goto (-146), 3) := by decide +kernel
theorem dX12_drives_202 : decode cX12_drives 202 = .ok (.goto (-157), 3) := by decide +kernel
theorem dX12_drives_205 : decode cX12_drives 205 = .ok (.return_, 1) := by decide +kernel
theorem dX12_fire_0 : decode cX12_fire 0 = .ok (.iload_n 1, 1) := by decide +kernel
theorem dX12_fire_1 : decode cX12_fire 1 = .ok (.invokestatic 239, 3) := by decide +kernel
theorem dX12_fire_4 : decode cX12_fire 4 = .ok (.ifCond .eq 11, 3) := by decide +kernel
theorem dX12_fire_15 : decode cX12_fire 15 = .ok (.bipush (-2), 2) := by decide +kernel
theorem dX12_fire_17 : decode cX12_fire 17 = .ok (.ireturn, 1) := by decide +kernel
theorem dX12_fire_7 : decode cX12_fire 7 = .ok (.aload_n 0, 1) := by decide +kernel
theorem dX12_fire_8 : decode cX12_fire 8 = .ok (.iload_n 2, 1) := by decide +kernel
theorem dX12_fire_9 : decode cX12_fire 9 = .ok (.invokevirtual 292, 3) := by decide +kernel
theorem dX12_fire_12 : decode cX12_fire 12 = .ok (.ifCond .ne 6, 3) := by decide +kernel
theorem dX12_fire_18 : decode cX12_fire 18 = .ok (.aload_n 0, 1) := by decide +kernel
theorem dX12_fire_19 : decode cX12_fire 19 = .ok (.getfield 13, 3) := by decide +kernel
theorem dX12_fire_22 : decode cX12_fire 22 = .ok (.iconst 4, 1) := by decide +kernel
theorem dX12_fire_23 : decode cX12_fire 23 = .ok (.iaload, 1) := by decide +kernel
theorem dX12_fire_24 : decode cX12_fire 24 = .ok (.iconst (-1), 1) := by decide +kernel
theorem dX12_fire_25 : decode cX12_fire 25 = .ok (.if_icmp .ne 6, 3) := by decide +kernel
theorem dX12_fire_31 : decode cX12_fire 31 = .ok (.aload_n 0, 1) := by decide +kernel
theorem dX12_fire_32 : decode cX12_fire 32 = .ok (.iload_n 1, 1) := by decide +kernel
theorem dX12_fire_33 : decode cX12_fire 33 = .ok (.invokevirtual 366, 3) := by decide +kernel
theorem dX12_fire_36 : decode cX12_fire 36 = .ok (.aload_n 0, 1) := by decide +kernel
theorem dX12_fire_37 : decode cX12_fire 37 = .ok (.getfield 73, 3) := by decide +kernel
theorem dX12_fire_40 : decode cX12_fire 40 = .ok (.iload_n 2, 1) := by decide +kernel
theorem dX12_fire_41 : decode cX12_fire 41 = .ok (.iaload, 1) := by decide +kernel
theorem dX12_fire_42 : decode cX12_fire 42 = .ok (.ldc 255, 2) := by decide +kernel
theorem dX12_fire_44 : decode cX12_fire 44 = .ok (.if_icmp .ne 7, 3) := by decide +kernel
theorem dX12_fire_51 : decode cX12_fire 51 = .ok (.aload_n 0, 1) := by decide +kernel
theorem dX12_fire_52 : decode cX12_fire 52 = .ok (.getfield 73, 3) := by decide +kernel
theorem dX12_fire_55 : decode cX12_fire 55 = .ok (.iload_n 2, 1) := by decide +kernel
theorem dX12_fire_56 : decode cX12_fire 56 = .ok (.iaload, 1) := by decide +kernel
theorem dX12_fire_57 : decode cX12_fire 57 = .ok (.ireturn, 1) := by decide +kernel
theorem dX12_fire_47 : decode cX12_fire 47 = .ok (.iconst (-1), 1) := by decide +kernel
theorem dX12_fire_48 : decode cX12_fire 48 = .ok (.goto 9, 3) := by decide +kernel
theorem dX12_fire_28 : decode cX12_fire 28 = .ok (.bipush (-6), 2) := by decide +kernel
theorem dX12_fire_30 : decode cX12_fire 30 = .ok (.ireturn, 1) := by decide +kernel
theorem dX12_lastFire_0 : decode cX12_lastFire 0 = .ok (.iload_n 1, 1) := by decide +kernel
theorem dX12_lastFire_1 : decode cX12_lastFire 1 = .ok (.invokestatic 239, 3) := by decide +kernel
theorem dX12_lastFire_4 : decode cX12_lastFire 4 = .ok (.ifCond .ne 6, 3) := by decide +kernel
theorem dX12_lastFire_7 : decode cX12_lastFire 7 = .ok (.bipush (-2), 2) := by decide +kernel
theorem dX12_lastFire_9 : decode cX12_lastFire 9 = .ok (.ireturn, 1) := by decide +kernel
theorem dX12_lastFire_10 : decode cX12_lastFire 10 = .ok (.aload_n 0, 1) := by decide +kernel
theorem dX12_lastFire_11 : decode cX12_lastFire 11 = .ok (.getfield 13, 3) := by decide +kernel
theorem dX12_lastFire_14 : decode cX12_lastFire 14 = .ok (.iconst 4, 1) := by decide +kernel
theorem dX12_lastFire_15 : decode cX12_lastFire 15 = .ok (.iaload, 1) := by decide +kernel
theorem dX12_lastFire_16 : decode cX12_lastFire 16 = .ok (.iconst (-1), 1) := by decide +kernel
theorem dX12_lastFire_17 : decode cX12_lastFire 17 = .ok (.if_icmp .ne 6, 3) := by decide +kernel
theorem dX12_lastFire_23 : decode cX12_lastFire 23 = .ok (.aload_n 0, 1) := by decide +kernel
theorem dX12_lastFire_24 : decode cX12_lastFire 24 = .ok (.iload_n 1, 1) := by decide +kernel
theorem dX12_lastFire_25 : decode cX12_lastFire 25 = .ok (.invokevirtual 366, 3) := by decide +kernel
theorem dX12_lastFire_28 : decode cX12_lastFire 28 = .ok (.iconst 0, 1) := by decide +kernel
theorem dX12_lastFire_29 : decode cX12_lastFire 29 = .ok (.istore_n 2, 1) := by decide +kernel
theorem dX12_lastFire_30 : decode cX12_lastFire 30 = .ok (.iconst 1, 1) := by decide +kernel
theorem dX12_lastFire_31 : decode cX12_lastFire 31 = .ok (.istore_n 3, 1) := by decide +kernel
theorem dX12_lastFire_32 : decode cX12_lastFire 32 = .ok (.iload_n 3, 1) := by decide +kernel
theorem dX12_lastFire_33 : decode cX12_lastFire 33 = .ok (.aload_n 0, 1) := by decide +kernel
theorem dX12_lastFire_34 : decode cX12_lastFire 34 = .ok (.invokevirtual 106, 3) := by decide +kernel
theorem dX12_lastFire_37 : decode cX12_lastFire 37 = .ok (.if_icmp .ge 30, 3) := by decide +kernel
theorem dX12_lastFire_40 : decode cX12_lastFire 40 = .ok (.aload_n 0, 1) := by decide +kernel
theorem dX12_lastFire_41 : decode cX12_lastFire 41 = .ok (.getfield 73, 3) := by decide +kernel
theorem dX12_lastFire_44 : decode cX12_lastFire 44 = .ok (.iload_n 3, 1) := by decide +kernel
theorem dX12_lastFire_45 : decode cX12_lastFire 45 = .ok (.iaload, 1) := by decide +kernel
theorem dX12_lastFire_46 : decode cX12_lastFire 46 = .ok (.aload_n 0, 1) := by decide +kernel
theorem dX12_lastFire_47 : decode cX12_lastFire 47 = .ok (.getfield 73, 3) := by decide +kernel
theorem dX12_lastFire_50 : decode cX12_lastFire 50 = .ok (.iload_n 2, 1) := by decide +kernel
theorem dX12_lastFire_51 : decode cX12_lastFire 51 = .ok (.iaload, 1) := by decide +kernel
theorem dX12_lastFire_52 : decode cX12_lastFire 52 = .ok (.if_icmp .le 7, 3) := by decide +kernel
theorem dX12_lastFire_59 : decode cX12_lastFire 59 = .ok (.iload_n 2, 1) := by decide +kernel
theorem dX12_lastFire_60 : decode cX12_lastFire 60 = .ok (.istore_n 2, 1) := by decide +kernel
theorem dX12_lastFire_61 : decode cX12_lastFire 61 = .ok (.iinc 3 1, 3) := by decide +kernel
theorem dX12_lastFire_64 : decode cX12_lastFire 64 = .ok (.goto (-32), 3) := by decide +kernel
theorem dX12_lastFire_55 : decode cX12_lastFire 55 = .ok (.iload_n 3, 1) := by decide +kernel
theorem dX12_lastFire_56 : decode cX12_lastFire 56 = .ok (.goto 4, 3) := by decide +kernel
theorem dX12_lastFire_67 : decode cX12_lastFire 67 = .ok (.iload_n 2, 1) := by decide +kernel
theorem dX12_lastFire_68 : decode cX12_lastFire 68 = .ok (.ireturn, 1) := by decide +kernel
theorem dX12_lastFire_20 : decode cX12_lastFire 20 = .ok (.bipush (-6), 2) := by decide +kernel
theorem dX12_lastFire_22 : decode cX12_lastFire 22 = .ok (.ireturn, 1) := by decide +kernel
theorem dX12_arrive_0 : decode cX12_arrive 0 = .ok (.aload_n 0, 1) := by decide +kernel
theorem dX12_arrive_1 : decode cX12_arrive 1 = .ok (.iload_n 1, 1) := by decide +kernel
theorem dX12_arrive_2 : decode cX12_arrive 2 = .ok (.invokevirtual 301, 3) := by decide +kernel
theorem dX12_arrive_5 : decode cX12_arrive 5 = .ok (.ifCond .eq 27, 3) := by decide +kernel
theorem dX12_arrive_32 : decode cX12_arrive 32 = .ok (.bipush (-2), 2) := by decide +kernel
theorem dX12_arrive_34 : decode cX12_arrive 34 = .ok (.ireturn, 1) := by decide +kernel
theorem dX12_arrive_8 : decode cX12_arrive 8 = .ok (.iload_n 2, 1) := by decide +kernel
theorem dX12_arrive_9 : decode cX12_arrive 9 = .ok (.i2l, 1) := by decide +kernel
theorem dX12_arrive_10 : decode cX12_arrive 10 = .ok (.lconst 0, 1) := by decide +kernel
theorem dX12_arrive_11 : decode cX12_arrive 11 = .ok (.ldc2_w 369, 3) := by decide +kernel
theorem dX12_arrive_14 : decode cX12_arrive 14 = .ok (.invokestatic 98, 3) := by decide +kernel
theorem dX12_arrive_17 : decode cX12_arrive 17 = .ok (.ifCond .eq 15, 3) := by decide +kernel
theorem dX12_arrive_20 : decode cX12_arrive 20 = .ok (.iload_n 3, 1) := by decide +kernel
theorem dX12_arrive_21 : decode cX12_arrive 21 = .ok (.i2l, 1) := by decide +kernel
theorem dX12_arrive_22 : decode cX12_arrive 22 = .ok (.lconst 0, 1) := by decide +kernel
theorem dX12_arrive_23 : decode cX12_arrive 23 = .ok (.ldc2_w 369, 3) := by decide +kernel
theorem dX12_arrive_26 : decode cX12_arrive 26 = .ok (.invokestatic 98, 3) := by decide +kernel
theorem dX12_arrive_29 : decode cX12_arrive 29 = .ok (.ifCond .ne 6, 3) := by decide +kernel
theorem dX12_arrive_35 : decode cX12_arrive 35 = .ok (.aload_n 0, 1) := by decide +kernel
theorem dX12_arrive_36 : decode cX12_arrive 36 = .ok (.iload_n 1, 1) := by decide +kernel
theorem dX12_arrive_37 : decode cX12_arrive 37 = .ok (.iconst 0, 1) := by decide +kernel
theorem dX12_arrive_38 : decode cX12_arrive 38 = .ok (.invokevirtual 295, 3) := by decide +kernel
theorem dX12_arrive_41 : decode cX12_arrive 41 = .ok (.istore 4, 2) := by decide +kernel
theorem dX12_arrive_43 : decode cX12_arrive 43 = .ok (.aload_n 0, 1) := by decide +kernel
theorem dX12_arrive_44 : decode cX12_arrive 44 = .ok (.iload_n 1, 1) := by decide +kernel
theorem dX12_arrive_45 : decode cX12_arrive 45 = .ok (.iconst 1, 1) := by decide +kernel
theorem dX12_arrive_46 : decode cX12_arrive 46 = .ok (.invokevirtual 295, 3) := by decide +kernel
theorem dX12_arrive_49 : decode cX12_arrive 49 = .ok (.istore 5, 2) := by decide +kernel
theorem dX12_arrive_51 : decode cX12_arrive 51 = .ok (.iload_n 2, 1) := by decide +kernel
theorem dX12_arrive_52 : decode cX12_arrive 52 = .ok (.istore 6, 2) := by decide +kernel
theorem dX12_arrive_54 : decode cX12_arrive 54 = .ok (.iconst (-1), 1) := by decide +kernel
theorem dX12_arrive_55 : decode cX12_arrive 55 = .ok (.istore 7, 2) := by decide +kernel
theorem dX12_arrive_57 : decode cX12_arrive 57 = .ok (.iload 4, 2) := by decide +kernel
theorem dX12_arrive_59 : decode cX12_arrive 59 = .ok (.iload 5, 2) := by decide +kernel
theorem dX12_arrive_61 : decode cX12_arrive 61 = .ok (.if_icmp .eq 80, 3) := by decide +kernel
theorem dX12_arrive_64 : decode cX12_arrive 64 = .ok (.iload 6, 2) := by decide +kernel
theorem dX12_arrive_66 : decode cX12_arrive 66 = .ok (.iload_n 3, 1) := by decide +kernel
theorem dX12_arrive_67 : decode cX12_arrive 67 = .ok (.if_icmp .ge 7, 3) := by decide +kernel
theorem dX12_arrive_74 : decode cX12_arrive 74 = .ok (.iconst 1, 1) := by decide +kernel
theorem dX12_arrive_75 : decode cX12_arrive 75 = .ok (.istore 8, 2) := by decide +kernel
theorem dX12_arrive_77 : decode cX12_arrive 77 = .ok (.iload 8, 2) := by decide +kernel
theorem dX12_arrive_79 : decode cX12_arrive 79 = .ok (.iload 7, 2) := by decide +kernel
theorem dX12_arrive_81 : decode cX12_arrive 81 = .ok (.if_icmp .eq 17, 3) := by decide +kernel
theorem dX12_arrive_98 : decode cX12_arrive 98 = .ok (.aload_n 0, 1) := by decide +kernel
theorem dX12_arrive_99 : decode cX12_arrive 99 = .ok (.iload 4, 2) := by decide +kernel
theorem dX12_arrive_101 : decode cX12_arrive 101 = .ok (.iload 5, 2) := by decide +kernel
theorem dX12_arrive_103 : decode cX12_arrive 103 = .ok (.invokevirtual 326, 3) := by decide +kernel
theorem dX12_arrive_106 : decode cX12_arrive 106 = .ok (.istore 9, 2) := by decide +kernel
theorem dX12_arrive_108 : decode cX12_arrive 108 = .ok (.iload 9, 2) := by decide +kernel
theorem dX12_arrive_110 : decode cX12_arrive 110 = .ok (.iconst (-1), 1) := by decide +kernel
theorem dX12_arrive_111 : decode cX12_arrive 111 = .ok (.if_icmp .ne 5, 3) := by decide +kernel
theorem dX12_arrive_116 : decode cX12_arrive 116 = .ok (.iload 6, 2) := by decide +kernel
theorem dX12_arrive_118 : decode cX12_arrive 118 = .ok (.aload_n 0, 1) := by decide +kernel
theorem dX12_arrive_119 : decode cX12_arrive 119 = .ok (.iload 9, 2) := by decide +kernel
theorem dX12_arrive_121 : decode cX12_arrive 121 = .ok (.iconst 2, 1) := by decide +kernel
theorem dX12_arrive_122 : decode cX12_arrive 122 = .ok (.invokevirtual 230, 3) := by decide +kernel
theorem dX12_arrive_125 : decode cX12_arrive 125 = .ok (.iadd, 1) := by decide +kernel
theorem dX12_arrive_126 : decode cX12_arrive 126 = .ok (.istore 6, 2) := by decide +kernel
theorem dX12_arrive_128 : decode cX12_arrive 128 = .ok (.aload_n 0, 1) := by decide +kernel
theorem dX12_arrive_129 : decode cX12_arrive 129 = .ok (.iload 9, 2) := by decide +kernel
theorem dX12_arrive_131 : decode cX12_arrive 131 = .ok (.iload 4, 2) := by decide +kernel
theorem dX12_arrive_133 : decode cX12_arrive 133 = .ok (.invokevirtual 320, 3) := by decide +kernel
theorem dX12_arrive_136 : decode cX12_arrive 136 = .ok (.istore 4, 2) := by decide +kernel
theorem dX12_arrive_138 : decode cX12_arrive 138 = .ok (.goto (-81), 3) := by decide +kernel
theorem dX12_arrive_114 : decode cX12_arrive 114 = .ok (.iconst (-1), 1) := by decide +kernel
theorem dX12_arrive_115 : decode cX12_arrive 115 = .ok (.ireturn, 1) := by decide +kernel
theorem dX12_arrive_84 : decode cX12_arrive 84 = .ok (.aload_n 0, 1) := by decide +kernel
theorem dX12_arrive_85 : decode cX12_arrive 85 = .ok (.iload 8, 2) := by decide +kernel
theorem dX12_arrive_87 : decode cX12_arrive 87 = .ok (.invokevirtual 271, 3) := by decide +kernel
theorem dX12_arrive_90 : decode cX12_arrive 90 = .ok (.aload_n 0, 1) := by decide +kernel
theorem dX12_arrive_91 : decode cX12_arrive 91 = .ok (.invokevirtual 264, 3) := by decide +kernel
theorem dX12_arrive_94 : decode cX12_arrive 94 = .ok (.iload 8, 2) := by decide +kernel
theorem dX12_arrive_96 : decode cX12_arrive 96 = .ok (.istore 7, 2) := by decide +kernel
theorem dX12_arrive_70 : decode cX12_arrive 70 = .ok (.iconst 0, 1) := by decide +kernel
theorem dX12_arrive_71 : decode cX12_arrive 71 = .ok (.goto 4, 3) := by decide +kernel
theorem dX12_arrive_141 : decode cX12_arrive 141 = .ok (.iload 6, 2) := by decide +kernel
theorem dX12_arrive_143 : decode cX12_arrive 143 = .ok (.ireturn, 1) := by decide +kernel
theorem dX12_reach_0 : decode cX12_reach 0 = .ok (.iload_n 1, 1) := by decide +kernel
theorem dX12_reach_1 : decode cX12_reach 1 = .ok (.invokestatic 239, 3) := by decide +kernel
theorem dX12_reach_4 : decode cX12_reach 4 = .ok (.ifCond .eq 15, 3) := by decide +kernel
theorem dX12_reach_19 : decode cX12_reach 19 = .ok (.bipush (-2), 2) := by decide +kernel
theorem dX12_reach_21 : decode cX12_reach 21 = .ok (.ireturn, 1) := by decide +kernel
theorem dX12_reach_7 : decode cX12_reach 7 = .ok (.iload_n 2, 1) := by decide +kernel
theorem dX12_reach_8 : decode cX12_reach 8 = .ok (.i2l, 1) := by decide +kernel
theorem dX12_reach_9 : decode cX12_reach 9 = .ok (.lconst 0, 1) := by decide +kernel
theorem dX12_reach_10 : decode cX12_reach 10 = .ok (.ldc2_w 358, 3) := by decide +kernel
theorem dX12_reach_13 : decode cX12_reach 13 = .ok (.invokestatic 98, 3) := by decide +kernel
theorem dX12_reach_16 : decode cX12_reach 16 = .ok (.ifCond .ne 6, 3) := by decide +kernel
theorem dX12_reach_22 : decode cX12_reach 22 = .ok (.aload_n 0, 1) := by decide +kernel
theorem dX12_reach_23 : decode cX12_reach 23 = .ok (.getfield 13, 3) := by decide +kernel
theorem dX12_reach_26 : decode cX12_reach 26 = .ok (.iconst 4, 1) := by decide +kernel
theorem dX12_reach_27 : decode cX12_reach 27 = .ok (.iaload, 1) := by decide +kernel
theorem dX12_reach_28 : decode cX12_reach 28 = .ok (.iconst (-1), 1) := by decide +kernel
theorem dX12_reach_29 : decode cX12_reach 29 = .ok (.if_icmp .ne 6, 3) := by decide +kernel
theorem dX12_reach_35 : decode cX12_reach 35 = .ok (.aload_n 0, 1) := by decide +kernel
theorem dX12_reach_36 : decode cX12_reach 36 = .ok (.iload_n 1, 1) := by decide +kernel
theorem dX12_reach_37 : decode cX12_reach 37 = .ok (.invokevirtual 366, 3) := by decide +kernel
theorem dX12_reach_40 : decode cX12_reach 40 = .ok (.iconst 0, 1) := by decide +kernel
theorem dX12_reach_41 : decode cX12_reach 41 = .ok (.istore_n 3, 1) := by decide +kernel
theorem dX12_reach_42 : decode cX12_reach 42 = .ok (.iconst 0, 1) := by decide +kernel
theorem dX12_reach_43 : decode cX12_reach 43 = .ok (.istore 4, 2) := by decide +kernel
theorem dX12_reach_45 : decode cX12_reach 45 = .ok (.iload 4, 2) := by decide +kernel
theorem dX12_reach_47 : decode cX12_reach 47 = .ok (.aload_n 0, 1) := by decide +kernel
theorem dX12_reach_48 : decode cX12_reach 48 = .ok (.invokevirtual 106, 3) := by decide +kernel
theorem dX12_reach_51 : decode cX12_reach 51 = .ok (.if_icmp .ge 31, 3) := by decide +kernel
theorem dX12_reach_54 : decode cX12_reach 54 = .ok (.iload_n 3, 1) := by decide +kernel
theorem dX12_reach_55 : decode cX12_reach 55 = .ok (.aload_n 0, 1) := by decide +kernel
theorem dX12_reach_56 : decode cX12_reach 56 = .ok (.getfield 73, 3) := by decide +kernel
theorem dX12_reach_59 : decode cX12_reach 59 = .ok (.iload 4, 2) := by decide +kernel
theorem dX12_reach_61 : decode cX12_reach 61 = .ok (.iaload, 1) := by decide +kernel
theorem dX12_reach_62 : decode cX12_reach 62 = .ok (.iload_n 2, 1) := by decide +kernel
theorem dX12_reach_63 : decode cX12_reach 63 = .ok (.if_icmp .gt 10, 3) := by decide +kernel
theorem dX12_reach_73 : decode cX12_reach 73 = .ok (.iconst 0, 1) := by decide +kernel
theorem dX12_reach_74 : decode cX12_reach 74 = .ok (.ior, 1) := by decide +kernel
theorem dX12_reach_75 : decode cX12_reach 75 = .ok (.istore_n 3, 1) := by decide +kernel
theorem dX12_reach_76 : decode cX12_reach 76 = .ok (.iinc 4 1, 3) := by decide +kernel
theorem dX12_reach_79 : decode cX12_reach 79 = .ok (.goto (-34), 3) := by decide +kernel
theorem dX12_reach_66 : decode cX12_reach 66 = .ok (.iconst 1, 1) := by decide +kernel
theorem dX12_reach_67 : decode cX12_reach 67 = .ok (.iload 4, 2) := by decide +kernel
theorem dX12_reach_69 : decode cX12_reach 69 = .ok (.ishl, 1) := by decide +kernel
theorem dX12_reach_70 : decode cX12_reach 70 = .ok (.goto 4, 3) := by decide +kernel
theorem dX12_reach_82 : decode cX12_reach 82 = .ok (.iload_n 3, 1) := by decide +kernel
theorem dX12_reach_83 : decode cX12_reach 83 = .ok (.ireturn, 1) := by decide +kernel
theorem dX12_reach_32 : decode cX12_reach 32 = .ok (.bipush (-6), 2) := by decide +kernel
theorem dX12_reach_34 : decode cX12_reach 34 = .ok (.ireturn, 1) := by decide +kernel
theorem dX12_sumNow_16 : decode cX12_sumNow 16 = .ok (.aload_n 0, 1) := by decide +kernel
theorem dX12_sumNow_17 : decode cX12_sumNow 17 = .ok (.aload_n 0, 1) := by decide +kernel
theorem dX12_sumNow_18 : decode cX12_sumNow 18 = .ok (.iload_n 3, 1) := by decide +kernel
theorem dX12_sumNow_19 : decode cX12_sumNow 19 = .ok (.iconst 1, 1) := by decide +kernel
theorem dX12_sumNow_20 : decode cX12_sumNow 20 = .ok (.invokevirtual 295, 3) := by decide +kernel
theorem dX12_sumNow_23 : decode cX12_sumNow 23 = .ok (.aload_n 0, 1) := by decide +kernel
theorem dX12_sumNow_24 : decode cX12_sumNow 24 = .ok (.iload_n 3, 1) := by decide +kernel
theorem dX12_sumNow_25 : decode cX12_sumNow 25 = .ok (.iconst 0, 1) := by decide +kernel
theorem dX12_sumNow_26 : decode cX12_sumNow 26 = .ok (.invokevirtual 295, 3) := by decide +kernel
theorem dX12_sumNow_29 : decode cX12_sumNow 29 = .ok (.invokevirtual 298, 3) := by decide +kernel
theorem dX12_sumNow_32 : decode cX12_sumNow 32 = .ok (.goto 8, 3) := by decide +kernel
theorem dX12_turnsBack_0 : decode cX12_turnsBack 0 = .ok (.iload_n 2, 1) := by decide +kernel
theorem dX12_turnsBack_1 : decode cX12_turnsBack 1 = .ok (.ifCond .ne 70, 3) := by decide +kernel
theorem dX12_turnsBack_4 : decode cX12_turnsBack 4 = .ok (.aload_n 0, 1) := by decide +kernel
theorem dX12_turnsBack_5 : decode cX12_turnsBack 5 = .ok (.invokevirtual 274, 3) := by decide +kernel
theorem dX12_turnsBack_8 : decode cX12_turnsBack 8 = .ok (.ifCond .ne 5, 3) := by decide +kernel
theorem dX12_turnsBack_13 : decode cX12_turnsBack 13 = .ok (.aload_n 0, 1) := by decide +kernel
theorem dX12_turnsBack_14 : decode cX12_turnsBack 14 = .ok (.iconst 1, 1) := by decide +kernel
theorem dX12_turnsBack_15 : decode cX12_turnsBack 15 = .ok (.invokevirtual 310, 3) := by decide +kernel
theorem dX12_turnsBack_18 : decode cX12_turnsBack 18 = .ok (.istore 4, 2) := by decide +kernel
theorem dX12_turnsBack_20 : decode cX12_turnsBack 20 = .ok (.iload 4, 2) := by decide +kernel
theorem dX12_turnsBack_22 : decode cX12_turnsBack 22 = .ok (.aload_n 0, 1) := by decide +kernel
theorem dX12_turnsBack_23 : decode cX12_turnsBack 23 = .ok (.getfield 371, 3) := by decide +kernel
theorem dX12_turnsBack_26 : decode cX12_turnsBack 26 = .ok (.if_icmp .lt 5, 3) := by decide +kernel
theorem dX12_turnsBack_31 : decode cX12_turnsBack 31 = .ok (.aload_n 0, 1) := by decide +kernel
theorem dX12_turnsBack_32 : decode cX12_turnsBack 32 = .ok (.iload 4, 2) := by decide +kernel
theorem dX12_turnsBack_34 : decode cX12_turnsBack 34 = .ok (.putfield 371, 3) := by decide +kernel
theorem dX12_turnsBack_37 : decode cX12_turnsBack 37 = .ok (.iconst 0, 1) := by decide +kernel
theorem dX12_turnsBack_38 : decode cX12_turnsBack 38 = .ok (.istore 5, 2) := by decide +kernel
theorem dX12_turnsBack_40 : decode cX12_turnsBack 40 = .ok (.iload 5, 2) := by decide +kernel
theorem dX12_turnsBack_42 : decode cX12_turnsBack 42 = .ok (.aload_n 0, 1) := by decide +kernel
theorem dX12_turnsBack_43 : decode cX12_turnsBack 43 = .ok (.invokevirtual 102, 3) := by decide +kernel
theorem dX12_turnsBack_46 : decode cX12_turnsBack 46 = .ok (.if_icmp .ge 23, 3) := by decide +kernel
theorem dX12_turnsBack_49 : decode cX12_turnsBack 49 = .ok (.aload_n 0, 1) := by decide +kernel
theorem dX12_turnsBack_50 : decode cX12_turnsBack 50 = .ok (.getfield 55, 3) := by decide +kernel
theorem dX12_turnsBack_53 : decode cX12_turnsBack 53 = .ok (.iload 5, 2) := by decide +kernel
theorem dX12_turnsBack_55 : decode cX12_turnsBack 55 = .ok (.aload_n 0, 1) := by decide +kernel
theorem dX12_turnsBack_56 : decode cX12_turnsBack 56 = .ok (.getfield 40, 3) := by decide +kernel
theorem dX12_turnsBack_59 : decode cX12_turnsBack 59 = .ok (.iload 5, 2) := by decide +kernel
theorem dX12_turnsBack_61 : decode cX12_turnsBack 61 = .ok (.iaload, 1) := by decide +kernel
theorem dX12_turnsBack_62 : decode cX12_turnsBack 62 = .ok (.iastore, 1) := by decide +kernel
theorem dX12_turnsBack_63 : decode cX12_turnsBack 63 = .ok (.iinc 5 1, 3) := by decide +kernel
theorem dX12_turnsBack_66 : decode cX12_turnsBack 66 = .ok (.goto (-26), 3) := by decide +kernel
theorem dX12_turnsBack_69 : decode cX12_turnsBack 69 = .ok (.iconst 1, 1) := by decide +kernel
theorem dX12_turnsBack_70 : decode cX12_turnsBack 70 = .ok (.ireturn, 1) := by decide +kernel
theorem dX12_turnsBack_29 : decode cX12_turnsBack 29 = .ok (.iconst 0, 1) := by decide +kernel
theorem dX12_turnsBack_30 : decode cX12_turnsBack 30 = .ok (.ireturn, 1) := by decide +kernel
theorem dX12_turnsBack_11 : decode cX12_turnsBack 11 = .ok (.iconst 0, 1) := by decide +kernel
theorem dX12_turnsBack_12 : decode cX12_turnsBack 12 = .ok (.ireturn, 1) := by decide +kernel
theorem dX12_turnsBack_71 : decode cX12_turnsBack 71 = .ok (.iload_n 3, 1) := by decide +kernel
theorem dX12_turnsBack_72 : decode cX12_turnsBack 72 = .ok (.istore 4, 2) := by decide +kernel
theorem dX12_turnsBack_74 : decode cX12_turnsBack 74 = .ok (.iload_n 1, 1) := by decide +kernel
theorem dX12_turnsBack_75 : decode cX12_turnsBack 75 = .ok (.istore 5, 2) := by decide +kernel
theorem dX12_turnsBack_77 : decode cX12_turnsBack 77 = .ok (.iload 5, 2) := by decide +kernel
theorem dX12_turnsBack_79 : decode cX12_turnsBack 79 = .ok (.aload_n 0, 1) := by decide +kernel
theorem dX12_turnsBack_80 : decode cX12_turnsBack 80 = .ok (.invokevirtual 102, 3) := by decide +kernel
theorem dX12_turnsBack_83 : decode cX12_turnsBack 83 = .ok (.if_icmp .ge 60, 3) := by decide +kernel
theorem dX12_turnsBack_86 : decode cX12_turnsBack 86 = .ok (.aload_n 0, 1) := by decide +kernel
theorem dX12_turnsBack_87 : decode cX12_turnsBack 87 = .ok (.iload 5, 2) := by decide +kernel
theorem dX12_turnsBack_89 : decode cX12_turnsBack 89 = .ok (.invokevirtual 329, 3) := by decide +kernel
theorem dX12_turnsBack_92 : decode cX12_turnsBack 92 = .ok (.ifCond .ne 6, 3) := by decide +kernel
theorem dX12_turnsBack_95 : decode cX12_turnsBack 95 = .ok (.goto 42, 3) := by decide +kernel
theorem dX12_turnsBack_137 : decode cX12_turnsBack 137 = .ok (.iinc 5 1, 3) := by decide +kernel
theorem dX12_turnsBack_140 : decode cX12_turnsBack 140 = .ok (.goto (-63), 3) := by decide +kernel
theorem dX12_turnsBack_98 : decode cX12_turnsBack 98 = .ok (.aload_n 0, 1) := by decide +kernel
theorem dX12_turnsBack_99 : decode cX12_turnsBack 99 = .ok (.iload 5, 2) := by decide +kernel
theorem dX12_turnsBack_101 : decode cX12_turnsBack 101 = .ok (.invokevirtual 332, 3) := by decide +kernel
theorem dX12_turnsBack_104 : decode cX12_turnsBack 104 = .ok (.aload_n 0, 1) := by decide +kernel
theorem dX12_turnsBack_105 : decode cX12_turnsBack 105 = .ok (.iload 5, 2) := by decide +kernel
theorem dX12_turnsBack_107 : decode cX12_turnsBack 107 = .ok (.iconst 1, 1) := by decide +kernel
theorem dX12_turnsBack_108 : decode cX12_turnsBack 108 = .ok (.iadd, 1) := by decide +kernel
theorem dX12_turnsBack_109 : decode cX12_turnsBack 109 = .ok (.iload_n 2, 1) := by decide +kernel
theorem dX12_turnsBack_110 : decode cX12_turnsBack 110 = .ok (.iconst 1, 1) := by decide +kernel
theorem dX12_turnsBack_111 : decode cX12_turnsBack 111 = .ok (.isub, 1) := by decide +kernel
theorem dX12_turnsBack_112 : decode cX12_turnsBack 112 = .ok (.iconst 0, 1) := by decide +kernel
theorem dX12_turnsBack_113 : decode cX12_turnsBack 113 = .ok (.invokevirtual 374, 3) := by decide +kernel
theorem dX12_turnsBack_116 : decode cX12_turnsBack 116 = .ok (.ifCond .ne 8, 3) := by decide +kernel
theorem dX12_turnsBack_124 : decode cX12_turnsBack 124 = .ok (.iconst 1, 1) := by decide +kernel
theorem dX12_turnsBack_125 : decode cX12_turnsBack 125 = .ok (.goto 4, 3) := by decide +kernel
theorem dX12_turnsBack_129 : decode cX12_turnsBack 129 = .ok (.istore 4, 2) := by decide +kernel
theorem dX12_turnsBack_131 : decode cX12_turnsBack 131 = .ok (.aload_n 0, 1) := by decide +kernel
theorem dX12_turnsBack_132 : decode cX12_turnsBack 132 = .ok (.iload 5, 2) := by decide +kernel
theorem dX12_turnsBack_134 : decode cX12_turnsBack 134 = .ok (.invokevirtual 332, 3) := by decide +kernel
theorem dX12_turnsBack_119 : decode cX12_turnsBack 119 = .ok (.iload 4, 2) := by decide +kernel
theorem dX12_turnsBack_121 : decode cX12_turnsBack 121 = .ok (.ifCond .eq 7, 3) := by decide +kernel
theorem dX12_turnsBack_128 : decode cX12_turnsBack 128 = .ok (.iconst 0, 1) := by decide +kernel
theorem dX12_turnsBack_143 : decode cX12_turnsBack 143 = .ok (.iload 4, 2) := by decide +kernel
theorem dX12_turnsBack_145 : decode cX12_turnsBack 145 = .ok (.ireturn, 1) := by decide +kernel
theorem dX12_afternoon_0 : decode cX12_afternoon 0 = .ok (.iload_n 1, 1) := by decide +kernel
theorem dX12_afternoon_1 : decode cX12_afternoon 1 = .ok (.i2l, 1) := by decide +kernel
theorem dX12_afternoon_2 : decode cX12_afternoon 2 = .ok (.lconst 0, 1) := by decide +kernel
theorem dX12_afternoon_3 : decode cX12_afternoon 3 = .ok (.ldc2_w 96, 3) := by decide +kernel
theorem dX12_afternoon_6 : decode cX12_afternoon 6 = .ok (.invokestatic 98, 3) := by decide +kernel
theorem dX12_afternoon_9 : decode cX12_afternoon 9 = .ok (.ifCond .ne 6, 3) := by decide +kernel
theorem dX12_afternoon_12 : decode cX12_afternoon 12 = .ok (.bipush (-2), 2) := by decide +kernel
theorem dX12_afternoon_14 : decode cX12_afternoon 14 = .ok (.ireturn, 1) := by decide +kernel
theorem dX12_afternoon_15 : decode cX12_afternoon 15 = .ok (.aload_n 0, 1) := by decide +kernel
theorem dX12_afternoon_16 : decode cX12_afternoon 16 = .ok (.iconst 0, 1) := by decide +kernel
theorem dX12_afternoon_17 : decode cX12_afternoon 17 = .ok (.invokevirtual 271, 3) := by decide +kernel
theorem dX12_afternoon_20 : decode cX12_afternoon 20 = .ok (.aload_n 0, 1) := by decide +kernel
theorem dX12_afternoon_21 : decode cX12_afternoon 21 = .ok (.invokevirtual 341, 3) := by decide +kernel
theorem dX12_afternoon_24 : decode cX12_afternoon 24 = .ok (.ifCond .ne 6, 3) := by decide +kernel
theorem dX12_afternoon_30 : decode cX12_afternoon 30 = .ok (.aload_n 0, 1) := by decide +kernel
theorem dX12_afternoon_31 : decode cX12_afternoon 31 = .ok (.aload_n 0, 1) := by decide +kernel
theorem dX12_afternoon_32 : decode cX12_afternoon 32 = .ok (.getfield 46, 3) := by decide +kernel
theorem dX12_afternoon_35 : decode cX12_afternoon 35 = .ok (.iconst 1, 1) := by decide +kernel
theorem dX12_afternoon_36 : decode cX12_afternoon 36 = .ok (.invokevirtual 260, 3) := by decide +kernel
theorem dX12_afternoon_39 : decode cX12_afternoon 39 = .ok (.aload_n 0, 1) := by decide +kernel
theorem dX12_afternoon_40 : decode cX12_afternoon 40 = .ok (.ldc_w 380, 3) := by decide +kernel
theorem dX12_afternoon_43 : decode cX12_afternoon 43 = .ok (.putfield 371, 3) := by decide +kernel
theorem dX12_afternoon_46 : decode cX12_afternoon 46 = .ok (.iconst 0, 1) := by decide +kernel
theorem dX12_afternoon_47 : decode cX12_afternoon 47 = .ok (.istore_n 2, 1) := by decide +kernel
theorem dX12_afternoon_48 : decode cX12_afternoon 48 = .ok (.iconst 0, 1) := by decide +kernel
theorem dX12_afternoon_49 : decode cX12_afternoon 49 = .ok (.istore_n 3, 1) := by decide +kernel
theorem dX12_afternoon_50 : decode cX12_afternoon 50 = .ok (.iload_n 3, 1) := by decide +kernel
theorem dX12_afternoon_51 : decode cX12_afternoon 51 = .ok (.iload_n 1, 1) := by decide +kernel
theorem dX12_afternoon_52 : decode cX12_afternoon 52 = .ok (.if_icmp .gt 21, 3) := by decide +kernel
theorem dX12_afternoon_55 : decode cX12_afternoon 55 = .ok (.aload_n 0, 1) := by decide +kernel
theorem dX12_afternoon_56 : decode cX12_afternoon 56 = .ok (.iconst 0, 1) := by decide +kernel
theorem dX12_afternoon_57 : decode cX12_afternoon 57 = .ok (.iload_n 3, 1) := by decide +kernel
theorem dX12_afternoon_58 : decode cX12_afternoon 58 = .ok (.iconst 0, 1) := by decide +kernel
theorem dX12_afternoon_59 : decode cX12_afternoon 59 = .ok (.invokevirtual 374, 3) := by decide +kernel
theorem dX12_afternoon_62 : decode cX12_afternoon 62 = .ok (.ifCond .eq 5, 3) := by decide +kernel
theorem dX12_afternoon_67 : decode cX12_afternoon 67 = .ok (.iinc 3 1, 3) := by decide +kernel
theorem dX12_afternoon_70 : decode cX12_afternoon 70 = .ok (.goto (-20), 3) := by decide +kernel
theorem dX12_afternoon_65 : decode cX12_afternoon 65 = .ok (.iload_n 3, 1) := by decide +kernel
theorem dX12_afternoon_66 : decode cX12_afternoon 66 = .ok (.istore_n 2, 1) := by decide +kernel
theorem dX12_afternoon_73 : decode cX12_afternoon 73 = .ok (.iconst 0, 1) := by decide +kernel
theorem dX12_afternoon_74 : decode cX12_afternoon 74 = .ok (.istore_n 3, 1) := by decide +kernel
theorem dX12_afternoon_75 : decode cX12_afternoon 75 = .ok (.iload_n 3, 1) := by decide +kernel
theorem dX12_afternoon_76 : decode cX12_afternoon 76 = .ok (.aload_n 0, 1) := by decide +kernel
theorem dX12_afternoon_77 : decode cX12_afternoon 77 = .ok (.invokevirtual 102, 3) := by decide +kernel
theorem dX12_afternoon_80 : decode cX12_afternoon 80 = .ok (.if_icmp .ge 21, 3) := by decide +kernel
theorem dX12_afternoon_83 : decode cX12_afternoon 83 = .ok (.aload_n 0, 1) := by decide +kernel
theorem dX12_afternoon_84 : decode cX12_afternoon 84 = .ok (.getfield 40, 3) := by decide +kernel
theorem dX12_afternoon_87 : decode cX12_afternoon 87 = .ok (.iload_n 3, 1) := by decide +kernel
theorem dX12_afternoon_88 : decode cX12_afternoon 88 = .ok (.aload_n 0, 1) := by decide +kernel
theorem dX12_afternoon_89 : decode cX12_afternoon 89 = .ok (.getfield 55, 3) := by decide +kernel
theorem dX12_afternoon_92 : decode cX12_afternoon 92 = .ok (.iload_n 3, 1) := by decide +kernel
theorem dX12_afternoon_93 : decode cX12_afternoon 93 = .ok (.iaload, 1) := by decide +kernel
theorem dX12_afternoon_94 : decode cX12_afternoon 94 = .ok (.iastore, 1) := by decide +kernel
theorem dX12_afternoon_95 : decode cX12_afternoon 95 = .ok (.iinc 3 1, 3) := by decide +kernel
theorem dX12_afternoon_98 : decode cX12_afternoon 98 = .ok (.goto (-23), 3) := by decide +kernel
theorem dX12_afternoon_101 : decode cX12_afternoon 101 = .ok (.aload_n 0, 1) := by decide +kernel
theorem dX12_afternoon_102 : decode cX12_afternoon 102 = .ok (.iconst 1, 1) := by decide +kernel
theorem dX12_afternoon_103 : decode cX12_afternoon 103 = .ok (.invokevirtual 286, 3) := by decide +kernel
theorem dX12_afternoon_106 : decode cX12_afternoon 106 = .ok (.iload_n 2, 1) := by decide +kernel
theorem dX12_afternoon_107 : decode cX12_afternoon 107 = .ok (.ireturn, 1) := by decide +kernel
theorem dX12_afternoon_27 : decode cX12_afternoon 27 = .ok (.bipush (-5), 2) := by decide +kernel
theorem dX12_afternoon_29 : decode cX12_afternoon 29 = .ok (.ireturn, 1) := by decide +kernel
theorem dX12_sumBack_0 : decode cX12_sumBack 0 = .ok (.iload_n 1, 1) := by decide +kernel
theorem dX12_sumBack_1 : decode cX12_sumBack 1 = .ok (.invokestatic 239, 3) := by decide +kernel
theorem dX12_sumBack_4 : decode cX12_sumBack 4 = .ok (.ifCond .ne 6, 3) := by decide +kernel
theorem dX12_sumBack_7 : decode cX12_sumBack 7 = .ok (.bipush (-2), 2) := by decide +kernel
theorem dX12_sumBack_9 : decode cX12_sumBack 9 = .ok (.ireturn, 1) := by decide +kernel
theorem dX12_sumBack_10 : decode cX12_sumBack 10 = .ok (.aload_n 0, 1) := by decide +kernel
theorem dX12_sumBack_11 : decode cX12_sumBack 11 = .ok (.iload_n 1, 1) := by decide +kernel
theorem dX12_sumBack_12 : decode cX12_sumBack 12 = .ok (.invokevirtual 271, 3) := by decide +kernel
theorem dX12_sumBack_15 : decode cX12_sumBack 15 = .ok (.aload_n 0, 1) := by decide +kernel
theorem dX12_sumBack_16 : decode cX12_sumBack 16 = .ok (.aload_n 0, 1) := by decide +kernel
theorem dX12_sumBack_17 : decode cX12_sumBack 17 = .ok (.getfield 46, 3) := by decide +kernel
theorem dX12_sumBack_20 : decode cX12_sumBack 20 = .ok (.iconst 1, 1) := by decide +kernel
theorem dX12_sumBack_21 : decode cX12_sumBack 21 = .ok (.invokevirtual 260, 3) := by decide +kernel
theorem dX12_sumBack_24 : decode cX12_sumBack 24 = .ok (.aload_n 0, 1) := by decide +kernel
theorem dX12_sumBack_25 : decode cX12_sumBack 25 = .ok (.invokevirtual 264, 3) := by decide +kernel
theorem dX12_sumBack_28 : decode cX12_sumBack 28 = .ok (.aload_n 0, 1) := by decide +kernel
theorem dX12_sumBack_29 : decode cX12_sumBack 29 = .ok (.iconst 1, 1) := by decide +kernel
theorem dX12_sumBack_30 : decode cX12_sumBack 30 = .ok (.invokevirtual 310, 3) := by decide +kernel
theorem dX12_sumBack_33 : decode cX12_sumBack 33 = .ok (.ireturn, 1) := by decide +kernel
theorem dX12_walk_0 : decode cX12_walk 0 = .ok (.iload_n 1, 1) := by decide +kernel
theorem dX12_walk_1 : decode cX12_walk 1 = .ok (.invokestatic 239, 3) := by decide +kernel
theorem dX12_walk_4 : decode cX12_walk 4 = .ok (.ifCond .eq 23, 3) := by decide +kernel
theorem dX12_walk_27 : decode cX12_walk 27 = .ok (.bipush (-2), 2) := by decide +kernel
theorem dX12_walk_29 : decode cX12_walk 29 = .ok (.ireturn, 1) := by decide +kernel
theorem dX12_walk_7 : decode cX12_walk 7 = .ok (.aload_n 0, 1) := by decide +kernel
theorem dX12_walk_8 : decode cX12_walk 8 = .ok (.iload_n 2, 1) := by decide +kernel
theorem dX12_walk_9 : decode cX12_walk 9 = .ok (.invokevirtual 292, 3) := by decide +kernel
theorem dX12_walk_12 : decode cX12_walk 12 = .ok (.ifCond .eq 15, 3) := by decide +kernel
theorem dX12_walk_15 : decode cX12_walk 15 = .ok (.iload_n 3, 1) := by decide +kernel
theorem dX12_walk_16 : decode cX12_walk 16 = .ok (.i2l, 1) := by decide +kernel
theorem dX12_walk_17 : decode cX12_walk 17 = .ok (.lconst 0, 1) := by decide +kernel
theorem dX12_walk_18 : decode cX12_walk 18 = .ok (.ldc2_w 381, 3) := by decide +kernel
theorem dX12_walk_21 : decode cX12_walk 21 = .ok (.invokestatic 98, 3) := by decide +kernel
theorem dX12_walk_24 : decode cX12_walk 24 = .ok (.ifCond .ne 6, 3) := by decide +kernel
theorem dX12_walk_30 : decode cX12_walk 30 = .ok (.aload_n 0, 1) := by decide +kernel
theorem dX12_walk_31 : decode cX12_walk 31 = .ok (.iload_n 1, 1) := by decide +kernel
theorem dX12_walk_32 : decode cX12_walk 32 = .ok (.invokevirtual 271, 3) := by decide +kernel
theorem dX12_walk_35 : decode cX12_walk 35 = .ok (.iload_n 2, 1) := by decide +kernel
theorem dX12_walk_36 : decode cX12_walk 36 = .ok (.istore 4, 2) := by decide +kernel
theorem dX12_walk_38 : decode cX12_walk 38 = .ok (.iconst (-1), 1) := by decide +kernel
theorem dX12_walk_39 : decode cX12_walk 39 = .ok (.istore 5, 2) := by decide +kernel
theorem dX12_walk_41 : decode cX12_walk 41 = .ok (.iconst 0, 1) := by decide +kernel
theorem dX12_walk_42 : decode cX12_walk 42 = .ok (.istore 6, 2) := by decide +kernel
theorem dX12_walk_44 : decode cX12_walk 44 = .ok (.iload 6, 2) := by decide +kernel
theorem dX12_walk_46 : decode cX12_walk 46 = .ok (.iload_n 3, 1) := by decide +kernel
theorem dX12_walk_47 : decode cX12_walk 47 = .ok (.if_icmp .ge 110, 3) := by decide +kernel
theorem dX12_walk_50 : decode cX12_walk 50 = .ok (.iconst (-1), 1) := by decide +kernel
theorem dX12_walk_51 : decode cX12_walk 51 = .ok (.istore 7, 2) := by decide +kernel
theorem dX12_walk_53 : decode cX12_walk 53 = .ok (.aload_n 0, 1) := by decide +kernel
theorem dX12_walk_54 : decode cX12_walk 54 = .ok (.invokevirtual 102, 3) := by decide +kernel
theorem dX12_walk_57 : decode cX12_walk 57 = .ok (.iconst 1, 1) := by decide +kernel
theorem dX12_walk_58 : decode cX12_walk 58 = .ok (.isub, 1) := by decide +kernel
theorem dX12_walk_59 : decode cX12_walk 59 = .ok (.istore 8, 2) := by decide +kernel
theorem dX12_walk_61 : decode cX12_walk 61 = .ok (.iload 8, 2) := by decide +kernel
theorem dX12_walk_63 : decode cX12_walk 63 = .ok (.ifCond .lt 37, 3) := by decide +kernel
theorem dX12_walk_66 : decode cX12_walk 66 = .ok (.iload 8, 2) := by decide +kernel
theorem dX12_walk_68 : decode cX12_walk 68 = .ok (.iload 5, 2) := by decide +kernel
theorem dX12_walk_70 : decode cX12_walk 70 = .ok (.if_icmp .eq 20, 3) := by decide +kernel
theorem dX12_walk_90 : decode cX12_walk 90 = .ok (.iload 7, 2) := by decide +kernel
theorem dX12_walk_92 : decode cX12_walk 92 = .ok (.istore 7, 2) := by decide +kernel
theorem dX12_walk_94 : decode cX12_walk 94 = .ok (.iinc 8 (-1), 3) := by decide +kernel
theorem dX12_walk_97 : decode cX12_walk 97 = .ok (.goto (-36), 3) := by decide +kernel
theorem dX12_walk_73 : decode cX12_walk 73 = .ok (.aload_n 0, 1) := by decide +kernel
theorem dX12_walk_74 : decode cX12_walk 74 = .ok (.iload 8, 2) := by decide +kernel
theorem dX12_walk_76 : decode cX12_walk 76 = .ok (.iload 4, 2) := by decide +kernel
theorem dX12_walk_78 : decode cX12_walk 78 = .ok (.invokevirtual 320, 3) := by decide +kernel
theorem dX12_walk_81 : decode cX12_walk 81 = .ok (.iconst (-1), 1) := by decide +kernel
theorem dX12_walk_82 : decode cX12_walk 82 = .ok (.if_icmp .eq 8, 3) := by decide +kernel
theorem dX12_walk_85 : decode cX12_walk 85 = .ok (.iload 8, 2) := by decide +kernel
theorem dX12_walk_87 : decode cX12_walk 87 = .ok (.goto 5, 3) := by decide +kernel
theorem dX12_walk_100 : decode cX12_walk 100 = .ok (.iload 7, 2) := by decide +kernel
theorem dX12_walk_102 : decode cX12_walk 102 = .ok (.iconst (-1), 1) := by decide +kernel
theorem dX12_walk_103 : decode cX12_walk 103 = .ok (.if_icmp .ne 25, 3) := by decide +kernel
theorem dX12_walk_128 : decode cX12_walk 128 = .ok (.iload 7, 2) := by decide +kernel
theorem dX12_walk_130 : decode cX12_walk 130 = .ok (.iconst (-1), 1) := by decide +kernel
theorem dX12_walk_131 : decode cX12_walk 131 = .ok (.if_icmp .ne 6, 3) := by decide +kernel
theorem dX12_walk_137 : decode cX12_walk 137 = .ok (.aload_n 0, 1) := by decide +kernel
theorem dX12_walk_138 : decode cX12_walk 138 = .ok (.iload 7, 2) := by decide +kernel
theorem dX12_walk_140 : decode cX12_walk 140 = .ok (.iload 4, 2) := by decide +kernel
theorem dX12_walk_142 : decode cX12_walk 142 = .ok (.invokevirtual 320, 3) := by decide +kernel
theorem dX12_walk_145 : decode cX12_walk 145 = .ok (.istore 4, 2) := by decide +kernel
theorem dX12_walk_147 : decode cX12_walk 147 = .ok (.iload 7, 2) := by decide +kernel
theorem dX12_walk_149 : decode cX12_walk 149 = .ok (.istore 5, 2) := by decide +kernel
theorem dX12_walk_151 : decode cX12_walk 151 = .ok (.iinc 6 1, 3) := by decide +kernel
theorem dX12_walk_154 : decode cX12_walk 154 = .ok (.goto (-110), 3) := by decide +kernel
theorem dX12_walk_106 : decode cX12_walk 106 = .ok (.iload 5, 2) := by decide +kernel
theorem dX12_walk_108 : decode cX12_walk 108 = .ok (.iconst (-1), 1) := by decide +kernel
theorem dX12_walk_109 : decode cX12_walk 109 = .ok (.if_icmp .eq 19, 3) := by decide +kernel
theorem dX12_walk_134 : decode cX12_walk 134 = .ok (.iload 4, 2) := by decide +kernel
theorem dX12_walk_136 : decode cX12_walk 136 = .ok (.ireturn, 1) := by decide +kernel
theorem dX12_walk_112 : decode cX12_walk 112 = .ok (.aload_n 0, 1) := by decide +kernel
theorem dX12_walk_113 : decode cX12_walk 113 = .ok (.iload 5, 2) := by decide +kernel
theorem dX12_walk_115 : decode cX12_walk 115 = .ok (.iload 4, 2) := by decide +kernel
theorem dX12_walk_117 : decode cX12_walk 117 = .ok (.invokevirtual 320, 3) := by decide +kernel
theorem dX12_walk_120 : decode cX12_walk 120 = .ok (.iconst (-1), 1) := by decide +kernel
theorem dX12_walk_121 : decode cX12_walk 121 = .ok (.if_icmp .eq 7, 3) := by decide +kernel
theorem dX12_walk_124 : decode cX12_walk 124 = .ok (.iload 5, 2) := by decide +kernel
theorem dX12_walk_126 : decode cX12_walk 126 = .ok (.istore 7, 2) := by decide +kernel
theorem dX12_walk_157 : decode cX12_walk 157 = .ok (.iload 4, 2) := by decide +kernel
theorem dX12_walk_159 : decode cX12_walk 159 = .ok (.ireturn, 1) := by decide +kernel
theorem dX12_change_0 : decode cX12_change 0 = .ok (.iconst 0, 1) := by decide +kernel
theorem dX12_change_1 : decode cX12_change 1 = .ok (.istore_n 1, 1) := by decide +kernel
theorem dX12_change_2 : decode cX12_change 2 = .ok (.iconst 0, 1) := by decide +kernel
theorem dX12_change_3 : decode cX12_change 3 = .ok (.istore_n 2, 1) := by decide +kernel
theorem dX12_change_4 : decode cX12_change 4 = .ok (.iload_n 2, 1) := by decide +kernel
theorem dX12_change_5 : decode cX12_change 5 = .ok (.aload_n 0, 1) := by decide +kernel
theorem dX12_change_6 : decode cX12_change 6 = .ok (.invokevirtual 102, 3) := by decide +kernel
theorem dX12_change_9 : decode cX12_change 9 = .ok (.if_icmp .ge 32, 3) := by decide +kernel
theorem dX12_change_12 : decode cX12_change 12 = .ok (.iload_n 1, 1) := by decide +kernel
theorem dX12_change_13 : decode cX12_change 13 = .ok (.aload_n 0, 1) := by decide +kernel
theorem dX12_change_14 : decode cX12_change 14 = .ok (.iconst 0, 1) := by decide +kernel
theorem dX12_change_15 : decode cX12_change 15 = .ok (.iload_n 2, 1) := by decide +kernel
theorem dX12_change_16 : decode cX12_change 16 = .ok (.invokevirtual 249, 3) := by decide +kernel
theorem dX12_change_19 : decode cX12_change 19 = .ok (.aload_n 0, 1) := by decide +kernel
theorem dX12_change_20 : decode cX12_change 20 = .ok (.iconst 1, 1) := by decide +kernel
theorem dX12_change_21 : decode cX12_change 21 = .ok (.iload_n 2, 1) := by decide +kernel
theorem dX12_change_22 : decode cX12_change 22 = .ok (.invokevirtual 249, 3) := by decide +kernel
theorem dX12_change_25 : decode cX12_change 25 = .ok (.if_icmp .ne 7, 3) := by decide +kernel
theorem dX12_change_32 : decode cX12_change 32 = .ok (.iconst 1, 1) := by decide +kernel
theorem dX12_change_33 : decode cX12_change 33 = .ok (.iadd, 1) := by decide +kernel
theorem dX12_change_34 : decode cX12_change 34 = .ok (.istore_n 1, 1) := by decide +kernel
theorem dX12_change_35 : decode cX12_change 35 = .ok (.iinc 2 1, 3) := by decide +kernel
theorem dX12_change_38 : decode cX12_change 38 = .ok (.goto (-34), 3) := by decide +kernel
theorem dX12_change_28 : decode cX12_change 28 = .ok (.iconst 0, 1) := by decide +kernel
theorem dX12_change_29 : decode cX12_change 29 = .ok (.goto 4, 3) := by decide +kernel
theorem dX12_change_41 : decode cX12_change 41 = .ok (.iload_n 1, 1) := by decide +kernel
theorem dX12_change_42 : decode cX12_change 42 = .ok (.ireturn, 1) := by decide +kernel
theorem dX12_signsNow_0 : decode cX12_signsNow 0 = .ok (.iconst 0, 1) := by decide +kernel
theorem dX12_signsNow_1 : decode cX12_signsNow 1 = .ok (.istore_n 1, 1) := by decide +kernel
theorem dX12_signsNow_2 : decode cX12_signsNow 2 = .ok (.iconst 0, 1) := by decide +kernel
theorem dX12_signsNow_3 : decode cX12_signsNow 3 = .ok (.istore_n 2, 1) := by decide +kernel
theorem dX12_signsNow_4 : decode cX12_signsNow 4 = .ok (.iload_n 2, 1) := by decide +kernel
theorem dX12_signsNow_5 : decode cX12_signsNow 5 = .ok (.aload_n 0, 1) := by decide +kernel
theorem dX12_signsNow_6 : decode cX12_signsNow 6 = .ok (.invokevirtual 106, 3) := by decide +kernel
theorem dX12_signsNow_9 : decode cX12_signsNow 9 = .ok (.if_icmp .ge 95, 3) := by decide +kernel
theorem dX12_signsNow_12 : decode cX12_signsNow 12 = .ok (.iconst 0, 1) := by decide +kernel
theorem dX12_signsNow_13 : decode cX12_signsNow 13 = .ok (.istore_n 3, 1) := by decide +kernel
theorem dX12_signsNow_14 : decode cX12_signsNow 14 = .ok (.iconst 0, 1) := by decide +kernel
theorem dX12_signsNow_15 : decode cX12_signsNow 15 = .ok (.istore 4, 2) := by decide +kernel
theorem dX12_signsNow_17 : decode cX12_signsNow 17 = .ok (.iconst 0, 1) := by decide +kernel
theorem dX12_signsNow_18 : decode cX12_signsNow 18 = .ok (.istore 5, 2) := by decide +kernel
theorem dX12_signsNow_20 : decode cX12_signsNow 20 = .ok (.iload 5, 2) := by decide +kernel
theorem dX12_signsNow_22 : decode cX12_signsNow 22 = .ok (.aload_n 0, 1) := by decide +kernel
theorem dX12_signsNow_23 : decode cX12_signsNow 23 = .ok (.invokevirtual 102, 3) := by decide +kernel
theorem dX12_signsNow_26 : decode cX12_signsNow 26 = .ok (.if_icmp .ge 54, 3) := by decide +kernel
theorem dX12_signsNow_29 : decode cX12_signsNow 29 = .ok (.aload_n 0, 1) := by decide +kernel
theorem dX12_signsNow_30 : decode cX12_signsNow 30 = .ok (.iload 5, 2) := by decide +kernel
theorem dX12_signsNow_32 : decode cX12_signsNow 32 = .ok (.iconst 0, 1) := by decide +kernel
theorem dX12_signsNow_33 : decode cX12_signsNow 33 = .ok (.invokevirtual 230, 3) := by decide +kernel
theorem dX12_signsNow_36 : decode cX12_signsNow 36 = .ok (.iload_n 2, 1) := by decide +kernel
theorem dX12_signsNow_37 : decode cX12_signsNow 37 = .ok (.if_icmp .eq 17, 3) := by decide +kernel
theorem dX12_signsNow_54 : decode cX12_signsNow 54 = .ok (.aload_n 0, 1) := by decide +kernel
theorem dX12_signsNow_55 : decode cX12_signsNow 55 = .ok (.iload 5, 2) := by decide +kernel
theorem dX12_signsNow_57 : decode cX12_signsNow 57 = .ok (.iload_n 2, 1) := by decide +kernel
theorem dX12_signsNow_58 : decode cX12_signsNow 58 = .ok (.invokevirtual 320, 3) := by decide +kernel
theorem dX12_signsNow_61 : decode cX12_signsNow 61 = .ok (.iconst (-1), 1) := by decide +kernel
theorem dX12_signsNow_62 : decode cX12_signsNow 62 = .ok (.if_icmp .ne 9, 3) := by decide +kernel
theorem dX12_signsNow_71 : decode cX12_signsNow 71 = .ok (.iinc 4 1, 3) := by decide +kernel
theorem dX12_signsNow_74 : decode cX12_signsNow 74 = .ok (.iinc 5 1, 3) := by decide +kernel
theorem dX12_signsNow_77 : decode cX12_signsNow 77 = .ok (.goto (-57), 3) := by decide +kernel
theorem dX12_signsNow_65 : decode cX12_signsNow 65 = .ok (.iinc 3 1, 3) := by decide +kernel
theorem dX12_signsNow_68 : decode cX12_signsNow 68 = .ok (.goto 6, 3) := by decide +kernel
theorem dX12_signsNow_40 : decode cX12_signsNow 40 = .ok (.aload_n 0, 1) := by decide +kernel
theorem dX12_signsNow_41 : decode cX12_signsNow 41 = .ok (.iload 5, 2) := by decide +kernel
theorem dX12_signsNow_43 : decode cX12_signsNow 43 = .ok (.iconst 1, 1) := by decide +kernel
theorem dX12_signsNow_44 : decode cX12_signsNow 44 = .ok (.invokevirtual 230, 3) := by decide +kernel
theorem dX12_signsNow_47 : decode cX12_signsNow 47 = .ok (.iload_n 2, 1) := by decide +kernel
theorem dX12_signsNow_48 : decode cX12_signsNow 48 = .ok (.if_icmp .eq 6, 3) := by decide +kernel
theorem dX12_signsNow_51 : decode cX12_signsNow 51 = .ok (.goto 23, 3) := by decide +kernel
theorem dX12_signsNow_80 : decode cX12_signsNow 80 = .ok (.iload_n 1, 1) := by decide +kernel
theorem dX12_signsNow_81 : decode cX12_signsNow 81 = .ok (.iload_n 3, 1) := by decide +kernel
theorem dX12_signsNow_82 : decode cX12_signsNow 82 = .ok (.ifCond .le 13, 3) := by decide +kernel
theorem dX12_signsNow_95 : decode cX12_signsNow 95 = .ok (.iload_n 3, 1) := by decide +kernel
theorem dX12_signsNow_96 : decode cX12_signsNow 96 = .ok (.iadd, 1) := by decide +kernel
theorem dX12_signsNow_97 : decode cX12_signsNow 97 = .ok (.istore_n 1, 1) := by decide +kernel
theorem dX12_signsNow_98 : decode cX12_signsNow 98 = .ok (.iinc 2 1, 3) := by decide +kernel
theorem dX12_signsNow_101 : decode cX12_signsNow 101 = .ok (.goto (-97), 3) := by decide +kernel
theorem dX12_signsNow_85 : decode cX12_signsNow 85 = .ok (.iload 4, 2) := by decide +kernel
theorem dX12_signsNow_87 : decode cX12_signsNow 87 = .ok (.iconst 1, 1) := by decide +kernel
theorem dX12_signsNow_88 : decode cX12_signsNow 88 = .ok (.if_icmp .ne 7, 3) := by decide +kernel
theorem dX12_signsNow_91 : decode cX12_signsNow 91 = .ok (.iconst 1, 1) := by decide +kernel
theorem dX12_signsNow_92 : decode cX12_signsNow 92 = .ok (.goto 4, 3) := by decide +kernel
theorem dX12_signsNow_104 : decode cX12_signsNow 104 = .ok (.iload_n 1, 1) := by decide +kernel
theorem dX12_signsNow_105 : decode cX12_signsNow 105 = .ok (.ireturn, 1) := by decide +kernel
theorem dX12_signs_0 : decode cX12_signs 0 = .ok (.iload_n 1, 1) := by decide +kernel
theorem dX12_signs_1 : decode cX12_signs 1 = .ok (.invokestatic 239, 3) := by decide +kernel
theorem dX12_signs_4 : decode cX12_signs 4 = .ok (.ifCond .ne 6, 3) := by decide +kernel
theorem dX12_signs_7 : decode cX12_signs 7 = .ok (.bipush (-2), 2) := by decide +kernel
theorem dX12_signs_9 : decode cX12_signs 9 = .ok (.ireturn, 1) := by decide +kernel
theorem dX12_signs_10 : decode cX12_signs 10 = .ok (.aload_n 0, 1) := by decide +kernel
theorem dX12_signs_11 : decode cX12_signs 11 = .ok (.iload_n 1, 1) := by decide +kernel
theorem dX12_signs_12 : decode cX12_signs 12 = .ok (.invokevirtual 271, 3) := by decide +kernel
theorem dX12_signs_15 : decode cX12_signs 15 = .ok (.aload_n 0, 1) := by decide +kernel
theorem dX12_signs_16 : decode cX12_signs 16 = .ok (.invokevirtual 383, 3) := by decide +kernel
theorem dX12_signs_19 : decode cX12_signs 19 = .ok (.ireturn, 1) := by decide +kernel
theorem dX12_gone_0 : decode cX12_gone 0 = .ok (.iload_n 1, 1) := by decide +kernel
theorem dX12_gone_1 : decode cX12_gone 1 = .ok (.invokestatic 239, 3) := by decide +kernel
theorem dX12_gone_4 : decode cX12_gone 4 = .ok (.ifCond .eq 11, 3) := by decide +kernel
theorem dX12_gone_15 : decode cX12_gone 15 = .ok (.bipush (-2), 2) := by decide +kernel
theorem dX12_gone_17 : decode cX12_gone 17 = .ok (.ireturn, 1) := by decide +kernel
theorem dX12_gone_7 : decode cX12_gone 7 = .ok (.aload_n 0, 1) := by decide +kernel
theorem dX12_gone_8 : decode cX12_gone 8 = .ok (.iload_n 2, 1) := by decide +kernel
theorem dX12_gone_9 : decode cX12_gone 9 = .ok (.invokevirtual 301, 3) := by decide +kernel
theorem dX12_gone_12 : decode cX12_gone 12 = .ok (.ifCond .ne 6, 3) := by decide +kernel
theorem dX12_gone_18 : decode cX12_gone 18 = .ok (.aload_n 0, 1) := by decide +kernel
theorem dX12_gone_19 : decode cX12_gone 19 = .ok (.iload_n 1, 1) := by decide +kernel
theorem dX12_gone_20 : decode cX12_gone 20 = .ok (.invokevirtual 271, 3) := by decide +kernel
theorem dX12_gone_23 : decode cX12_gone 23 = .ok (.aload_n 0, 1) := by decide +kernel
theorem dX12_gone_24 : decode cX12_gone 24 = .ok (.invokevirtual 264, 3) := by decide +kernel
theorem dX12_gone_27 : decode cX12_gone 27 = .ok (.aload_n 0, 1) := by decide +kernel
theorem dX12_gone_28 : decode cX12_gone 28 = .ok (.iload_n 2, 1) := by decide +kernel
theorem dX12_gone_29 : decode cX12_gone 29 = .ok (.iconst 0, 1) := by decide +kernel
theorem dX12_gone_30 : decode cX12_gone 30 = .ok (.invokevirtual 295, 3) := by decide +kernel
theorem dX12_gone_33 : decode cX12_gone 33 = .ok (.istore 4, 2) := by decide +kernel
theorem dX12_gone_35 : decode cX12_gone 35 = .ok (.aload_n 0, 1) := by decide +kernel
theorem dX12_gone_36 : decode cX12_gone 36 = .ok (.iload_n 2, 1) := by decide +kernel
theorem dX12_gone_37 : decode cX12_gone 37 = .ok (.iconst 1, 1) := by decide +kernel
theorem dX12_gone_38 : decode cX12_gone 38 = .ok (.invokevirtual 295, 3) := by decide +kernel
theorem dX12_gone_41 : decode cX12_gone 41 = .ok (.istore 5, 2) := by decide +kernel
theorem dX12_gone_43 : decode cX12_gone 43 = .ok (.iload_n 3, 1) := by decide +kernel
theorem dX12_gone_44 : decode cX12_gone 44 = .ok (.istore 6, 2) := by decide +kernel
theorem dX12_gone_46 : decode cX12_gone 46 = .ok (.iload 6, 2) := by decide +kernel
theorem dX12_gone_48 : decode cX12_gone 48 = .ok (.ifCond .lt 50, 3) := by decide +kernel
theorem dX12_gone_51 : decode cX12_gone 51 = .ok (.iload 4, 2) := by decide +kernel
theorem dX12_gone_53 : decode cX12_gone 53 = .ok (.iload 5, 2) := by decide +kernel
theorem dX12_gone_55 : decode cX12_gone 55 = .ok (.if_icmp .eq 43, 3) := by decide +kernel
theorem dX12_gone_58 : decode cX12_gone 58 = .ok (.aload_n 0, 1) := by decide +kernel
theorem dX12_gone_59 : decode cX12_gone 59 = .ok (.iload 4, 2) := by decide +kernel
theorem dX12_gone_61 : decode cX12_gone 61 = .ok (.iload 5, 2) := by decide +kernel
theorem dX12_gone_63 : decode cX12_gone 63 = .ok (.invokevirtual 326, 3) := by decide +kernel
theorem dX12_gone_66 : decode cX12_gone 66 = .ok (.istore 7, 2) := by decide +kernel
theorem dX12_gone_68 : decode cX12_gone 68 = .ok (.iload 7, 2) := by decide +kernel
theorem dX12_gone_70 : decode cX12_gone 70 = .ok (.iconst (-1), 1) := by decide +kernel
theorem dX12_gone_71 : decode cX12_gone 71 = .ok (.if_icmp .eq 8, 3) := by decide +kernel
theorem dX12_gone_79 : decode cX12_gone 79 = .ok (.iload 7, 2) := by decide +kernel
theorem dX12_gone_81 : decode cX12_gone 81 = .ok (.ireturn, 1) := by decide +kernel
theorem dX12_gone_74 : decode cX12_gone 74 = .ok (.iload 6, 2) := by decide +kernel
theorem dX12_gone_76 : decode cX12_gone 76 = .ok (.ifCond .ne 6, 3) := by decide +kernel
theorem dX12_gone_82 : decode cX12_gone 82 = .ok (.iinc 6 (-1), 3) := by decide +kernel
theorem dX12_gone_85 : decode cX12_gone 85 = .ok (.aload_n 0, 1) := by decide +kernel
theorem dX12_gone_86 : decode cX12_gone 86 = .ok (.iload 7, 2) := by decide +kernel
theorem dX12_gone_88 : decode cX12_gone 88 = .ok (.iload 4, 2) := by decide +kernel
theorem dX12_gone_90 : decode cX12_gone 90 = .ok (.invokevirtual 320, 3) := by decide +kernel
theorem dX12_gone_93 : decode cX12_gone 93 = .ok (.istore 4, 2) := by decide +kernel
theorem dX12_gone_95 : decode cX12_gone 95 = .ok (.goto (-49), 3) := by decide +kernel
theorem dX12_gone_98 : decode cX12_gone 98 = .ok (.iconst (-1), 1) := by decide +kernel
theorem dX12_gone_99 : decode cX12_gone 99 = .ok (.ireturn, 1) := by decide +kernel
theorem dX12_loadNow_0 : decode cX12_loadNow 0 = .ok (.iconst 0, 1) := by decide +kernel
theorem dX12_loadNow_1 : decode cX12_loadNow 1 = .ok (.istore_n 2, 1) := by decide +kernel
theorem dX12_loadNow_2 : decode cX12_loadNow 2 = .ok (.iconst 0, 1) := by decide +kernel
theorem dX12_loadNow_3 : decode cX12_loadNow 3 = .ok (.istore_n 3, 1) := by decide +kernel
theorem dX12_loadNow_4 : decode cX12_loadNow 4 = .ok (.iload_n 3, 1) := by decide +kernel
theorem dX12_loadNow_5 : decode cX12_loadNow 5 = .ok (.aload_n 0, 1) := by decide +kernel
theorem dX12_loadNow_6 : decode cX12_loadNow 6 = .ok (.invokevirtual 109, 3) := by decide +kernel
theorem dX12_loadNow_9 : decode cX12_loadNow 9 = .ok (.if_icmp .ge 83, 3) := by decide +kernel
theorem dX12_loadNow_12 : decode cX12_loadNow 12 = .ok (.aload_n 0, 1) := by decide +kernel
theorem dX12_loadNow_13 : decode cX12_loadNow 13 = .ok (.iload_n 3, 1) := by decide +kernel
theorem dX12_loadNow_14 : decode cX12_loadNow 14 = .ok (.iconst 0, 1) := by decide +kernel
theorem dX12_loadNow_15 : decode cX12_loadNow 15 = .ok (.invokevirtual 295, 3) := by decide +kernel
theorem dX12_loadNow_18 : decode cX12_loadNow 18 = .ok (.istore 4, 2) := by decide +kernel
theorem dX12_loadNow_20 : decode cX12_loadNow 20 = .ok (.aload_n 0, 1) := by decide +kernel
theorem dX12_loadNow_21 : decode cX12_loadNow 21 = .ok (.iload_n 3, 1) := by decide +kernel
theorem dX12_loadNow_22 : decode cX12_loadNow 22 = .ok (.iconst 1, 1) := by decide +kernel
theorem dX12_loadNow_23 : decode cX12_loadNow 23 = .ok (.invokevirtual 295, 3) := by decide +kernel
theorem dX12_loadNow_26 : decode cX12_loadNow 26 = .ok (.istore 5, 2) := by decide +kernel
theorem dX12_loadNow_28 : decode cX12_loadNow 28 = .ok (.aload_n 0, 1) := by decide +kernel
theorem dX12_loadNow_29 : decode cX12_loadNow 29 = .ok (.iload 4, 2) := by decide +kernel
theorem dX12_loadNow_31 : decode cX12_loadNow 31 = .ok (.iload 5, 2) := by decide +kernel
theorem dX12_loadNow_33 : decode cX12_loadNow 33 = .ok (.invokevirtual 326, 3) := by decide +kernel
theorem dX12_loadNow_36 : decode cX12_loadNow 36 = .ok (.istore 6, 2) := by decide +kernel
theorem dX12_loadNow_38 : decode cX12_loadNow 38 = .ok (.iload 6, 2) := by decide +kernel
theorem dX12_loadNow_40 : decode cX12_loadNow 40 = .ok (.iconst (-1), 1) := by decide +kernel
theorem dX12_loadNow_41 : decode cX12_loadNow 41 = .ok (.if_icmp .eq 45, 3) := by decide +kernel
theorem dX12_loadNow_44 : decode cX12_loadNow 44 = .ok (.iload_n 2, 1) := by decide +kernel
theorem dX12_loadNow_45 : decode cX12_loadNow 45 = .ok (.iload 6, 2) := by decide +kernel
theorem dX12_loadNow_47 : decode cX12_loadNow 47 = .ok (.iload_n 1, 1) := by decide +kernel
theorem dX12_loadNow_48 : decode cX12_loadNow 48 = .ok (.if_icmp .ne 12, 3) := by decide +kernel
theorem dX12_loadNow_60 : decode cX12_loadNow 60 = .ok (.iconst 0, 1) := by decide +kernel
theorem dX12_loadNow_61 : decode cX12_loadNow 61 = .ok (.iadd, 1) := by decide +kernel
theorem dX12_loadNow_62 : decode cX12_loadNow 62 = .ok (.istore_n 2, 1) := by decide +kernel
theorem dX12_loadNow_63 : decode cX12_loadNow 63 = .ok (.aload_n 0, 1) := by decide +kernel
theorem dX12_loadNow_64 : decode cX12_loadNow 64 = .ok (.iload 6, 2) := by decide +kernel
theorem dX12_loadNow_66 : decode cX12_loadNow 66 = .ok (.iload 4, 2) := by decide +kernel
theorem dX12_loadNow_68 : decode cX12_loadNow 68 = .ok (.invokevirtual 320, 3) := by decide +kernel
theorem dX12_loadNow_71 : decode cX12_loadNow 71 = .ok (.istore 4, 2) := by decide +kernel
theorem dX12_loadNow_73 : decode cX12_loadNow 73 = .ok (.aload_n 0, 1) := by decide +kernel
theorem dX12_loadNow_74 : decode cX12_loadNow 74 = .ok (.iload 4, 2) := by decide +kernel
theorem dX12_loadNow_76 : decode cX12_loadNow 76 = .ok (.iload 5, 2) := by decide +kernel
theorem dX12_loadNow_78 : decode cX12_loadNow 78 = .ok (.invokevirtual 326, 3) := by decide +kernel
theorem dX12_loadNow_81 : decode cX12_loadNow 81 = .ok (.istore 6, 2) := by decide +kernel
theorem dX12_loadNow_83 : decode cX12_loadNow 83 = .ok (.goto (-45), 3) := by decide +kernel
theorem dX12_loadNow_51 : decode cX12_loadNow 51 = .ok (.aload_n 0, 1) := by decide +kernel
theorem dX12_loadNow_52 : decode cX12_loadNow 52 = .ok (.iload_n 3, 1) := by decide +kernel
theorem dX12_loadNow_53 : decode cX12_loadNow 53 = .ok (.iconst 2, 1) := by decide +kernel
theorem dX12_loadNow_54 : decode cX12_loadNow 54 = .ok (.invokevirtual 295, 3) := by decide +kernel
theorem dX12_loadNow_57 : decode cX12_loadNow 57 = .ok (.goto 4, 3) := by decide +kernel
theorem dX12_loadNow_86 : decode cX12_loadNow 86 = .ok (.iinc 3 1, 3) := by decide +kernel
theorem dX12_loadNow_89 : decode cX12_loadNow 89 = .ok (.goto (-85), 3) := by decide +kernel
theorem dX12_loadNow_92 : decode cX12_loadNow 92 = .ok (.iload_n 2, 1) := by decide +kernel
theorem dX12_loadNow_93 : decode cX12_loadNow 93 = .ok (.ireturn, 1) := by decide +kernel
theorem dX12_load_0 : decode cX12_load 0 = .ok (.iload_n 1, 1) := by decide +kernel
theorem dX12_load_1 : decode cX12_load 1 = .ok (.invokestatic 239, 3) := by decide +kernel
theorem dX12_load_4 : decode cX12_load 4 = .ok (.ifCond .eq 11, 3) := by decide +kernel
theorem dX12_load_15 : decode cX12_load 15 = .ok (.bipush (-2), 2) := by decide +kernel
theorem dX12_load_17 : decode cX12_load 17 = .ok (.ireturn, 1) := by decide +kernel
theorem dX12_load_7 : decode cX12_load 7 = .ok (.aload_n 0, 1) := by decide +kernel
theorem dX12_load_8 : decode cX12_load 8 = .ok (.iload_n 2, 1) := by decide +kernel
theorem dX12_load_9 : decode cX12_load 9 = .ok (.invokevirtual 243, 3) := by decide +kernel
theorem dX12_load_12 : decode cX12_load 12 = .ok (.ifCond .ne 6, 3) := by decide +kernel
theorem dX12_load_18 : decode cX12_load 18 = .ok (.aload_n 0, 1) := by decide +kernel
theorem dX12_load_19 : decode cX12_load 19 = .ok (.iload_n 1, 1) := by decide +kernel
theorem dX12_load_20 : decode cX12_load 20 = .ok (.invokevirtual 271, 3) := by decide +kernel
theorem dX12_load_23 : decode cX12_load 23 = .ok (.aload_n 0, 1) := by decide +kernel
theorem dX12_load_24 : decode cX12_load 24 = .ok (.invokevirtual 264, 3) := by decide +kernel
theorem dX12_load_27 : decode cX12_load 27 = .ok (.aload_n 0, 1) := by decide +kernel
theorem dX12_load_28 : decode cX12_load 28 = .ok (.iload_n 2, 1) := by decide +kernel
theorem dX12_load_29 : decode cX12_load 29 = .ok (.invokevirtual 386, 3) := by decide +kernel
theorem dX12_load_32 : decode cX12_load 32 = .ok (.ireturn, 1) := by decide +kernel
theorem dX12_busiest_0 : decode cX12_busiest 0 = .ok (.iload_n 1, 1) := by decide +kernel
theorem dX12_busiest_1 : decode cX12_busiest 1 = .ok (.invokestatic 239, 3) := by decide +kernel
theorem dX12_busiest_4 : decode cX12_busiest 4 = .ok (.ifCond .ne 6, 3) := by decide +kernel
theorem dX12_busiest_7 : decode cX12_busiest 7 = .ok (.bipush (-2), 2) := by decide +kernel
theorem dX12_busiest_9 : decode cX12_busiest 9 = .ok (.ireturn, 1) := by decide +kernel
theorem dX12_busiest_10 : decode cX12_busiest 10 = .ok (.aload_n 0, 1) := by decide +kernel
theorem dX12_busiest_11 : decode cX12_busiest 11 = .ok (.iload_n 1, 1) := by decide +kernel
theorem dX12_busiest_12 : decode cX12_busiest 12 = .ok (.invokevirtual 271, 3) := by decide +kernel
theorem dX12_busiest_15 : decode cX12_busiest 15 = .ok (.aload_n 0, 1) := by decide +kernel
theorem dX12_busiest_16 : decode cX12_busiest 16 = .ok (.invokevirtual 264, 3) := by decide +kernel
theorem dX12_busiest_19 : decode cX12_busiest 19 = .ok (.iconst (-1), 1) := by decide +kernel
theorem dX12_busiest_20 : decode cX12_busiest 20 = .ok (.istore_n 2, 1) := by decide +kernel
theorem dX12_busiest_21 : decode cX12_busiest 21 = .ok (.iconst 0, 1) := by decide +kernel
theorem dX12_busiest_22 : decode cX12_busiest 22 = .ok (.istore_n 3, 1) := by decide +kernel
theorem dX12_busiest_23 : decode cX12_busiest 23 = .ok (.iload_n 3, 1) := by decide +kernel
theorem dX12_busiest_24 : decode cX12_busiest 24 = .ok (.aload_n 0, 1) := by decide +kernel
theorem dX12_busiest_25 : decode cX12_busiest 25 = .ok (.invokevirtual 102, 3) := by decide +kernel
theorem dX12_busiest_28 : decode cX12_busiest 28 = .ok (.if_icmp .ge 29, 3) := by decide +kernel
theorem dX12_busiest_31 : decode cX12_busiest 31 = .ok (.iload_n 2, 1) := by decide +kernel
theorem dX12_busiest_32 : decode cX12_busiest 32 = .ok (.iconst (-1), 1) := by decide +kernel
theorem dX12_busiest_33 : decode cX12_busiest 33 = .ok (.if_icmp .eq 16, 3) := by decide +kernel
theorem dX12_busiest_49 : decode cX12_busiest 49 = .ok (.iload_n 3, 1) := by decide +kernel
theorem dX12_busiest_50 : decode cX12_busiest 50 = .ok (.istore_n 2, 1) := by decide +kernel
theorem dX12_busiest_51 : decode cX12_busiest 51 = .ok (.iinc 3 1, 3) := by decide +kernel
theorem dX12_busiest_54 : decode cX12_busiest 54 = .ok (.goto (-31), 3) := by decide +kernel
theorem dX12_busiest_36 : decode cX12_busiest 36 = .ok (.aload_n 0, 1) := by decide +kernel
theorem dX12_busiest_37 : decode cX12_busiest 37 = .ok (.iload_n 3, 1) := by decide +kernel
theorem dX12_busiest_38 : decode cX12_busiest 38 = .ok (.invokevirtual 386, 3) := by decide +kernel
theorem dX12_busiest_41 : decode cX12_busiest 41 = .ok (.aload_n 0, 1) := by decide +kernel
theorem dX12_busiest_42 : decode cX12_busiest 42 = .ok (.iload_n 2, 1) := by decide +kernel
theorem dX12_busiest_43 : decode cX12_busiest 43 = .ok (.invokevirtual 386, 3) := by decide +kernel
theorem dX12_busiest_46 : decode cX12_busiest 46 = .ok (.if_icmp .le 5, 3) := by decide +kernel
theorem dX12_busiest_57 : decode cX12_busiest 57 = .ok (.iload_n 2, 1) := by decide +kernel
theorem dX12_busiest_58 : decode cX12_busiest 58 = .ok (.ireturn, 1) := by decide +kernel
theorem dX12_mayBeRow_0 : decode cX12_mayBeRow 0 = .ok (.aload_n 0, 1) := by decide +kernel
theorem dX12_mayBeRow_1 : decode cX12_mayBeRow 1 = .ok (.getfield 79, 3) := by decide +kernel
theorem dX12_mayBeRow_4 : decode cX12_mayBeRow 4 = .ok (.iload_n 1, 1) := by decide +kernel
theorem dX12_mayBeRow_5 : decode cX12_mayBeRow 5 = .ok (.iaload, 1) := by decide +kernel
theorem dX12_mayBeRow_6 : decode cX12_mayBeRow 6 = .ok (.aload_n 0, 1) := by decide +kernel
theorem dX12_mayBeRow_7 : decode cX12_mayBeRow 7 = .ok (.invokevirtual 102, 3) := by decide +kernel
theorem dX12_mayBeRow_10 : decode cX12_mayBeRow 10 = .ok (.if_icmp .eq 5, 3) := by decide +kernel
theorem dX12_mayBeRow_15 : decode cX12_mayBeRow 15 = .ok (.iconst 0, 1) := by decide +kernel
theorem dX12_mayBeRow_16 : decode cX12_mayBeRow 16 = .ok (.istore_n 2, 1) := by decide +kernel
theorem dX12_mayBeRow_17 : decode cX12_mayBeRow 17 = .ok (.iload_n 2, 1) := by decide +kernel
theorem dX12_mayBeRow_18 : decode cX12_mayBeRow 18 = .ok (.aload_n 0, 1) := by decide +kernel
theorem dX12_mayBeRow_19 : decode cX12_mayBeRow 19 = .ok (.invokevirtual 102, 3) := by decide +kernel
theorem dX12_mayBeRow_22 : decode cX12_mayBeRow 22 = .ok (.if_icmp .ge 48, 3) := by decide +kernel
theorem dX12_mayBeRow_25 : decode cX12_mayBeRow 25 = .ok (.aload_n 0, 1) := by decide +kernel
theorem dX12_mayBeRow_26 : decode cX12_mayBeRow 26 = .ok (.getfield 85, 3) := by decide +kernel
theorem dX12_mayBeRow_29 : decode cX12_mayBeRow 29 = .ok (.bipush 60, 2) := by decide +kernel
theorem dX12_mayBeRow_31 : decode cX12_mayBeRow 31 = .ok (.iload_n 1, 1) := by decide +kernel
theorem dX12_mayBeRow_32 : decode cX12_mayBeRow 32 = .ok (.imul, 1) := by decide +kernel
theorem dX12_mayBeRow_33 : decode cX12_mayBeRow 33 = .ok (.iload_n 2, 1) := by decide +kernel
theorem dX12_mayBeRow_34 : decode cX12_mayBeRow 34 = .ok (.iadd, 1) := by decide +kernel
theorem dX12_mayBeRow_35 : decode cX12_mayBeRow 35 = .ok (.laload, 1) := by decide +kernel
theorem dX12_mayBeRow_36 : decode cX12_mayBeRow 36 = .ok (.lstore_n 3, 1) := by decide +kernel
theorem dX12_mayBeRow_37 : decode cX12_mayBeRow 37 = .ok (.aload_n 0, 1) := by decide +kernel
theorem dX12_mayBeRow_38 : decode cX12_mayBeRow 38 = .ok (.iload_n 2, 1) := by decide +kernel
theorem dX12_mayBeRow_39 : decode cX12_mayBeRow 39 = .ok (.lload_n 3, 1) := by decide +kernel
theorem dX12_mayBeRow_40 : decode cX12_mayBeRow 40 = .ok (.invokevirtual 235, 3) := by decide +kernel
theorem dX12_mayBeRow_43 : decode cX12_mayBeRow 43 = .ok (.ifCond .eq 19, 3) := by decide +kernel
theorem dX12_mayBeRow_62 : decode cX12_mayBeRow 62 = .ok (.iconst 0, 1) := by decide +kernel
theorem dX12_mayBeRow_63 : decode cX12_mayBeRow 63 = .ok (.ireturn, 1) := by decide +kernel
theorem dX12_mayBeRow_46 : decode cX12_mayBeRow 46 = .ok (.aload_n 0, 1) := by decide +kernel
theorem dX12_mayBeRow_47 : decode cX12_mayBeRow 47 = .ok (.iload_n 2, 1) := by decide +kernel
theorem dX12_mayBeRow_48 : decode cX12_mayBeRow 48 = .ok (.iconst 4, 1) := by decide +kernel
theorem dX12_mayBeRow_49 : decode cX12_mayBeRow 49 = .ok (.invokevirtual 230, 3) := by decide +kernel
theorem dX12_mayBeRow_52 : decode cX12_mayBeRow 52 = .ok (.iconst 1, 1) := by decide +kernel
theorem dX12_mayBeRow_53 : decode cX12_mayBeRow 53 = .ok (.if_icmp .ne 11, 3) := by decide +kernel
theorem dX12_mayBeRow_64 : decode cX12_mayBeRow 64 = .ok (.iinc 2 1, 3) := by decide +kernel
theorem dX12_mayBeRow_67 : decode cX12_mayBeRow 67 = .ok (.goto (-50), 3) := by decide +kernel
theorem dX12_mayBeRow_56 : decode cX12_mayBeRow 56 = .ok (.lload_n 3, 1) := by decide +kernel
theorem dX12_mayBeRow_57 : decode cX12_mayBeRow 57 = .ok (.lconst 1, 1) := by decide +kernel
theorem dX12_mayBeRow_58 : decode cX12_mayBeRow 58 = .ok (.lcmp, 1) := by decide +kernel
theorem dX12_mayBeRow_59 : decode cX12_mayBeRow 59 = .ok (.ifCond .eq 5, 3) := by decide +kernel
theorem dX12_mayBeRow_70 : decode cX12_mayBeRow 70 = .ok (.iconst 1, 1) := by decide +kernel
theorem dX12_mayBeRow_71 : decode cX12_mayBeRow 71 = .ok (.ireturn, 1) := by decide +kernel
theorem dX12_mayBeRow_13 : decode cX12_mayBeRow 13 = .ok (.iconst 0, 1) := by decide +kernel
theorem dX12_mayBeRow_14 : decode cX12_mayBeRow 14 = .ok (.ireturn, 1) := by decide +kernel
theorem dX12_judge_0 : decode cX12_judge 0 = .ok (.iload_n 1, 1) := by decide +kernel
theorem dX12_judge_1 : decode cX12_judge 1 = .ok (.invokestatic 252, 3) := by decide +kernel
theorem dX12_judge_4 : decode cX12_judge 4 = .ok (.ifCond .eq 15, 3) := by decide +kernel
theorem dX12_judge_19 : decode cX12_judge 19 = .ok (.bipush (-2), 2) := by decide +kernel
theorem dX12_judge_21 : decode cX12_judge 21 = .ok (.ireturn, 1) := by decide +kernel
theorem dX12_judge_7 : decode cX12_judge 7 = .ok (.iload_n 2, 1) := by decide +kernel
theorem dX12_judge_8 : decode cX12_judge 8 = .ok (.i2l, 1) := by decide +kernel
theorem dX12_judge_9 : decode cX12_judge 9 = .ok (.lconst 0, 1) := by decide +kernel
theorem dX12_judge_10 : decode cX12_judge 10 = .ok (.ldc2_w 389, 3) := by decide +kernel
theorem dX12_judge_13 : decode cX12_judge 13 = .ok (.invokestatic 98, 3) := by decide +kernel
theorem dX12_judge_16 : decode cX12_judge 16 = .ok (.ifCond .ne 6, 3) := by decide +kernel
theorem dX12_judge_22 : decode cX12_judge 22 = .ok (.aload_n 0, 1) := by decide +kernel
theorem dX12_judge_23 : decode cX12_judge 23 = .ok (.getfield 79, 3) := by decide +kernel
theorem dX12_judge_26 : decode cX12_judge 26 = .ok (.iload_n 1, 1) := by decide +kernel
theorem dX12_judge_27 : decode cX12_judge 27 = .ok (.iaload, 1) := by decide +kernel
theorem dX12_judge_28 : decode cX12_judge 28 = .ok (.iconst (-1), 1) := by decide +kernel
theorem dX12_judge_29 : decode cX12_judge 29 = .ok (.if_icmp .ne 6, 3) := by decide +kernel
theorem dX12_judge_35 : decode cX12_judge 35 = .ok (.aload_n 0, 1) := by decide +kernel
theorem dX12_judge_36 : decode cX12_judge 36 = .ok (.iload_n 1, 1) := by decide +kernel
theorem dX12_judge_37 : decode cX12_judge 37 = .ok (.invokevirtual 391, 3) := by decide +kernel
theorem dX12_judge_40 : decode cX12_judge 40 = .ok (.istore_n 3, 1) := by decide +kernel
theorem dX12_judge_41 : decode cX12_judge 41 = .ok (.iload_n 2, 1) := by decide +kernel
theorem dX12_judge_42 : decode cX12_judge 42 = .ok (.ifCond .ne 13, 3) := by decide +kernel
theorem dX12_judge_55 : decode cX12_judge 55 = .ok (.iload_n 3, 1) := by decide +kernel
theorem dX12_judge_56 : decode cX12_judge 56 = .ok (.ifCond .ne 5, 3) := by decide +kernel
theorem dX12_judge_61 : decode cX12_judge 61 = .ok (.iconst 0, 1) := by decide +kernel
theorem dX12_judge_62 : decode cX12_judge 62 = .ok (.istore 4, 2) := by decide +kernel
theorem dX12_judge_64 : decode cX12_judge 64 = .ok (.iload 4, 2) := by decide +kernel
theorem dX12_judge_66 : decode cX12_judge 66 = .ok (.aload_n 0, 1) := by decide +kernel
theorem dX12_judge_67 : decode cX12_judge 67 = .ok (.invokevirtual 102, 3) := by decide +kernel
theorem dX12_judge_70 : decode cX12_judge 70 = .ok (.if_icmp .ge 29, 3) := by decide +kernel
theorem dX12_judge_73 : decode cX12_judge 73 = .ok (.aload_n 0, 1) := by decide +kernel
theorem dX12_judge_74 : decode cX12_judge 74 = .ok (.getfield 40, 3) := by decide +kernel
theorem dX12_judge_77 : decode cX12_judge 77 = .ok (.iload 4, 2) := by decide +kernel
theorem dX12_judge_79 : decode cX12_judge 79 = .ok (.aload_n 0, 1) := by decide +kernel
theorem dX12_judge_80 : decode cX12_judge 80 = .ok (.getfield 85, 3) := by decide +kernel
theorem dX12_judge_83 : decode cX12_judge 83 = .ok (.bipush 60, 2) := by decide +kernel
theorem dX12_judge_85 : decode cX12_judge 85 = .ok (.iload_n 1, 1) := by decide +kernel
theorem dX12_judge_86 : decode cX12_judge 86 = .ok (.imul, 1) := by decide +kernel
theorem dX12_judge_87 : decode cX12_judge 87 = .ok (.iload 4, 2) := by decide +kernel
theorem dX12_judge_89 : decode cX12_judge 89 = .ok (.iadd, 1) := by decide +kernel
theorem dX12_judge_90 : decode cX12_judge 90 = .ok (.laload, 1) := by decide +kernel
theorem dX12_judge_91 : decode cX12_judge 91 = .ok (.l2i, 1) := by decide +kernel
theorem dX12_judge_92 : decode cX12_judge 92 = .ok (.iastore, 1) := by decide +kernel
theorem dX12_judge_93 : decode cX12_judge 93 = .ok (.iinc 4 1, 3) := by decide +kernel
theorem dX12_judge_96 : decode cX12_judge 96 = .ok (.goto (-32), 3) := by decide +kernel
theorem dX12_judge_99 : decode cX12_judge 99 = .ok (.iload_n 2, 1) := by decide +kernel
theorem dX12_judge_100 : decode cX12_judge 100 = .ok (.iconst 1, 1) := by decide +kernel
theorem dX12_judge_101 : decode cX12_judge 101 = .ok (.if_icmp .ne 16, 3) := by decide +kernel
theorem dX12_judge_117 : decode cX12_judge 117 = .ok (.iload_n 2, 1) := by decide +kernel
theorem dX12_judge_118 : decode cX12_judge 118 = .ok (.iconst 4, 1) := by decide +kernel
theorem dX12_judge_119 : decode cX12_judge 119 = .ok (.if_icmp .ne 8, 3) := by decide +kernel
theorem dX12_judge_127 : decode cX12_judge 127 = .ok (.iload_n 2, 1) := by decide +kernel
theorem dX12_judge_128 : decode cX12_judge 128 = .ok (.iconst 4, 1) := by decide +kernel
theorem dX12_judge_129 : decode cX12_judge 129 = .ok (.if_icmp .le 84, 3) := by decide +kernel
theorem dX12_judge_213 : decode cX12_judge 213 = .ok (.aload_n 0, 1) := by decide +kernel
theorem dX12_judge_214 : decode cX12_judge 214 = .ok (.aload_n 0, 1) := by decide +kernel
theorem dX12_judge_215 : decode cX12_judge 215 = .ok (.getfield 46, 3) := by decide +kernel
theorem dX12_judge_218 : decode cX12_judge 218 = .ok (.iconst 1, 1) := by decide +kernel
theorem dX12_judge_219 : decode cX12_judge 219 = .ok (.invokevirtual 260, 3) := by decide +kernel
theorem dX12_judge_222 : decode cX12_judge 222 = .ok (.aload_n 0, 1) := by decide +kernel
theorem dX12_judge_223 : decode cX12_judge 223 = .ok (.invokevirtual 264, 3) := by decide +kernel
theorem dX12_judge_226 : decode cX12_judge 226 = .ok (.iload_n 2, 1) := by decide +kernel
theorem dX12_judge_227 : decode cX12_judge 227 = .ok (.iconst 2, 1) := by decide +kernel
theorem dX12_judge_228 : decode cX12_judge 228 = .ok (.if_icmp .ne 11, 3) := by decide +kernel
theorem dX12_judge_239 : decode cX12_judge 239 = .ok (.aload_n 0, 1) := by decide +kernel
theorem dX12_judge_240 : decode cX12_judge 240 = .ok (.invokevirtual 317, 3) := by decide +kernel
theorem dX12_judge_243 : decode cX12_judge 243 = .ok (.ireturn, 1) := by decide +kernel
theorem dX12_judge_231 : decode cX12_judge 231 = .ok (.aload_n 0, 1) := by decide +kernel
theorem dX12_judge_232 : decode cX12_judge 232 = .ok (.iconst 0, 1) := by decide +kernel
theorem dX12_judge_233 : decode cX12_judge 233 = .ok (.invokevirtual 310, 3) := by decide +kernel
theorem dX12_judge_236 : decode cX12_judge 236 = .ok (.goto 7, 3) := by decide +kernel
theorem dX12_judge_132 : decode cX12_judge 132 = .ok (.iconst 0, 1) := by decide +kernel
theorem dX12_judge_133 : decode cX12_judge 133 = .ok (.istore 4, 2) := by decide +kernel
theorem dX12_judge_135 : decode cX12_judge 135 = .ok (.iconst 0, 1) := by decide +kernel
theorem dX12_judge_136 : decode cX12_judge 136 = .ok (.istore 5, 2) := by decide +kernel
theorem dX12_judge_138 : decode cX12_judge 138 = .ok (.iload 5, 2) := by decide +kernel
theorem dX12_judge_140 : decode cX12_judge 140 = .ok (.aload_n 0, 1) := by decide +kernel
theorem dX12_judge_141 : decode cX12_judge 141 = .ok (.invokevirtual 102, 3) := by decide +kernel
theorem dX12_judge_144 : decode cX12_judge 144 = .ok (.if_icmp .ge 66, 3) := by decide +kernel
theorem dX12_judge_147 : decode cX12_judge 147 = .ok (.iload 4, 2) := by decide +kernel
theorem dX12_judge_149 : decode cX12_judge 149 = .ok (.iload_n 2, 1) := by decide +kernel
theorem dX12_judge_150 : decode cX12_judge 150 = .ok (.iconst 5, 1) := by decide +kernel
theorem dX12_judge_151 : decode cX12_judge 151 = .ok (.if_icmp .ne 28, 3) := by decide +kernel
theorem dX12_judge_179 : decode cX12_judge 179 = .ok (.aload_n 0, 1) := by decide +kernel
theorem dX12_judge_180 : decode cX12_judge 180 = .ok (.getfield 40, 3) := by decide +kernel
theorem dX12_judge_183 : decode cX12_judge 183 = .ok (.iload 5, 2) := by decide +kernel
theorem dX12_judge_185 : decode cX12_judge 185 = .ok (.iaload, 1) := by decide +kernel
theorem dX12_judge_186 : decode cX12_judge 186 = .ok (.iconst 3, 1) := by decide +kernel
theorem dX12_judge_187 : decode cX12_judge 187 = .ok (.if_icmp .ne 13, 3) := by decide +kernel
theorem dX12_judge_200 : decode cX12_judge 200 = .ok (.iconst 0, 1) := by decide +kernel
theorem dX12_judge_201 : decode cX12_judge 201 = .ok (.iadd, 1) := by decide +kernel
theorem dX12_judge_202 : decode cX12_judge 202 = .ok (.istore 4, 2) := by decide +kernel
theorem dX12_judge_204 : decode cX12_judge 204 = .ok (.iinc 5 1, 3) := by decide +kernel
theorem dX12_judge_207 : decode cX12_judge 207 = .ok (.goto (-69), 3) := by decide +kernel
theorem dX12_judge_190 : decode cX12_judge 190 = .ok (.aload_n 0, 1) := by decide +kernel
theorem dX12_judge_191 : decode cX12_judge 191 = .ok (.iload 5, 2) := by decide +kernel
theorem dX12_judge_193 : decode cX12_judge 193 = .ok (.iconst 3, 1) := by decide +kernel
theorem dX12_judge_194 : decode cX12_judge 194 = .ok (.invokevirtual 230, 3) := by decide +kernel
theorem dX12_judge_197 : decode cX12_judge 197 = .ok (.goto 4, 3) := by decide +kernel
theorem dX12_judge_154 : decode cX12_judge 154 = .ok (.aload_n 0, 1) := by decide +kernel
theorem dX12_judge_155 : decode cX12_judge 155 = .ok (.getfield 40, 3) := by decide +kernel
theorem dX12_judge_158 : decode cX12_judge 158 = .ok (.iload 5, 2) := by decide +kernel
theorem dX12_judge_160 : decode cX12_judge 160 = .ok (.iaload, 1) := by decide +kernel
theorem dX12_judge_161 : decode cX12_judge 161 = .ok (.aload_n 0, 1) := by decide +kernel
theorem dX12_judge_162 : decode cX12_judge 162 = .ok (.iconst 0, 1) := by decide +kernel
theorem dX12_judge_163 : decode cX12_judge 163 = .ok (.iload 5, 2) := by decide +kernel
theorem dX12_judge_165 : decode cX12_judge 165 = .ok (.invokevirtual 249, 3) := by decide +kernel
theorem dX12_judge_168 : decode cX12_judge 168 = .ok (.if_icmp .ne 7, 3) := by decide +kernel
theorem dX12_judge_175 : decode cX12_judge 175 = .ok (.iconst 1, 1) := by decide +kernel
theorem dX12_judge_176 : decode cX12_judge 176 = .ok (.goto 25, 3) := by decide +kernel
theorem dX12_judge_171 : decode cX12_judge 171 = .ok (.iconst 0, 1) := by decide +kernel
theorem dX12_judge_172 : decode cX12_judge 172 = .ok (.goto 29, 3) := by decide +kernel
theorem dX12_judge_210 : decode cX12_judge 210 = .ok (.iload 4, 2) := by decide +kernel
theorem dX12_judge_212 : decode cX12_judge 212 = .ok (.ireturn, 1) := by decide +kernel
theorem dX12_judge_122 : decode cX12_judge 122 = .ok (.aload_n 0, 1) := by decide +kernel
theorem dX12_judge_123 : decode cX12_judge 123 = .ok (.invokevirtual 383, 3) := by decide +kernel
theorem dX12_judge_126 : decode cX12_judge 126 = .ok (.ireturn, 1) := by decide +kernel
theorem dX12_judge_104 : decode cX12_judge 104 = .ok (.aload_n 0, 1) := by decide +kernel
theorem dX12_judge_105 : decode cX12_judge 105 = .ok (.invokevirtual 274, 3) := by decide +kernel
theorem dX12_judge_108 : decode cX12_judge 108 = .ok (.ifCond .eq 7, 3) := by decide +kernel
theorem dX12_judge_115 : decode cX12_judge 115 = .ok (.iconst 0, 1) := by decide +kernel
theorem dX12_judge_116 : decode cX12_judge 116 = .ok (.ireturn, 1) := by decide +kernel
theorem dX12_judge_111 : decode cX12_judge 111 = .ok (.iconst 1, 1) := by decide +kernel
theorem dX12_judge_112 : decode cX12_judge 112 = .ok (.goto 4, 3) := by decide +kernel
theorem dX12_judge_59 : decode cX12_judge 59 = .ok (.iconst (-1), 1) := by decide +kernel
theorem dX12_judge_60 : decode cX12_judge 60 = .ok (.ireturn, 1) := by decide +kernel
theorem dX12_judge_45 : decode cX12_judge 45 = .ok (.iload_n 3, 1) := by decide +kernel
theorem dX12_judge_46 : decode cX12_judge 46 = .ok (.ifCond .eq 7, 3) := by decide +kernel
theorem dX12_judge_53 : decode cX12_judge 53 = .ok (.iconst 0, 1) := by decide +kernel
theorem dX12_judge_54 : decode cX12_judge 54 = .ok (.ireturn, 1) := by decide +kernel
theorem dX12_judge_49 : decode cX12_judge 49 = .ok (.iconst 1, 1) := by decide +kernel
theorem dX12_judge_50 : decode cX12_judge 50 = .ok (.goto 4, 3) := by decide +kernel
theorem dX12_judge_32 : decode cX12_judge 32 = .ok (.bipush (-6), 2) := by decide +kernel
theorem dX12_judge_34 : decode cX12_judge 34 = .ok (.ireturn, 1) := by decide +kernel
theorem dX12_sparesBy_0 : decode cX12_sparesBy 0 = .ok (.iconst 0, 1) := by decide +kernel
theorem dX12_sparesBy_1 : decode cX12_sparesBy 1 = .ok (.istore 4, 2) := by decide +kernel
theorem dX12_sparesBy_3 : decode cX12_sparesBy 3 = .ok (.iconst 0, 1) := by decide +kernel
theorem dX12_sparesBy_4 : decode cX12_sparesBy 4 = .ok (.istore 5, 2) := by decide +kernel
theorem dX12_sparesBy_6 : decode cX12_sparesBy 6 = .ok (.iload 5, 2) := by decide +kernel
theorem dX12_sparesBy_8 : decode cX12_sparesBy 8 = .ok (.aload_n 0, 1) := by decide +kernel
theorem dX12_sparesBy_9 : decode cX12_sparesBy 9 = .ok (.invokevirtual 109, 3) := by decide +kernel
theorem dX12_sparesBy_12 : decode cX12_sparesBy 12 = .ok (.if_icmp .ge 121, 3) := by decide +kernel
theorem dX12_sparesBy_15 : decode cX12_sparesBy 15 = .ok (.aload_n 0, 1) := by decide +kernel
theorem dX12_sparesBy_16 : decode cX12_sparesBy 16 = .ok (.iload 5, 2) := by decide +kernel
theorem dX12_sparesBy_18 : decode cX12_sparesBy 18 = .ok (.iconst 0, 1) := by decide +kernel
theorem dX12_sparesBy_19 : decode cX12_sparesBy 19 = .ok (.invokevirtual 295, 3) := by decide +kernel
theorem dX12_sparesBy_22 : decode cX12_sparesBy 22 = .ok (.istore 6, 2) := by decide +kernel
theorem dX12_sparesBy_24 : decode cX12_sparesBy 24 = .ok (.aload_n 0, 1) := by decide +kernel
theorem dX12_sparesBy_25 : decode cX12_sparesBy 25 = .ok (.iload 5, 2) := by decide +kernel
theorem dX12_sparesBy_27 : decode cX12_sparesBy 27 = .ok (.iconst 1, 1) := by decide +kernel
theorem dX12_sparesBy_28 : decode cX12_sparesBy 28 = .ok (.invokevirtual 295, 3) := by decide +kernel
theorem dX12_sparesBy_31 : decode cX12_sparesBy 31 = .ok (.istore 7, 2) := by decide +kernel
theorem dX12_sparesBy_33 : decode cX12_sparesBy 33 = .ok (.aload_n 0, 1) := by decide +kernel
theorem dX12_sparesBy_34 : decode cX12_sparesBy 34 = .ok (.getfield 43, 3) := by decide +kernel
theorem dX12_sparesBy_37 : decode cX12_sparesBy 37 = .ok (.bipush 16, 2) := by decide +kernel
theorem dX12_sparesBy_39 : decode cX12_sparesBy 39 = .ok (.iload 6, 2) := by decide +kernel
theorem dX12_sparesBy_41 : decode cX12_sparesBy 41 = .ok (.imul, 1) := by decide +kernel
theorem dX12_sparesBy_42 : decode cX12_sparesBy 42 = .ok (.iload 7, 2) := by decide +kernel
theorem dX12_sparesBy_44 : decode cX12_sparesBy 44 = .ok (.iadd, 1) := by decide +kernel
theorem dX12_sparesBy_45 : decode cX12_sparesBy 45 = .ok (.iaload, 1) := by decide +kernel
theorem dX12_sparesBy_46 : decode cX12_sparesBy 46 = .ok (.istore 8, 2) := by decide +kernel
theorem dX12_sparesBy_48 : decode cX12_sparesBy 48 = .ok (.aload_n 0, 1) := by decide +kernel
theorem dX12_sparesBy_49 : decode cX12_sparesBy 49 = .ok (.getfield 43, 3) := by decide +kernel
theorem dX12_sparesBy_52 : decode cX12_sparesBy 52 = .ok (.bipush 16, 2) := by decide +kernel
theorem dX12_sparesBy_54 : decode cX12_sparesBy 54 = .ok (.iload 6, 2) := by decide +kernel
theorem dX12_sparesBy_56 : decode cX12_sparesBy 56 = .ok (.imul, 1) := by decide +kernel
theorem dX12_sparesBy_57 : decode cX12_sparesBy 57 = .ok (.iload_n 1, 1) := by decide +kernel
theorem dX12_sparesBy_58 : decode cX12_sparesBy 58 = .ok (.iadd, 1) := by decide +kernel
theorem dX12_sparesBy_59 : decode cX12_sparesBy 59 = .ok (.iaload, 1) := by decide +kernel
theorem dX12_sparesBy_60 : decode cX12_sparesBy 60 = .ok (.aload_n 0, 1) := by decide +kernel
theorem dX12_sparesBy_61 : decode cX12_sparesBy 61 = .ok (.getfield 43, 3) := by decide +kernel
theorem dX12_sparesBy_64 : decode cX12_sparesBy 64 = .ok (.bipush 16, 2) := by decide +kernel
theorem dX12_sparesBy_66 : decode cX12_sparesBy 66 = .ok (.iload_n 2, 1) := by decide +kernel
theorem dX12_sparesBy_67 : decode cX12_sparesBy 67 = .ok (.imul, 1) := by decide +kernel
theorem dX12_sparesBy_68 : decode cX12_sparesBy 68 = .ok (.iload 7, 2) := by decide +kernel
theorem dX12_sparesBy_70 : decode cX12_sparesBy 70 = .ok (.iadd, 1) := by decide +kernel
theorem dX12_sparesBy_71 : decode cX12_sparesBy 71 = .ok (.iaload, 1) := by decide +kernel
theorem dX12_sparesBy_72 : decode cX12_sparesBy 72 = .ok (.iadd, 1) := by decide +kernel
theorem dX12_sparesBy_73 : decode cX12_sparesBy 73 = .ok (.aload_n 0, 1) := by decide +kernel
theorem dX12_sparesBy_74 : decode cX12_sparesBy 74 = .ok (.getfield 43, 3) := by decide +kernel
theorem dX12_sparesBy_77 : decode cX12_sparesBy 77 = .ok (.bipush 16, 2) := by decide +kernel
theorem dX12_sparesBy_79 : decode cX12_sparesBy 79 = .ok (.iload 6, 2) := by decide +kernel
theorem dX12_sparesBy_81 : decode cX12_sparesBy 81 = .ok (.imul, 1) := by decide +kernel
theorem dX12_sparesBy_82 : decode cX12_sparesBy 82 = .ok (.iload_n 2, 1) := by decide +kernel
theorem dX12_sparesBy_83 : decode cX12_sparesBy 83 = .ok (.iadd, 1) := by decide +kernel
theorem dX12_sparesBy_84 : decode cX12_sparesBy 84 = .ok (.iaload, 1) := by decide +kernel
theorem dX12_sparesBy_85 : decode cX12_sparesBy 85 = .ok (.aload_n 0, 1) := by decide +kernel
theorem dX12_sparesBy_86 : decode cX12_sparesBy 86 = .ok (.getfield 43, 3) := by decide +kernel
theorem dX12_sparesBy_89 : decode cX12_sparesBy 89 = .ok (.bipush 16, 2) := by decide +kernel
theorem dX12_sparesBy_91 : decode cX12_sparesBy 91 = .ok (.iload_n 1, 1) := by decide +kernel
theorem dX12_sparesBy_92 : decode cX12_sparesBy 92 = .ok (.imul, 1) := by decide +kernel
theorem dX12_sparesBy_93 : decode cX12_sparesBy 93 = .ok (.iload 7, 2) := by decide +kernel
theorem dX12_sparesBy_95 : decode cX12_sparesBy 95 = .ok (.iadd, 1) := by decide +kernel
theorem dX12_sparesBy_96 : decode cX12_sparesBy 96 = .ok (.iaload, 1) := by decide +kernel
theorem dX12_sparesBy_97 : decode cX12_sparesBy 97 = .ok (.iadd, 1) := by decide +kernel
theorem dX12_sparesBy_98 : decode cX12_sparesBy 98 = .ok (.invokestatic 143, 3) := by decide +kernel
theorem dX12_sparesBy_101 : decode cX12_sparesBy 101 = .ok (.iload_n 3, 1) := by decide +kernel
theorem dX12_sparesBy_102 : decode cX12_sparesBy 102 = .ok (.iadd, 1) := by decide +kernel
theorem dX12_sparesBy_103 : decode cX12_sparesBy 103 = .ok (.istore 9, 2) := by decide +kernel
theorem dX12_sparesBy_105 : decode cX12_sparesBy 105 = .ok (.iload 4, 2) := by decide +kernel
theorem dX12_sparesBy_107 : decode cX12_sparesBy 107 = .ok (.aload_n 0, 1) := by decide +kernel
theorem dX12_sparesBy_108 : decode cX12_sparesBy 108 = .ok (.iload 5, 2) := by decide +kernel
theorem dX12_sparesBy_110 : decode cX12_sparesBy 110 = .ok (.iconst 2, 1) := by decide +kernel
theorem dX12_sparesBy_111 : decode cX12_sparesBy 111 = .ok (.invokevirtual 295, 3) := by decide +kernel
theorem dX12_sparesBy_114 : decode cX12_sparesBy 114 = .ok (.iconst 0, 1) := by decide +kernel
theorem dX12_sparesBy_115 : decode cX12_sparesBy 115 = .ok (.iload 8, 2) := by decide +kernel
theorem dX12_sparesBy_117 : decode cX12_sparesBy 117 = .ok (.iload 9, 2) := by decide +kernel
theorem dX12_sparesBy_119 : decode cX12_sparesBy 119 = .ok (.isub, 1) := by decide +kernel
theorem dX12_sparesBy_120 : decode cX12_sparesBy 120 = .ok (.invokestatic 307, 3) := by decide +kernel
theorem dX12_sparesBy_123 : decode cX12_sparesBy 123 = .ok (.imul, 1) := by decide +kernel
theorem dX12_sparesBy_124 : decode cX12_sparesBy 124 = .ok (.iadd, 1) := by decide +kernel
theorem dX12_sparesBy_125 : decode cX12_sparesBy 125 = .ok (.istore 4, 2) := by decide +kernel
theorem dX12_sparesBy_127 : decode cX12_sparesBy 127 = .ok (.iinc 5 1, 3) := by decide +kernel
theorem dX12_sparesBy_130 : decode cX12_sparesBy 130 = .ok (.goto (-124), 3) := by decide +kernel
theorem dX12_sparesBy_133 : decode cX12_sparesBy 133 = .ok (.iload 4, 2) := by decide +kernel
theorem dX12_sparesBy_135 : decode cX12_sparesBy 135 = .ok (.ireturn, 1) := by decide +kernel
theorem dX12_spare_0 : decode cX12_spare 0 = .ok (.iload_n 1, 1) := by decide +kernel
theorem dX12_spare_1 : decode cX12_spare 1 = .ok (.invokestatic 239, 3) := by decide +kernel
theorem dX12_spare_4 : decode cX12_spare 4 = .ok (.ifCond .eq 15, 3) := by decide +kernel
theorem dX12_spare_19 : decode cX12_spare 19 = .ok (.bipush (-2), 2) := by decide +kernel
theorem dX12_spare_21 : decode cX12_spare 21 = .ok (.ireturn, 1) := by decide +kernel
theorem dX12_spare_7 : decode cX12_spare 7 = .ok (.iload_n 2, 1) := by decide +kernel
theorem dX12_spare_8 : decode cX12_spare 8 = .ok (.i2l, 1) := by decide +kernel
theorem dX12_spare_9 : decode cX12_spare 9 = .ok (.lconst 1, 1) := by decide +kernel
theorem dX12_spare_10 : decode cX12_spare 10 = .ok (.ldc2_w 394, 3) := by decide +kernel
theorem dX12_spare_13 : decode cX12_spare 13 = .ok (.invokestatic 98, 3) := by decide +kernel
theorem dX12_spare_16 : decode cX12_spare 16 = .ok (.ifCond .ne 6, 3) := by decide +kernel
theorem dX12_spare_22 : decode cX12_spare 22 = .ok (.aload_n 0, 1) := by decide +kernel
theorem dX12_spare_23 : decode cX12_spare 23 = .ok (.iload_n 1, 1) := by decide +kernel
theorem dX12_spare_24 : decode cX12_spare 24 = .ok (.invokevirtual 271, 3) := by decide +kernel
theorem dX12_spare_27 : decode cX12_spare 27 = .ok (.aload_n 0, 1) := by decide +kernel
theorem dX12_spare_28 : decode cX12_spare 28 = .ok (.aload_n 0, 1) := by decide +kernel
theorem dX12_spare_29 : decode cX12_spare 29 = .ok (.getfield 46, 3) := by decide +kernel
theorem dX12_spare_32 : decode cX12_spare 32 = .ok (.iconst 1, 1) := by decide +kernel
theorem dX12_spare_33 : decode cX12_spare 33 = .ok (.invokevirtual 260, 3) := by decide +kernel
theorem dX12_spare_36 : decode cX12_spare 36 = .ok (.aload_n 0, 1) := by decide +kernel
theorem dX12_spare_37 : decode cX12_spare 37 = .ok (.invokevirtual 314, 3) := by decide +kernel
theorem dX12_spare_40 : decode cX12_spare 40 = .ok (.iconst (-1), 1) := by decide +kernel
theorem dX12_spare_41 : decode cX12_spare 41 = .ok (.if_icmp .ne 6, 3) := by decide +kernel
theorem dX12_spare_47 : decode cX12_spare 47 = .ok (.iconst (-1), 1) := by decide +kernel
theorem dX12_spare_48 : decode cX12_spare 48 = .ok (.istore_n 3, 1) := by decide +kernel
theorem dX12_spare_49 : decode cX12_spare 49 = .ok (.iconst 0, 1) := by decide +kernel
theorem dX12_spare_50 : decode cX12_spare 50 = .ok (.istore 4, 2) := by decide +kernel
theorem dX12_spare_52 : decode cX12_spare 52 = .ok (.iload 4, 2) := by decide +kernel
theorem dX12_spare_54 : decode cX12_spare 54 = .ok (.aload_n 0, 1) := by decide +kernel
theorem dX12_spare_55 : decode cX12_spare 55 = .ok (.invokevirtual 106, 3) := by decide +kernel
theorem dX12_spare_58 : decode cX12_spare 58 = .ok (.if_icmp .ge 69, 3) := by decide +kernel
theorem dX12_spare_61 : decode cX12_spare 61 = .ok (.iload 4, 2) := by decide +kernel
theorem dX12_spare_63 : decode cX12_spare 63 = .ok (.iconst 1, 1) := by decide +kernel
theorem dX12_spare_64 : decode cX12_spare 64 = .ok (.iadd, 1) := by decide +kernel
theorem dX12_spare_65 : decode cX12_spare 65 = .ok (.istore 5, 2) := by decide +kernel
theorem dX12_spare_67 : decode cX12_spare 67 = .ok (.iload 5, 2) := by decide +kernel
theorem dX12_spare_69 : decode cX12_spare 69 = .ok (.aload_n 0, 1) := by decide +kernel
theorem dX12_spare_70 : decode cX12_spare 70 = .ok (.invokevirtual 106, 3) := by decide +kernel
theorem dX12_spare_73 : decode cX12_spare 73 = .ok (.if_icmp .ge 48, 3) := by decide +kernel
theorem dX12_spare_76 : decode cX12_spare 76 = .ok (.aload_n 0, 1) := by decide +kernel
theorem dX12_spare_77 : decode cX12_spare 77 = .ok (.iload 4, 2) := by decide +kernel
theorem dX12_spare_79 : decode cX12_spare 79 = .ok (.iload 5, 2) := by decide +kernel
theorem dX12_spare_81 : decode cX12_spare 81 = .ok (.iload_n 2, 1) := by decide +kernel
theorem dX12_spare_82 : decode cX12_spare 82 = .ok (.invokevirtual 396, 3) := by decide +kernel
theorem dX12_spare_85 : decode cX12_spare 85 = .ok (.istore 6, 2) := by decide +kernel
theorem dX12_spare_87 : decode cX12_spare 87 = .ok (.iload 6, 2) := by decide +kernel
theorem dX12_spare_89 : decode cX12_spare 89 = .ok (.iload_n 3, 1) := by decide +kernel
theorem dX12_spare_90 : decode cX12_spare 90 = .ok (.if_icmp .gt 6, 3) := by decide +kernel
theorem dX12_spare_96 : decode cX12_spare 96 = .ok (.iload 6, 2) := by decide +kernel
theorem dX12_spare_98 : decode cX12_spare 98 = .ok (.istore_n 3, 1) := by decide +kernel
theorem dX12_spare_99 : decode cX12_spare 99 = .ok (.aload_n 0, 1) := by decide +kernel
theorem dX12_spare_100 : decode cX12_spare 100 = .ok (.getfield 76, 3) := by decide +kernel
theorem dX12_spare_103 : decode cX12_spare 103 = .ok (.iconst 0, 1) := by decide +kernel
theorem dX12_spare_104 : decode cX12_spare 104 = .ok (.iload 4, 2) := by decide +kernel
theorem dX12_spare_106 : decode cX12_spare 106 = .ok (.iastore, 1) := by decide +kernel
theorem dX12_spare_107 : decode cX12_spare 107 = .ok (.aload_n 0, 1) := by decide +kernel
theorem dX12_spare_108 : decode cX12_spare 108 = .ok (.getfield 76, 3) := by decide +kernel
theorem dX12_spare_111 : decode cX12_spare 111 = .ok (.iconst 1, 1) := by decide +kernel
theorem dX12_spare_112 : decode cX12_spare 112 = .ok (.iload 5, 2) := by decide +kernel
theorem dX12_spare_114 : decode cX12_spare 114 = .ok (.iastore, 1) := by decide +kernel
theorem dX12_spare_115 : decode cX12_spare 115 = .ok (.iinc 5 1, 3) := by decide +kernel
theorem dX12_spare_118 : decode cX12_spare 118 = .ok (.goto (-51), 3) := by decide +kernel
theorem dX12_spare_93 : decode cX12_spare 93 = .ok (.goto 22, 3) := by decide +kernel
theorem dX12_spare_121 : decode cX12_spare 121 = .ok (.iinc 4 1, 3) := by decide +kernel
theorem dX12_spare_124 : decode cX12_spare 124 = .ok (.goto (-72), 3) := by decide +kernel
theorem dX12_spare_127 : decode cX12_spare 127 = .ok (.aload_n 0, 1) := by decide +kernel
theorem dX12_spare_128 : decode cX12_spare 128 = .ok (.iconst 1, 1) := by decide +kernel
theorem dX12_spare_129 : decode cX12_spare 129 = .ok (.putfield 400, 3) := by decide +kernel
theorem dX12_spare_132 : decode cX12_spare 132 = .ok (.iload_n 3, 1) := by decide +kernel
theorem dX12_spare_133 : decode cX12_spare 133 = .ok (.ireturn, 1) := by decide +kernel
theorem dX12_spare_44 : decode cX12_spare 44 = .ok (.bipush (-5), 2) := by decide +kernel
theorem dX12_spare_46 : decode cX12_spare 46 = .ok (.ireturn, 1) := by decide +kernel
theorem dX12_spared_0 : decode cX12_spared 0 = .ok (.aload_n 0, 1) := by decide +kernel
theorem dX12_spared_1 : decode cX12_spared 1 = .ok (.getfield 400, 3) := by decide +kernel
theorem dX12_spared_4 : decode cX12_spared 4 = .ok (.ifCond .eq 22, 3) := by decide +kernel
theorem dX12_spared_26 : decode cX12_spared 26 = .ok (.iconst (-1), 1) := by decide +kernel
theorem dX12_spared_27 : decode cX12_spared 27 = .ok (.ireturn, 1) := by decide +kernel
theorem dX12_spared_7 : decode cX12_spared 7 = .ok (.iload_n 1, 1) := by decide +kernel
theorem dX12_spared_8 : decode cX12_spared 8 = .ok (.i2l, 1) := by decide +kernel
theorem dX12_spared_9 : decode cX12_spared 9 = .ok (.lconst 0, 1) := by decide +kernel
theorem dX12_spared_10 : decode cX12_spared 10 = .ok (.lconst 1, 1) := by decide +kernel
theorem dX12_spared_11 : decode cX12_spared 11 = .ok (.invokestatic 98, 3) := by decide +kernel
theorem dX12_spared_14 : decode cX12_spared 14 = .ok (.ifCond .eq 12, 3) := by decide +kernel
theorem dX12_spared_17 : decode cX12_spared 17 = .ok (.aload_n 0, 1) := by decide +kernel
theorem dX12_spared_18 : decode cX12_spared 18 = .ok (.getfield 76, 3) := by decide +kernel
theorem dX12_spared_21 : decode cX12_spared 21 = .ok (.iload_n 1, 1) := by decide +kernel
theorem dX12_spared_22 : decode cX12_spared 22 = .ok (.iaload, 1) := by decide +kernel
theorem dX12_spared_23 : decode cX12_spared 23 = .ok (.goto 4, 3) := by decide +kernel
theorem dX12_alley_0 : decode cX12_alley 0 = .ok (.aload_n 0, 1) := by decide +kernel
theorem dX12_alley_1 : decode cX12_alley 1 = .ok (.iload_n 1, 1) := by decide +kernel
theorem dX12_alley_2 : decode cX12_alley 2 = .ok (.invokevirtual 243, 3) := by decide +kernel
theorem dX12_alley_5 : decode cX12_alley 5 = .ok (.ifCond .eq 24, 3) := by decide +kernel
theorem dX12_alley_29 : decode cX12_alley 29 = .ok (.ldc_w 405, 3) := by decide +kernel
theorem dX12_alley_32 : decode cX12_alley 32 = .ok (.ireturn, 1) := by decide +kernel
theorem dX12_alley_8 : decode cX12_alley 8 = .ok (.iload_n 2, 1) := by decide +kernel
theorem dX12_alley_9 : decode cX12_alley 9 = .ok (.i2l, 1) := by decide +kernel
theorem dX12_alley_10 : decode cX12_alley 10 = .ok (.lconst 0, 1) := by decide +kernel
theorem dX12_alley_11 : decode cX12_alley 11 = .ok (.ldc2_w 403, 3) := by decide +kernel
theorem dX12_alley_14 : decode cX12_alley 14 = .ok (.invokestatic 98, 3) := by decide +kernel
theorem dX12_alley_17 : decode cX12_alley 17 = .ok (.ifCond .eq 12, 3) := by decide +kernel
theorem dX12_alley_20 : decode cX12_alley 20 = .ok (.aload_n 0, 1) := by decide +kernel
theorem dX12_alley_21 : decode cX12_alley 21 = .ok (.iload_n 1, 1) := by decide +kernel
theorem dX12_alley_22 : decode cX12_alley 22 = .ok (.iload_n 2, 1) := by decide +kernel
theorem dX12_alley_23 : decode cX12_alley 23 = .ok (.invokevirtual 230, 3) := by decide +kernel
theorem dX12_alley_26 : decode cX12_alley 26 = .ok (.goto 6, 3) := by decide +kernel
theorem dX12_street_0 : decode cX12_street 0 = .ok (.iload_n 1, 1) := by decide +kernel
theorem dX12_street_1 : decode cX12_street 1 = .ok (.i2l, 1) := by decide +kernel
theorem dX12_street_2 : decode cX12_street 2 = .ok (.lconst 0, 1) := by decide +kernel
theorem dX12_street_3 : decode cX12_street 3 = .ok (.aload_n 0, 1) := by decide +kernel
theorem dX12_street_4 : decode cX12_street 4 = .ok (.getfield 13, 3) := by decide +kernel
theorem dX12_street_7 : decode cX12_street 7 = .ok (.iconst 5, 1) := by decide +kernel
theorem dX12_street_8 : decode cX12_street 8 = .ok (.iaload, 1) := by decide +kernel
theorem dX12_street_9 : decode cX12_street 9 = .ok (.iconst 1, 1) := by decide +kernel
theorem dX12_street_10 : decode cX12_street 10 = .ok (.isub, 1) := by decide +kernel
theorem dX12_street_11 : decode cX12_street 11 = .ok (.i2l, 1) := by decide +kernel
theorem dX12_street_12 : decode cX12_street 12 = .ok (.invokestatic 98, 3) := by decide +kernel
theorem dX12_street_15 : decode cX12_street 15 = .ok (.ifCond .ne 5, 3) := by decide +kernel
theorem dX12_street_18 : decode cX12_street 18 = .ok (.iconst (-1), 1) := by decide +kernel
theorem dX12_street_19 : decode cX12_street 19 = .ok (.ireturn, 1) := by decide +kernel
theorem dX12_street_20 : decode cX12_street 20 = .ok (.sipush 206, 3) := by decide +kernel
theorem dX12_street_23 : decode cX12_street 23 = .ok (.bipush 7, 2) := by decide +kernel
theorem dX12_street_25 : decode cX12_street 25 = .ok (.iload_n 1, 1) := by decide +kernel
theorem dX12_street_26 : decode cX12_street 26 = .ok (.imul, 1) := by decide +kernel
theorem dX12_street_27 : decode cX12_street 27 = .ok (.iadd, 1) := by decide +kernel
theorem dX12_street_28 : decode cX12_street 28 = .ok (.istore_n 3, 1) := by decide +kernel
theorem dX12_street_29 : decode cX12_street 29 = .ok (.iload_n 2, 1) := by decide +kernel
theorem dX12_street_30 : decode cX12_street 30 = .ok (.i2l, 1) := by decide +kernel
theorem dX12_street_31 : decode cX12_street 31 = .ok (.lconst 0, 1) := by decide +kernel
theorem dX12_street_32 : decode cX12_street 32 = .ok (.aload_n 0, 1) := by decide +kernel
theorem dX12_street_33 : decode cX12_street 33 = .ok (.getfield 13, 3) := by decide +kernel
theorem dX12_street_36 : decode cX12_street 36 = .ok (.iload_n 3, 1) := by decide +kernel
theorem dX12_street_37 : decode cX12_street 37 = .ok (.iaload, 1) := by decide +kernel
theorem dX12_street_38 : decode cX12_street 38 = .ok (.iconst 1, 1) := by decide +kernel
theorem dX12_street_39 : decode cX12_street 39 = .ok (.isub, 1) := by decide +kernel
theorem dX12_street_40 : decode cX12_street 40 = .ok (.i2l, 1) := by decide +kernel
theorem dX12_street_41 : decode cX12_street 41 = .ok (.invokestatic 98, 3) := by decide +kernel
theorem dX12_street_44 : decode cX12_street 44 = .ok (.ifCond .eq 16, 3) := by decide +kernel
theorem dX12_street_60 : decode cX12_street 60 = .ok (.iconst (-1), 1) := by decide +kernel
theorem dX12_street_61 : decode cX12_street 61 = .ok (.ireturn, 1) := by decide +kernel
theorem dX12_street_47 : decode cX12_street 47 = .ok (.aload_n 0, 1) := by decide +kernel
theorem dX12_street_48 : decode cX12_street 48 = .ok (.getfield 13, 3) := by decide +kernel
theorem dX12_street_51 : decode cX12_street 51 = .ok (.iload_n 3, 1) := by decide +kernel
theorem dX12_street_52 : decode cX12_street 52 = .ok (.iconst 1, 1) := by decide +kernel
theorem dX12_street_53 : decode cX12_street 53 = .ok (.iadd, 1) := by decide +kernel
theorem dX12_street_54 : decode cX12_street 54 = .ok (.iload_n 2, 1) := by decide +kernel
theorem dX12_street_55 : decode cX12_street 55 = .ok (.iadd, 1) := by decide +kernel
theorem dX12_street_56 : decode cX12_street 56 = .ok (.iaload, 1) := by decide +kernel
theorem dX12_street_57 : decode cX12_street 57 = .ok (.goto 4, 3) := by decide +kernel
theorem dX12_journey_0 : decode cX12_journey 0 = .ok (.aload_n 0, 1) := by decide +kernel
theorem dX12_journey_1 : decode cX12_journey 1 = .ok (.iload_n 1, 1) := by decide +kernel
theorem dX12_journey_2 : decode cX12_journey 2 = .ok (.invokevirtual 301, 3) := by decide +kernel
theorem dX12_journey_5 : decode cX12_journey 5 = .ok (.ifCond .eq 15, 3) := by decide +kernel
theorem dX12_journey_20 : decode cX12_journey 20 = .ok (.ldc_w 405, 3) := by decide +kernel
theorem dX12_journey_23 : decode cX12_journey 23 = .ok (.ireturn, 1) := by decide +kernel
theorem dX12_journey_8 : decode cX12_journey 8 = .ok (.iload_n 2, 1) := by decide +kernel
theorem dX12_journey_9 : decode cX12_journey 9 = .ok (.i2l, 1) := by decide +kernel
theorem dX12_journey_10 : decode cX12_journey 10 = .ok (.lconst 0, 1) := by decide +kernel
theorem dX12_journey_11 : decode cX12_journey 11 = .ok (.ldc2_w 233, 3) := by decide +kernel
theorem dX12_journey_14 : decode cX12_journey 14 = .ok (.invokestatic 98, 3) := by decide +kernel
theorem dX12_journey_17 : decode cX12_journey 17 = .ok (.ifCond .ne 7, 3) := by decide +kernel
theorem dX12_journey_24 : decode cX12_journey 24 = .ok (.iload_n 2, 1) := by decide +kernel
theorem dX12_journey_25 : decode cX12_journey 25 = .ok (.iconst 3, 1) := by decide +kernel
theorem dX12_journey_26 : decode cX12_journey 26 = .ok (.if_icmp .ge 10, 3) := by decide +kernel
theorem dX12_journey_36 : decode cX12_journey 36 = .ok (.aload_n 0, 1) := by decide +kernel
theorem dX12_journey_37 : decode cX12_journey 37 = .ok (.aload_n 0, 1) := by decide +kernel
theorem dX12_journey_38 : decode cX12_journey 38 = .ok (.getfield 46, 3) := by decide +kernel
theorem dX12_journey_41 : decode cX12_journey 41 = .ok (.iconst 1, 1) := by decide +kernel
theorem dX12_journey_42 : decode cX12_journey 42 = .ok (.invokevirtual 260, 3) := by decide +kernel
theorem dX12_journey_45 : decode cX12_journey 45 = .ok (.aload_n 0, 1) := by decide +kernel
theorem dX12_journey_46 : decode cX12_journey 46 = .ok (.getfield 46, 3) := by decide +kernel
theorem dX12_journey_49 : decode cX12_journey 49 = .ok (.bipush 16, 2) := by decide +kernel
theorem dX12_journey_51 : decode cX12_journey 51 = .ok (.aload_n 0, 1) := by decide +kernel
theorem dX12_journey_52 : decode cX12_journey 52 = .ok (.iload_n 1, 1) := by decide +kernel
theorem dX12_journey_53 : decode cX12_journey 53 = .ok (.iconst 0, 1) := by decide +kernel
theorem dX12_journey_54 : decode cX12_journey 54 = .ok (.invokevirtual 295, 3) := by decide +kernel
theorem dX12_journey_57 : decode cX12_journey 57 = .ok (.imul, 1) := by decide +kernel
theorem dX12_journey_58 : decode cX12_journey 58 = .ok (.aload_n 0, 1) := by decide +kernel
theorem dX12_journey_59 : decode cX12_journey 59 = .ok (.iload_n 1, 1) := by decide +kernel
theorem dX12_journey_60 : decode cX12_journey 60 = .ok (.iconst 1, 1) := by decide +kernel
theorem dX12_journey_61 : decode cX12_journey 61 = .ok (.invokevirtual 295, 3) := by decide +kernel
theorem dX12_journey_64 : decode cX12_journey 64 = .ok (.iadd, 1) := by decide +kernel
theorem dX12_journey_65 : decode cX12_journey 65 = .ok (.iaload, 1) := by decide +kernel
theorem dX12_journey_66 : decode cX12_journey 66 = .ok (.istore_n 3, 1) := by decide +kernel
theorem dX12_journey_67 : decode cX12_journey 67 = .ok (.iload_n 3, 1) := by decide +kernel
theorem dX12_journey_68 : decode cX12_journey 68 = .ok (.ldc 255, 2) := by decide +kernel
theorem dX12_journey_70 : decode cX12_journey 70 = .ok (.if_icmp .lt 7, 3) := by decide +kernel
theorem dX12_journey_77 : decode cX12_journey 77 = .ok (.iload_n 3, 1) := by decide +kernel
theorem dX12_journey_78 : decode cX12_journey 78 = .ok (.ireturn, 1) := by decide +kernel
theorem dX12_journey_73 : decode cX12_journey 73 = .ok (.iconst (-1), 1) := by decide +kernel
theorem dX12_journey_74 : decode cX12_journey 74 = .ok (.goto 4, 3) := by decide +kernel
theorem dX12_journey_29 : decode cX12_journey 29 = .ok (.aload_n 0, 1) := by decide +kernel
theorem dX12_journey_30 : decode cX12_journey 30 = .ok (.iload_n 1, 1) := by decide +kernel
theorem dX12_journey_31 : decode cX12_journey 31 = .ok (.iload_n 2, 1) := by decide +kernel
theorem dX12_journey_32 : decode cX12_journey 32 = .ok (.invokevirtual 295, 3) := by decide +kernel
theorem dX12_journey_35 : decode cX12_journey 35 = .ok (.ireturn, 1) := by decide +kernel
theorem dX12_openOf_0 : decode cX12_openOf 0 = .ok (.iconst 0, 1) := by decide +kernel
theorem dX12_openOf_1 : decode cX12_openOf 1 = .ok (.istore_n 2, 1) := by decide +kernel
theorem dX12_openOf_2 : decode cX12_openOf 2 = .ok (.iconst 0, 1) := by decide +kernel
theorem dX12_openOf_3 : decode cX12_openOf 3 = .ok (.istore_n 3, 1) := by decide +kernel
theorem dX12_openOf_4 : decode cX12_openOf 4 = .ok (.iload_n 3, 1) := by decide +kernel
theorem dX12_openOf_5 : decode cX12_openOf 5 = .ok (.aload_n 0, 1) := by decide +kernel
theorem dX12_openOf_6 : decode cX12_openOf 6 = .ok (.invokevirtual 102, 3) := by decide +kernel
theorem dX12_openOf_9 : decode cX12_openOf 9 = .ok (.if_icmp .ge 26, 3) := by decide +kernel
theorem dX12_openOf_12 : decode cX12_openOf 12 = .ok (.iload_n 2, 1) := by decide +kernel
theorem dX12_openOf_13 : decode cX12_openOf 13 = .ok (.aload_n 0, 1) := by decide +kernel
theorem dX12_openOf_14 : decode cX12_openOf 14 = .ok (.iload_n 1, 1) := by decide +kernel
theorem dX12_openOf_15 : decode cX12_openOf 15 = .ok (.iload_n 3, 1) := by decide +kernel
theorem dX12_openOf_16 : decode cX12_openOf 16 = .ok (.invokevirtual 249, 3) := by decide +kernel
theorem dX12_openOf_19 : decode cX12_openOf 19 = .ok (.ifCond .ne 7, 3) := by decide +kernel
theorem dX12_openOf_26 : decode cX12_openOf 26 = .ok (.iconst 0, 1) := by decide +kernel
theorem dX12_openOf_27 : decode cX12_openOf 27 = .ok (.iadd, 1) := by decide +kernel
theorem dX12_openOf_28 : decode cX12_openOf 28 = .ok (.istore_n 2, 1) := by decide +kernel
theorem dX12_openOf_29 : decode cX12_openOf 29 = .ok (.iinc 3 1, 3) := by decide +kernel
theorem dX12_openOf_32 : decode cX12_openOf 32 = .ok (.goto (-28), 3) := by decide +kernel
theorem dX12_openOf_22 : decode cX12_openOf 22 = .ok (.iconst 1, 1) := by decide +kernel
theorem dX12_openOf_23 : decode cX12_openOf 23 = .ok (.goto 4, 3) := by decide +kernel
theorem dX12_openOf_35 : decode cX12_openOf 35 = .ok (.iload_n 2, 1) := by decide +kernel
theorem dX12_openOf_36 : decode cX12_openOf 36 = .ok (.ireturn, 1) := by decide +kernel
theorem dX12_gridAlleys_0 : decode cX12_gridAlleys 0 = .ok (.aload_n 0, 1) := by decide +kernel
theorem dX12_gridAlleys_1 : decode cX12_gridAlleys 1 = .ok (.getfield 13, 3) := by decide +kernel
theorem dX12_gridAlleys_4 : decode cX12_gridAlleys 4 = .ok (.bipush 6, 2) := by decide +kernel
theorem dX12_gridAlleys_6 : decode cX12_gridAlleys 6 = .ok (.iaload, 1) := by decide +kernel
theorem dX12_gridAlleys_7 : decode cX12_gridAlleys 7 = .ok (.ifCond .ne 7, 3) := by decide +kernel
theorem dX12_gridAlleys_14 : decode cX12_gridAlleys 14 = .ok (.aload_n 0, 1) := by decide +kernel
theorem dX12_gridAlleys_15 : decode cX12_gridAlleys 15 = .ok (.getfield 13, 3) := by decide +kernel
theorem dX12_gridAlleys_18 : decode cX12_gridAlleys 18 = .ok (.bipush 6, 2) := by decide +kernel
theorem dX12_gridAlleys_20 : decode cX12_gridAlleys 20 = .ok (.iaload, 1) := by decide +kernel
theorem dX12_gridAlleys_21 : decode cX12_gridAlleys 21 = .ok (.iconst 1, 1) := by decide +kernel
theorem dX12_gridAlleys_22 : decode cX12_gridAlleys 22 = .ok (.isub, 1) := by decide +kernel
theorem dX12_gridAlleys_23 : decode cX12_gridAlleys 23 = .ok (.aload_n 0, 1) := by decide +kernel
theorem dX12_gridAlleys_24 : decode cX12_gridAlleys 24 = .ok (.getfield 13, 3) := by decide +kernel
theorem dX12_gridAlleys_27 : decode cX12_gridAlleys 27 = .ok (.bipush 7, 2) := by decide +kernel
theorem dX12_gridAlleys_29 : decode cX12_gridAlleys 29 = .ok (.iaload, 1) := by decide +kernel
theorem dX12_gridAlleys_30 : decode cX12_gridAlleys 30 = .ok (.imul, 1) := by decide +kernel
theorem dX12_gridAlleys_31 : decode cX12_gridAlleys 31 = .ok (.aload_n 0, 1) := by decide +kernel
theorem dX12_gridAlleys_32 : decode cX12_gridAlleys 32 = .ok (.getfield 13, 3) := by decide +kernel
theorem dX12_gridAlleys_35 : decode cX12_gridAlleys 35 = .ok (.bipush 6, 2) := by decide +kernel
theorem dX12_gridAlleys_37 : decode cX12_gridAlleys 37 = .ok (.iaload, 1) := by decide +kernel
theorem dX12_gridAlleys_38 : decode cX12_gridAlleys 38 = .ok (.aload_n 0, 1) := by decide +kernel
theorem dX12_gridAlleys_39 : decode cX12_gridAlleys 39 = .ok (.getfield 13, 3) := by decide +kernel
theorem dX12_gridAlleys_42 : decode cX12_gridAlleys 42 = .ok (.bipush 7, 2) := by decide +kernel
theorem dX12_gridAlleys_44 : decode cX12_gridAlleys 44 = .ok (.iaload, 1) := by decide +kernel
theorem dX12_gridAlleys_45 : decode cX12_gridAlleys 45 = .ok (.iconst 1, 1) := by decide +kernel
theorem dX12_gridAlleys_46 : decode cX12_gridAlleys 46 = .ok (.isub, 1) := by decide +kernel
theorem dX12_gridAlleys_47 : decode cX12_gridAlleys 47 = .ok (.imul, 1) := by decide +kernel
theorem dX12_gridAlleys_48 : decode cX12_gridAlleys 48 = .ok (.iadd, 1) := by decide +kernel
theorem dX12_gridAlleys_49 : decode cX12_gridAlleys 49 = .ok (.ireturn, 1) := by decide +kernel
theorem dX12_gridAlleys_10 : decode cX12_gridAlleys 10 = .ok (.iconst 0, 1) := by decide +kernel
theorem dX12_gridAlleys_11 : decode cX12_gridAlleys 11 = .ok (.goto 38, 3) := by decide +kernel
theorem dX12_count_0 : decode cX12_count 0 = .ok (.iconst 0, 1) := by decide +kernel
theorem dX12_count_1 : decode cX12_count 1 = .ok (.istore_n 2, 1) := by decide +kernel
theorem dX12_count_2 : decode cX12_count 2 = .ok (.iload_n 1, 1) := by decide +kernel
theorem dX12_count_3 : decode cX12_count 3 = .ok (.tableswitch 176 0 11 #[61, 68, 73, 78, 83, 110, 115, 115, 124, 131, 164, 171], 61) := by decide +kernel
theorem dX12_count_179 : decode cX12_count 179 = .ok (.iconst (-1), 1) := by decide +kernel
theorem dX12_count_180 : decode cX12_count 180 = .ok (.ireturn, 1) := by decide +kernel
theorem dX12_count_64 : decode cX12_count 64 = .ok (.aload_n 0, 1) := by decide +kernel
theorem dX12_count_65 : decode cX12_count 65 = .ok (.getfield 13, 3) := by decide +kernel
theorem dX12_count_68 : decode cX12_count 68 = .ok (.iconst 0, 1) := by decide +kernel
theorem dX12_count_69 : decode cX12_count 69 = .ok (.iaload, 1) := by decide +kernel
theorem dX12_count_70 : decode cX12_count 70 = .ok (.ireturn, 1) := by decide +kernel
theorem dX12_count_71 : decode cX12_count 71 = .ok (.aload_n 0, 1) := by decide +kernel
theorem dX12_count_72 : decode cX12_count 72 = .ok (.invokevirtual 106, 3) := by decide +kernel
theorem dX12_count_75 : decode cX12_count 75 = .ok (.ireturn, 1) := by decide +kernel
theorem dX12_count_76 : decode cX12_count 76 = .ok (.aload_n 0, 1) := by decide +kernel
theorem dX12_count_77 : decode cX12_count 77 = .ok (.invokevirtual 102, 3) := by decide +kernel
theorem dX12_count_80 : decode cX12_count 80 = .ok (.ireturn, 1) := by decide +kernel
theorem dX12_count_81 : decode cX12_count 81 = .ok (.aload_n 0, 1) := by decide +kernel
theorem dX12_count_82 : decode cX12_count 82 = .ok (.invokevirtual 109, 3) := by decide +kernel
theorem dX12_count_85 : decode cX12_count 85 = .ok (.ireturn, 1) := by decide +kernel
theorem dX12_count_86 : decode cX12_count 86 = .ok (.iconst 0, 1) := by decide +kernel
theorem dX12_count_87 : decode cX12_count 87 = .ok (.istore_n 3, 1) := by decide +kernel
theorem dX12_count_88 : decode cX12_count 88 = .ok (.iload_n 3, 1) := by decide +kernel
theorem dX12_count_89 : decode cX12_count 89 = .ok (.aload_n 0, 1) := by decide +kernel
theorem dX12_count_90 : decode cX12_count 90 = .ok (.invokevirtual 102, 3) := by decide +kernel
theorem dX12_count_93 : decode cX12_count 93 = .ok (.if_icmp .ge 18, 3) := by decide +kernel
theorem dX12_count_96 : decode cX12_count 96 = .ok (.iload_n 2, 1) := by decide +kernel
theorem dX12_count_97 : decode cX12_count 97 = .ok (.aload_n 0, 1) := by decide +kernel
theorem dX12_count_98 : decode cX12_count 98 = .ok (.iload_n 3, 1) := by decide +kernel
theorem dX12_count_99 : decode cX12_count 99 = .ok (.iconst 4, 1) := by decide +kernel
theorem dX12_count_100 : decode cX12_count 100 = .ok (.invokevirtual 230, 3) := by decide +kernel
theorem dX12_count_103 : decode cX12_count 103 = .ok (.iadd, 1) := by decide +kernel
theorem dX12_count_104 : decode cX12_count 104 = .ok (.istore_n 2, 1) := by decide +kernel
theorem dX12_count_105 : decode cX12_count 105 = .ok (.iinc 3 1, 3) := by decide +kernel
theorem dX12_count_108 : decode cX12_count 108 = .ok (.goto (-20), 3) := by decide +kernel
theorem dX12_count_111 : decode cX12_count 111 = .ok (.iload_n 2, 1) := by decide +kernel
theorem dX12_count_112 : decode cX12_count 112 = .ok (.ireturn, 1) := by decide +kernel
theorem dX12_count_113 : decode cX12_count 113 = .ok (.aload_n 0, 1) := by decide +kernel
theorem dX12_count_114 : decode cX12_count 114 = .ok (.getfield 112, 3) := by decide +kernel
theorem dX12_count_117 : decode cX12_count 117 = .ok (.ireturn, 1) := by decide +kernel
theorem dX12_count_118 : decode cX12_count 118 = .ok (.aload_n 0, 1) := by decide +kernel
theorem dX12_count_119 : decode cX12_count 119 = .ok (.iload_n 1, 1) := by decide +kernel
theorem dX12_count_120 : decode cX12_count 120 = .ok (.bipush 6, 2) := by decide +kernel
theorem dX12_count_122 : decode cX12_count 122 = .ok (.isub, 1) := by decide +kernel
theorem dX12_count_123 : decode cX12_count 123 = .ok (.invokevirtual 406, 3) := by decide +kernel
theorem dX12_count_126 : decode cX12_count 126 = .ok (.ireturn, 1) := by decide +kernel
theorem dX12_count_127 : decode cX12_count 127 = .ok (.aload_n 0, 1) := by decide +kernel
theorem dX12_count_128 : decode cX12_count 128 = .ok (.getfield 13, 3) := by decide +kernel
theorem dX12_count_131 : decode cX12_count 131 = .ok (.iconst 4, 1) := by decide +kernel
theorem dX12_count_132 : decode cX12_count 132 = .ok (.iaload, 1) := by decide +kernel
theorem dX12_count_133 : decode cX12_count 133 = .ok (.ireturn, 1) := by decide +kernel
theorem dX12_count_134 : decode cX12_count 134 = .ok (.iconst 0, 1) := by decide +kernel
theorem dX12_count_135 : decode cX12_count 135 = .ok (.istore_n 3, 1) := by decide +kernel
theorem dX12_count_136 : decode cX12_count 136 = .ok (.iload_n 3, 1) := by decide +kernel
theorem dX12_count_137 : decode cX12_count 137 = .ok (.iconst 4, 1) := by decide +kernel
theorem dX12_count_138 : decode cX12_count 138 = .ok (.if_icmp .ge 27, 3) := by decide +kernel
theorem dX12_count_141 : decode cX12_count 141 = .ok (.iload_n 2, 1) := by decide +kernel
theorem dX12_count_142 : decode cX12_count 142 = .ok (.aload_n 0, 1) := by decide +kernel
theorem dX12_count_143 : decode cX12_count 143 = .ok (.getfield 79, 3) := by decide +kernel
theorem dX12_count_146 : decode cX12_count 146 = .ok (.iload_n 3, 1) := by decide +kernel
theorem dX12_count_147 : decode cX12_count 147 = .ok (.iaload, 1) := by decide +kernel
theorem dX12_count_148 : decode cX12_count 148 = .ok (.iconst (-1), 1) := by decide +kernel
theorem dX12_count_149 : decode cX12_count 149 = .ok (.if_icmp .ne 7, 3) := by decide +kernel
theorem dX12_count_156 : decode cX12_count 156 = .ok (.iconst 1, 1) := by decide +kernel
theorem dX12_count_157 : decode cX12_count 157 = .ok (.iadd, 1) := by decide +kernel
theorem dX12_count_158 : decode cX12_count 158 = .ok (.istore_n 2, 1) := by decide +kernel
theorem dX12_count_159 : decode cX12_count 159 = .ok (.iinc 3 1, 3) := by decide +kernel
theorem dX12_count_162 : decode cX12_count 162 = .ok (.goto (-26), 3) := by decide +kernel
theorem dX12_count_152 : decode cX12_count 152 = .ok (.iconst 0, 1) := by decide +kernel
theorem dX12_count_153 : decode cX12_count 153 = .ok (.goto 4, 3) := by decide +kernel
theorem dX12_count_165 : decode cX12_count 165 = .ok (.iload_n 2, 1) := by decide +kernel
theorem dX12_count_166 : decode cX12_count 166 = .ok (.ireturn, 1) := by decide +kernel
theorem dX12_count_167 : decode cX12_count 167 = .ok (.aload_n 0, 1) := by decide +kernel
theorem dX12_count_168 : decode cX12_count 168 = .ok (.getfield 13, 3) := by decide +kernel
theorem dX12_count_171 : decode cX12_count 171 = .ok (.iconst 5, 1) := by decide +kernel
theorem dX12_count_172 : decode cX12_count 172 = .ok (.iaload, 1) := by decide +kernel
theorem dX12_count_173 : decode cX12_count 173 = .ok (.ireturn, 1) := by decide +kernel
theorem dX12_count_174 : decode cX12_count 174 = .ok (.aload_n 0, 1) := by decide +kernel
theorem dX12_count_175 : decode cX12_count 175 = .ok (.invokevirtual 409, 3) := by decide +kernel
theorem dX12_count_178 : decode cX12_count 178 = .ok (.ireturn, 1) := by decide +kernel
theorem dX12_keep_0 : decode cX12_keep 0 = .ok (.iload_n 1, 1) := by decide +kernel
theorem dX12_keep_1 : decode cX12_keep 1 = .ok (.i2l, 1) := by decide +kernel
theorem dX12_keep_2 : decode cX12_keep 2 = .ok (.lconst 0, 1) := by decide +kernel
theorem dX12_keep_3 : decode cX12_keep 3 = .ok (.ldc2_w 96, 3) := by decide +kernel
theorem dX12_keep_6 : decode cX12_keep 6 = .ok (.invokestatic 98, 3) := by decide +kernel
theorem dX12_keep_9 : decode cX12_keep 9 = .ok (.ifCond .ne 6, 3) := by decide +kernel
theorem dX12_keep_12 : decode cX12_keep 12 = .ok (.bipush (-2), 2) := by decide +kernel
theorem dX12_keep_14 : decode cX12_keep 14 = .ok (.ireturn, 1) := by decide +kernel
theorem dX12_keep_15 : decode cX12_keep 15 = .ok (.iconst 0, 1) := by decide +kernel
theorem dX12_keep_16 : decode cX12_keep 16 = .ok (.istore_n 2, 1) := by decide +kernel
theorem dX12_keep_17 : decode cX12_keep 17 = .ok (.iload_n 2, 1) := by decide +kernel
theorem dX12_keep_18 : decode cX12_keep 18 = .ok (.sipush 304, 3) := by decide +kernel
theorem dX12_keep_21 : decode cX12_keep 21 = .ok (.if_icmp .ge 27, 3) := by decide +kernel
theorem dX12_keep_24 : decode cX12_keep 24 = .ok (.aload_n 0, 1) := by decide +kernel
theorem dX12_keep_25 : decode cX12_keep 25 = .ok (.getfield 17, 3) := by decide +kernel
theorem dX12_keep_28 : decode cX12_keep 28 = .ok (.sipush 304, 3) := by decide +kernel
theorem dX12_keep_31 : decode cX12_keep 31 = .ok (.iload_n 1, 1) := by decide +kernel
theorem dX12_keep_32 : decode cX12_keep 32 = .ok (.imul, 1) := by decide +kernel
theorem dX12_keep_33 : decode cX12_keep 33 = .ok (.iload_n 2, 1) := by decide +kernel
theorem dX12_keep_34 : decode cX12_keep 34 = .ok (.iadd, 1) := by decide +kernel
theorem dX12_keep_35 : decode cX12_keep 35 = .ok (.aload_n 0, 1) := by decide +kernel
theorem dX12_keep_36 : decode cX12_keep 36 = .ok (.getfield 13, 3) := by decide +kernel
theorem dX12_keep_39 : decode cX12_keep 39 = .ok (.iload_n 2, 1) := by decide +kernel
theorem dX12_keep_40 : decode cX12_keep 40 = .ok (.iaload, 1) := by decide +kernel
theorem dX12_keep_41 : decode cX12_keep 41 = .ok (.iastore, 1) := by decide +kernel
theorem dX12_keep_42 : decode cX12_keep 42 = .ok (.iinc 2 1, 3) := by decide +kernel
theorem dX12_keep_45 : decode cX12_keep 45 = .ok (.goto (-28), 3) := by decide +kernel
theorem dX12_keep_48 : decode cX12_keep 48 = .ok (.aload_n 0, 1) := by decide +kernel
theorem dX12_keep_49 : decode cX12_keep 49 = .ok (.getfield 20, 3) := by decide +kernel
theorem dX12_keep_52 : decode cX12_keep 52 = .ok (.iload_n 1, 1) := by decide +kernel
theorem dX12_keep_53 : decode cX12_keep 53 = .ok (.iconst 1, 1) := by decide +kernel
theorem dX12_keep_54 : decode cX12_keep 54 = .ok (.bastore, 1) := by decide +kernel
theorem dX12_keep_55 : decode cX12_keep 55 = .ok (.iconst 0, 1) := by decide +kernel
theorem dX12_keep_56 : decode cX12_keep 56 = .ok (.ireturn, 1) := by decide +kernel
theorem dX12_back_0 : decode cX12_back 0 = .ok (.iload_n 1, 1) := by decide +kernel
theorem dX12_back_1 : decode cX12_back 1 = .ok (.i2l, 1) := by decide +kernel
theorem dX12_back_2 : decode cX12_back 2 = .ok (.lconst 0, 1) := by decide +kernel
theorem dX12_back_3 : decode cX12_back 3 = .ok (.ldc2_w 96, 3) := by decide +kernel
theorem dX12_back_6 : decode cX12_back 6 = .ok (.invokestatic 98, 3) := by decide +kernel
theorem dX12_back_9 : decode cX12_back 9 = .ok (.ifCond .ne 6, 3) := by decide +kernel
theorem dX12_back_12 : decode cX12_back 12 = .ok (.bipush (-2), 2) := by decide +kernel
theorem dX12_back_14 : decode cX12_back 14 = .ok (.ireturn, 1) := by decide +kernel
theorem dX12_back_15 : decode cX12_back 15 = .ok (.aload_n 0, 1) := by decide +kernel
theorem dX12_back_16 : decode cX12_back 16 = .ok (.getfield 20, 3) := by decide +kernel
theorem dX12_back_19 : decode cX12_back 19 = .ok (.iload_n 1, 1) := by decide +kernel
theorem dX12_back_20 : decode cX12_back 20 = .ok (.baload, 1) := by decide +kernel
theorem dX12_back_21 : decode cX12_back 21 = .ok (.ifCond .ne 6, 3) := by decide +kernel
theorem dX12_back_27 : decode cX12_back 27 = .ok (.iconst 0, 1) := by decide +kernel
theorem dX12_back_28 : decode cX12_back 28 = .ok (.istore_n 2, 1) := by decide +kernel
theorem dX12_back_29 : decode cX12_back 29 = .ok (.iload_n 2, 1) := by decide +kernel
theorem dX12_back_30 : decode cX12_back 30 = .ok (.sipush 304, 3) := by decide +kernel
theorem dX12_back_33 : decode cX12_back 33 = .ok (.if_icmp .ge 27, 3) := by decide +kernel
theorem dX12_back_36 : decode cX12_back 36 = .ok (.aload_n 0, 1) := by decide +kernel
theorem dX12_back_37 : decode cX12_back 37 = .ok (.getfield 13, 3) := by decide +kernel
theorem dX12_back_40 : decode cX12_back 40 = .ok (.iload_n 2, 1) := by decide +kernel
theorem dX12_back_41 : decode cX12_back 41 = .ok (.aload_n 0, 1) := by decide +kernel
theorem dX12_back_42 : decode cX12_back 42 = .ok (.getfield 17, 3) := by decide +kernel
theorem dX12_back_45 : decode cX12_back 45 = .ok (.sipush 304, 3) := by decide +kernel
theorem dX12_back_48 : decode cX12_back 48 = .ok (.iload_n 1, 1) := by decide +kernel
theorem dX12_back_49 : decode cX12_back 49 = .ok (.imul, 1) := by decide +kernel
theorem dX12_back_50 : decode cX12_back 50 = .ok (.iload_n 2, 1) := by decide +kernel
theorem dX12_back_51 : decode cX12_back 51 = .ok (.iadd, 1) := by decide +kernel
theorem dX12_back_52 : decode cX12_back 52 = .ok (.iaload, 1) := by decide +kernel
theorem dX12_back_53 : decode cX12_back 53 = .ok (.iastore, 1) := by decide +kernel
theorem dX12_back_54 : decode cX12_back 54 = .ok (.iinc 2 1, 3) := by decide +kernel
theorem dX12_back_57 : decode cX12_back 57 = .ok (.goto (-28), 3) := by decide +kernel
theorem dX12_back_60 : decode cX12_back 60 = .ok (.iconst 0, 1) := by decide +kernel
theorem dX12_back_61 : decode cX12_back 61 = .ok (.ireturn, 1) := by decide +kernel
theorem dX12_back_24 : decode cX12_back 24 = .ok (.bipush (-6), 2) := by decide +kernel
theorem dX12_back_26 : decode cX12_back 26 = .ok (.ireturn, 1) := by decide +kernel
theorem dX12_row_0 : decode cX12_row 0 = .ok (.iload_n 1, 1) := by decide +kernel
theorem dX12_row_1 : decode cX12_row 1 = .ok (.invokestatic 252, 3) := by decide +kernel
theorem dX12_row_4 : decode cX12_row 4 = .ok (.ifCond .eq 21, 3) := by decide +kernel
theorem dX12_row_25 : decode cX12_row 25 = .ok (.bipush (-2), 2) := by decide +kernel
theorem dX12_row_27 : decode cX12_row 27 = .ok (.ireturn, 1) := by decide +kernel
theorem dX12_row_7 : decode cX12_row 7 = .ok (.iload_n 2, 1) := by decide +kernel
theorem dX12_row_8 : decode cX12_row 8 = .ok (.i2l, 1) := by decide +kernel
theorem dX12_row_9 : decode cX12_row 9 = .ok (.lconst 0, 1) := by decide +kernel
theorem dX12_row_10 : decode cX12_row 10 = .ok (.ldc2_w 233, 3) := by decide +kernel
theorem dX12_row_13 : decode cX12_row 13 = .ok (.invokestatic 98, 3) := by decide +kernel
theorem dX12_row_16 : decode cX12_row 16 = .ok (.ifCond .eq 9, 3) := by decide +kernel
theorem dX12_row_19 : decode cX12_row 19 = .ok (.iload_n 3, 1) := by decide +kernel
theorem dX12_row_20 : decode cX12_row 20 = .ok (.bipush 60, 2) := by decide +kernel
theorem dX12_row_22 : decode cX12_row 22 = .ok (.if_icmp .le 6, 3) := by decide +kernel
theorem dX12_row_28 : decode cX12_row 28 = .ok (.iload_n 3, 1) := by decide +kernel
theorem dX12_row_29 : decode cX12_row 29 = .ok (.ifCond .ge 6, 3) := by decide +kernel
theorem dX12_row_35 : decode cX12_row 35 = .ok (.aload_n 0, 1) := by decide +kernel
theorem dX12_row_36 : decode cX12_row 36 = .ok (.getfield 79, 3) := by decide +kernel
theorem dX12_row_39 : decode cX12_row 39 = .ok (.iload_n 1, 1) := by decide +kernel
theorem dX12_row_40 : decode cX12_row 40 = .ok (.iload_n 3, 1) := by decide +kernel
theorem dX12_row_41 : decode cX12_row 41 = .ok (.iastore, 1) := by decide +kernel
theorem dX12_row_42 : decode cX12_row 42 = .ok (.aload_n 0, 1) := by decide +kernel
theorem dX12_row_43 : decode cX12_row 43 = .ok (.getfield 82, 3) := by decide +kernel
theorem dX12_row_46 : decode cX12_row 46 = .ok (.iload_n 1, 1) := by decide +kernel
theorem dX12_row_47 : decode cX12_row 47 = .ok (.iload_n 2, 1) := by decide +kernel
theorem dX12_row_48 : decode cX12_row 48 = .ok (.iastore, 1) := by decide +kernel
theorem dX12_row_49 : decode cX12_row 49 = .ok (.iconst 0, 1) := by decide +kernel
theorem dX12_row_50 : decode cX12_row 50 = .ok (.istore 4, 2) := by decide +kernel
theorem dX12_row_52 : decode cX12_row 52 = .ok (.iload 4, 2) := by decide +kernel
theorem dX12_row_54 : decode cX12_row 54 = .ok (.bipush 60, 2) := by decide +kernel
theorem dX12_row_56 : decode cX12_row 56 = .ok (.if_icmp .ge 22, 3) := by decide +kernel
theorem dX12_row_59 : decode cX12_row 59 = .ok (.aload_n 0, 1) := by decide +kernel
theorem dX12_row_60 : decode cX12_row 60 = .ok (.getfield 85, 3) := by decide +kernel
theorem dX12_row_63 : decode cX12_row 63 = .ok (.bipush 60, 2) := by decide +kernel
theorem dX12_row_65 : decode cX12_row 65 = .ok (.iload_n 1, 1) := by decide +kernel
theorem dX12_row_66 : decode cX12_row 66 = .ok (.imul, 1) := by decide +kernel
theorem dX12_row_67 : decode cX12_row 67 = .ok (.iload 4, 2) := by decide +kernel
theorem dX12_row_69 : decode cX12_row 69 = .ok (.iadd, 1) := by decide +kernel
theorem dX12_row_70 : decode cX12_row 70 = .ok (.lconst 0, 1) := by decide +kernel
theorem dX12_row_71 : decode cX12_row 71 = .ok (.lastore, 1) := by decide +kernel
theorem dX12_row_72 : decode cX12_row 72 = .ok (.iinc 4 1, 3) := by decide +kernel
theorem dX12_row_75 : decode cX12_row 75 = .ok (.goto (-23), 3) := by decide +kernel
theorem dX12_row_78 : decode cX12_row 78 = .ok (.iconst 0, 1) := by decide +kernel
theorem dX12_row_79 : decode cX12_row 79 = .ok (.ireturn, 1) := by decide +kernel
theorem dX12_row_32 : decode cX12_row 32 = .ok (.bipush (-3), 2) := by decide +kernel
theorem dX12_row_34 : decode cX12_row 34 = .ok (.ireturn, 1) := by decide +kernel
theorem dX12_paste_0 : decode cX12_paste 0 = .ok (.iload_n 1, 1) := by decide +kernel
theorem dX12_paste_1 : decode cX12_paste 1 = .ok (.invokestatic 252, 3) := by decide +kernel
theorem dX12_paste_4 : decode cX12_paste 4 = .ok (.ifCond .eq 10, 3) := by decide +kernel
theorem dX12_paste_14 : decode cX12_paste 14 = .ok (.bipush (-2), 2) := by decide +kernel
theorem dX12_paste_16 : decode cX12_paste 16 = .ok (.ireturn, 1) := by decide +kernel
theorem dX12_paste_7 : decode cX12_paste 7 = .ok (.iload_n 3, 1) := by decide +kernel
theorem dX12_paste_8 : decode cX12_paste 8 = .ok (.invokestatic 252, 3) := by decide +kernel
theorem dX12_paste_11 : decode cX12_paste 11 = .ok (.ifCond .ne 6, 3) := by decide +kernel
theorem dX12_paste_17 : decode cX12_paste 17 = .ok (.aload_n 0, 1) := by decide +kernel
theorem dX12_paste_18 : decode cX12_paste 18 = .ok (.getfield 79, 3) := by decide +kernel
theorem dX12_paste_21 : decode cX12_paste 21 = .ok (.iload_n 1, 1) := by decide +kernel
theorem dX12_paste_22 : decode cX12_paste 22 = .ok (.iaload, 1) := by decide +kernel
theorem dX12_paste_23 : decode cX12_paste 23 = .ok (.iconst (-1), 1) := by decide +kernel
theorem dX12_paste_24 : decode cX12_paste 24 = .ok (.if_icmp .eq 13, 3) := by decide +kernel
theorem dX12_paste_37 : decode cX12_paste 37 = .ok (.bipush (-6), 2) := by decide +kernel
theorem dX12_paste_39 : decode cX12_paste 39 = .ok (.ireturn, 1) := by decide +kernel
theorem dX12_paste_27 : decode cX12_paste 27 = .ok (.aload_n 0, 1) := by decide +kernel
theorem dX12_paste_28 : decode cX12_paste 28 = .ok (.getfield 79, 3) := by decide +kernel
theorem dX12_paste_31 : decode cX12_paste 31 = .ok (.iload_n 3, 1) := by decide +kernel
theorem dX12_paste_32 : decode cX12_paste 32 = .ok (.iaload, 1) := by decide +kernel
theorem dX12_paste_33 : decode cX12_paste 33 = .ok (.iconst (-1), 1) := by decide +kernel
theorem dX12_paste_34 : decode cX12_paste 34 = .ok (.if_icmp .ne 6, 3) := by decide +kernel
theorem dX12_paste_40 : decode cX12_paste 40 = .ok (.aload_n 0, 1) := by decide +kernel
theorem dX12_paste_41 : decode cX12_paste 41 = .ok (.getfield 82, 3) := by decide +kernel
theorem dX12_paste_44 : decode cX12_paste 44 = .ok (.iload_n 1, 1) := by decide +kernel
theorem dX12_paste_45 : decode cX12_paste 45 = .ok (.iaload, 1) := by decide +kernel
theorem dX12_paste_46 : decode cX12_paste 46 = .ok (.aload_n 0, 1) := by decide +kernel
theorem dX12_paste_47 : decode cX12_paste 47 = .ok (.getfield 82, 3) := by decide +kernel
theorem dX12_paste_50 : decode cX12_paste 50 = .ok (.iload_n 3, 1) := by decide +kernel
theorem dX12_paste_51 : decode cX12_paste 51 = .ok (.iaload, 1) := by decide +kernel
theorem dX12_paste_52 : decode cX12_paste 52 = .ok (.if_icmp .eq 6, 3) := by decide +kernel
theorem dX12_paste_58 : decode cX12_paste 58 = .ok (.iload_n 2, 1) := by decide +kernel
theorem dX12_paste_59 : decode cX12_paste 59 = .ok (.ifCond .lt 48, 3) := by decide +kernel
theorem dX12_paste_107 : decode cX12_paste 107 = .ok (.bipush (-7), 2) := by decide +kernel
theorem dX12_paste_109 : decode cX12_paste 109 = .ok (.ireturn, 1) := by decide +kernel
theorem dX12_paste_62 : decode cX12_paste 62 = .ok (.iload 4, 2) := by decide +kernel
theorem dX12_paste_64 : decode cX12_paste 64 = .ok (.ifCond .lt 43, 3) := by decide +kernel
theorem dX12_paste_67 : decode cX12_paste 67 = .ok (.iload 5, 2) := by decide +kernel
theorem dX12_paste_69 : decode cX12_paste 69 = .ok (.ifCond .lt 38, 3) := by decide +kernel
theorem dX12_paste_72 : decode cX12_paste 72 = .ok (.iload_n 2, 1) := by decide +kernel
theorem dX12_paste_73 : decode cX12_paste 73 = .ok (.i2l, 1) := by decide +kernel
theorem dX12_paste_74 : decode cX12_paste 74 = .ok (.iload 5, 2) := by decide +kernel
theorem dX12_paste_76 : decode cX12_paste 76 = .ok (.i2l, 1) := by decide +kernel
theorem dX12_paste_77 : decode cX12_paste 77 = .ok (.ladd, 1) := by decide +kernel
theorem dX12_paste_78 : decode cX12_paste 78 = .ok (.aload_n 0, 1) := by decide +kernel
theorem dX12_paste_79 : decode cX12_paste 79 = .ok (.getfield 79, 3) := by decide +kernel
theorem dX12_paste_82 : decode cX12_paste 82 = .ok (.iload_n 1, 1) := by decide +kernel
theorem dX12_paste_83 : decode cX12_paste 83 = .ok (.iaload, 1) := by decide +kernel
theorem dX12_paste_84 : decode cX12_paste 84 = .ok (.i2l, 1) := by decide +kernel
theorem dX12_paste_85 : decode cX12_paste 85 = .ok (.lcmp, 1) := by decide +kernel
theorem dX12_paste_86 : decode cX12_paste 86 = .ok (.ifCond .gt 21, 3) := by decide +kernel
theorem dX12_paste_89 : decode cX12_paste 89 = .ok (.iload 4, 2) := by decide +kernel
theorem dX12_paste_91 : decode cX12_paste 91 = .ok (.i2l, 1) := by decide +kernel
theorem dX12_paste_92 : decode cX12_paste 92 = .ok (.iload 5, 2) := by decide +kernel
theorem dX12_paste_94 : decode cX12_paste 94 = .ok (.i2l, 1) := by decide +kernel
theorem dX12_paste_95 : decode cX12_paste 95 = .ok (.ladd, 1) := by decide +kernel
theorem dX12_paste_96 : decode cX12_paste 96 = .ok (.aload_n 0, 1) := by decide +kernel
theorem dX12_paste_97 : decode cX12_paste 97 = .ok (.getfield 79, 3) := by decide +kernel
theorem dX12_paste_100 : decode cX12_paste 100 = .ok (.iload_n 3, 1) := by decide +kernel
theorem dX12_paste_101 : decode cX12_paste 101 = .ok (.iaload, 1) := by decide +kernel
theorem dX12_paste_102 : decode cX12_paste 102 = .ok (.i2l, 1) := by decide +kernel
theorem dX12_paste_103 : decode cX12_paste 103 = .ok (.lcmp, 1) := by decide +kernel
theorem dX12_paste_104 : decode cX12_paste 104 = .ok (.ifCond .le 6, 3) := by decide +kernel
theorem dX12_paste_110 : decode cX12_paste 110 = .ok (.iconst 0, 1) := by decide +kernel
theorem dX12_paste_111 : decode cX12_paste 111 = .ok (.istore 6, 2) := by decide +kernel
theorem dX12_paste_113 : decode cX12_paste 113 = .ok (.iload 6, 2) := by decide +kernel
theorem dX12_paste_115 : decode cX12_paste 115 = .ok (.iload 5, 2) := by decide +kernel
theorem dX12_paste_117 : decode cX12_paste 117 = .ok (.if_icmp .ge 30, 3) := by decide +kernel
theorem dX12_paste_120 : decode cX12_paste 120 = .ok (.aload_n 0, 1) := by decide +kernel
theorem dX12_paste_121 : decode cX12_paste 121 = .ok (.getfield 89, 3) := by decide +kernel
theorem dX12_paste_124 : decode cX12_paste 124 = .ok (.iload 6, 2) := by decide +kernel
theorem dX12_paste_126 : decode cX12_paste 126 = .ok (.aload_n 0, 1) := by decide +kernel
theorem dX12_paste_127 : decode cX12_paste 127 = .ok (.getfield 85, 3) := by decide +kernel
theorem dX12_paste_130 : decode cX12_paste 130 = .ok (.bipush 60, 2) := by decide +kernel
theorem dX12_paste_132 : decode cX12_paste 132 = .ok (.iload_n 1, 1) := by decide +kernel
theorem dX12_paste_133 : decode cX12_paste 133 = .ok (.imul, 1) := by decide +kernel
theorem dX12_paste_134 : decode cX12_paste 134 = .ok (.iload_n 2, 1) := by decide +kernel
theorem dX12_paste_135 : decode cX12_paste 135 = .ok (.iadd, 1) := by decide +kernel
theorem dX12_paste_136 : decode cX12_paste 136 = .ok (.iload 6, 2) := by decide +kernel
theorem dX12_paste_138 : decode cX12_paste 138 = .ok (.iadd, 1) := by decide +kernel
theorem dX12_paste_139 : decode cX12_paste 139 = .ok (.laload, 1) := by decide +kernel
theorem dX12_paste_140 : decode cX12_paste 140 = .ok (.lastore, 1) := by decide +kernel
theorem dX12_paste_141 : decode cX12_paste 141 = .ok (.iinc 6 1, 3) := by decide +kernel
theorem dX12_paste_144 : decode cX12_paste 144 = .ok (.goto (-31), 3) := by decide +kernel
theorem dX12_paste_147 : decode cX12_paste 147 = .ok (.iconst 0, 1) := by decide +kernel
theorem dX12_paste_148 : decode cX12_paste 148 = .ok (.istore 6, 2) := by decide +kernel
theorem dX12_paste_150 : decode cX12_paste 150 = .ok (.iload 6, 2) := by decide +kernel
theorem dX12_paste_152 : decode cX12_paste 152 = .ok (.iload 5, 2) := by decide +kernel
theorem dX12_paste_154 : decode cX12_paste 154 = .ok (.if_icmp .ge 31, 3) := by decide +kernel
theorem dX12_paste_157 : decode cX12_paste 157 = .ok (.aload_n 0, 1) := by decide +kernel
theorem dX12_paste_158 : decode cX12_paste 158 = .ok (.getfield 85, 3) := by decide +kernel
theorem dX12_paste_161 : decode cX12_paste 161 = .ok (.bipush 60, 2) := by decide +kernel
theorem dX12_paste_163 : decode cX12_paste 163 = .ok (.iload_n 3, 1) := by decide +kernel
theorem dX12_paste_164 : decode cX12_paste 164 = .ok (.imul, 1) := by decide +kernel
theorem dX12_paste_165 : decode cX12_paste 165 = .ok (.iload 4, 2) := by decide +kernel
theorem dX12_paste_167 : decode cX12_paste 167 = .ok (.iadd, 1) := by decide +kernel
theorem dX12_paste_168 : decode cX12_paste 168 = .ok (.iload 6, 2) := by decide +kernel
theorem dX12_paste_170 : decode cX12_paste 170 = .ok (.iadd, 1) := by decide +kernel
theorem dX12_paste_171 : decode cX12_paste 171 = .ok (.aload_n 0, 1) := by decide +kernel
theorem dX12_paste_172 : decode cX12_paste 172 = .ok (.getfield 89, 3) := by decide +kernel
theorem dX12_paste_175 : decode cX12_paste 175 = .ok (.iload 6, 2) := by decide +kernel
theorem dX12_paste_177 : decode cX12_paste 177 = .ok (.laload, 1) := by decide +kernel
theorem dX12_paste_178 : decode cX12_paste 178 = .ok (.lastore, 1) := by decide +kernel
theorem dX12_paste_179 : decode cX12_paste 179 = .ok (.iinc 6 1, 3) := by decide +kernel
theorem dX12_paste_182 : decode cX12_paste 182 = .ok (.goto (-32), 3) := by decide +kernel
theorem dX12_paste_185 : decode cX12_paste 185 = .ok (.iconst 0, 1) := by decide +kernel
theorem dX12_paste_186 : decode cX12_paste 186 = .ok (.ireturn, 1) := by decide +kernel
theorem dX12_paste_55 : decode cX12_paste 55 = .ok (.bipush (-8), 2) := by decide +kernel
theorem dX12_paste_57 : decode cX12_paste 57 = .ok (.ireturn, 1) := by decide +kernel
theorem dX12_cut__0 : decode cX12_cut_ 0 = .ok (.bipush 64, 2) := by decide +kernel
theorem dX12_cut__2 : decode cX12_cut_ 2 = .ok (.bipush 8, 2) := by decide +kernel
theorem dX12_cut__4 : decode cX12_cut_ 4 = .ok (.iload_n 2, 1) := by decide +kernel
theorem dX12_cut__5 : decode cX12_cut_ 5 = .ok (.ishl, 1) := by decide +kernel
theorem dX12_cut__6 : decode cX12_cut_ 6 = .ok (.isub, 1) := by decide +kernel
theorem dX12_cut__7 : decode cX12_cut_ 7 = .ok (.istore_n 3, 1) := by decide +kernel
theorem dX12_cut__8 : decode cX12_cut_ 8 = .ok (.lload_n 0, 1) := by decide +kernel
theorem dX12_cut__9 : decode cX12_cut_ 9 = .ok (.iload_n 3, 1) := by decide +kernel
theorem dX12_cut__10 : decode cX12_cut_ 10 = .ok (.lshl, 1) := by decide +kernel
theorem dX12_cut__11 : decode cX12_cut_ 11 = .ok (.iload_n 3, 1) := by decide +kernel
theorem dX12_cut__12 : decode cX12_cut_ 12 = .ok (.lshr, 1) := by decide +kernel
theorem dX12_cut__13 : decode cX12_cut_ 13 = .ok (.lreturn, 1) := by decide +kernel
theorem dX12_write_0 : decode cX12_write 0 = .ok (.iload_n 1, 1) := by decide +kernel
theorem dX12_write_1 : decode cX12_write 1 = .ok (.invokestatic 252, 3) := by decide +kernel
theorem dX12_write_4 : decode cX12_write 4 = .ok (.ifCond .ne 6, 3) := by decide +kernel
theorem dX12_write_7 : decode cX12_write 7 = .ok (.bipush (-2), 2) := by decide +kernel
theorem dX12_write_9 : decode cX12_write 9 = .ok (.ireturn, 1) := by decide +kernel
theorem dX12_write_10 : decode cX12_write 10 = .ok (.aload_n 0, 1) := by decide +kernel
theorem dX12_write_11 : decode cX12_write 11 = .ok (.getfield 79, 3) := by decide +kernel
theorem dX12_write_14 : decode cX12_write 14 = .ok (.iload_n 1, 1) := by decide +kernel
theorem dX12_write_15 : decode cX12_write 15 = .ok (.iaload, 1) := by decide +kernel
theorem dX12_write_16 : decode cX12_write 16 = .ok (.iconst (-1), 1) := by decide +kernel
theorem dX12_write_17 : decode cX12_write 17 = .ok (.if_icmp .ne 6, 3) := by decide +kernel
theorem dX12_write_23 : decode cX12_write 23 = .ok (.iload_n 2, 1) := by decide +kernel
theorem dX12_write_24 : decode cX12_write 24 = .ok (.i2l, 1) := by decide +kernel
theorem dX12_write_25 : decode cX12_write 25 = .ok (.lconst 0, 1) := by decide +kernel
theorem dX12_write_26 : decode cX12_write 26 = .ok (.aload_n 0, 1) := by decide +kernel
theorem dX12_write_27 : decode cX12_write 27 = .ok (.getfield 79, 3) := by decide +kernel
theorem dX12_write_30 : decode cX12_write 30 = .ok (.iload_n 1, 1) := by decide +kernel
theorem dX12_write_31 : decode cX12_write 31 = .ok (.iaload, 1) := by decide +kernel
theorem dX12_write_32 : decode cX12_write 32 = .ok (.iconst 1, 1) := by decide +kernel
theorem dX12_write_33 : decode cX12_write 33 = .ok (.isub, 1) := by decide +kernel
theorem dX12_write_34 : decode cX12_write 34 = .ok (.i2l, 1) := by decide +kernel
theorem dX12_write_35 : decode cX12_write 35 = .ok (.invokestatic 98, 3) := by decide +kernel
theorem dX12_write_38 : decode cX12_write 38 = .ok (.ifCond .ne 6, 3) := by decide +kernel
theorem dX12_write_41 : decode cX12_write 41 = .ok (.bipush (-7), 2) := by decide +kernel
theorem dX12_write_43 : decode cX12_write 43 = .ok (.ireturn, 1) := by decide +kernel
theorem dX12_write_44 : decode cX12_write 44 = .ok (.aload_n 0, 1) := by decide +kernel
theorem dX12_write_45 : decode cX12_write 45 = .ok (.getfield 85, 3) := by decide +kernel
theorem dX12_write_48 : decode cX12_write 48 = .ok (.bipush 60, 2) := by decide +kernel
theorem dX12_write_50 : decode cX12_write 50 = .ok (.iload_n 1, 1) := by decide +kernel
theorem dX12_write_51 : decode cX12_write 51 = .ok (.imul, 1) := by decide +kernel
theorem dX12_write_52 : decode cX12_write 52 = .ok (.iload_n 2, 1) := by decide +kernel
theorem dX12_write_53 : decode cX12_write 53 = .ok (.iadd, 1) := by decide +kernel
theorem dX12_write_54 : decode cX12_write 54 = .ok (.lload_n 3, 1) := by decide +kernel
theorem dX12_write_55 : decode cX12_write 55 = .ok (.aload_n 0, 1) := by decide +kernel
theorem dX12_write_56 : decode cX12_write 56 = .ok (.getfield 82, 3) := by decide +kernel
theorem dX12_write_59 : decode cX12_write 59 = .ok (.iload_n 1, 1) := by decide +kernel
theorem dX12_write_60 : decode cX12_write 60 = .ok (.iaload, 1) := by decide +kernel
theorem dX12_write_61 : decode cX12_write 61 = .ok (.invokestatic 412, 3) := by decide +kernel
theorem dX12_write_64 : decode cX12_write 64 = .ok (.lastore, 1) := by decide +kernel
theorem dX12_write_65 : decode cX12_write 65 = .ok (.iconst 0, 1) := by decide +kernel
theorem dX12_write_66 : decode cX12_write 66 = .ok (.ireturn, 1) := by decide +kernel
theorem dX12_write_20 : decode cX12_write 20 = .ok (.bipush (-6), 2) := by decide +kernel
theorem dX12_write_22 : decode cX12_write 22 = .ok (.ireturn, 1) := by decide +kernel
theorem mw_558 : Cond.fieldLink RX12 112 "OneWaysModel" "taped" "I" ∈ bW := bW_at 1308 (by decide +kernel) (by decide +kernel)
theorem mw_559 : Cond.fieldLink RX12 28 "OneWaysModel" "five" "[I" ∈ bW := bW_at 1309 (by decide +kernel) (by decide +kernel)
theorem mw_560 : Cond.fieldLink RX12 24 "OneWaysModel" "tape" "[B" ∈ bW := bW_at 1307 (by decide +kernel) (by decide +kernel)
theorem mw_561 : Cond.code yX12_in cX12_in 6 (some .boolean) ∈ bW := bW_at 1426 (by decide +kernel) (by decide +kernel)
theorem mw_562 : Cond.methodLink RX12 98 yX12_in ∈ bW := bW_at 1424 (by decide +kernel) (by decide +kernel)
theorem mw_563 : Cond.static yX12_in ∈ bW := bW_at 1425 (by decide +kernel) (by decide +kernel)
theorem mw_564 : Cond.initialized RX12 ∈ bW := bW_at 116 (by decide +kernel) (by decide +kernel)
theorem mw_565 : Cond.fieldLink RX12 31 "OneWaysModel" "faultPlace" "I" ∈ bW := bW_at 1316 (by decide +kernel) (by decide +kernel)
theorem mw_566 : Cond.fieldLink RX12 149 "OneWaysModel" "faultKind" "I" ∈ bW := bW_at 1315 (by decide +kernel) (by decide +kernel)
theorem mw_567 : Cond.fieldLink RX12 13 "OneWaysModel" "world" "[I" ∈ bW := bW_at 1304 (by decide +kernel) (by decide +kernel)
theorem mw_568 : Cond.code yX12_alleys cX12_alleys 1 (some .int) ∈ bW := bW_at 1530 (by decide +kernel) (by decide +kernel)
theorem mw_569 : Cond.methodLink RX12 102 yX12_alleys ∈ bW := bW_at 1527 (by decide +kernel) (by decide +kernel)
theorem mw_570 : Cond.instanceMethod yX12_alleys ∈ bW := bW_at 1529 (by decide +kernel) (by decide +kernel)
theorem mw_571 : Cond.selects RX12 yX12_alleys yX12_alleys ∈ bW := bW_at 58 (by decide +kernel) (by decide +kernel)
theorem mw_572 : Cond.constantLong RX12 233 3 ∈ bW := bW_at 1554 (by decide +kernel) (by decide +kernel)
theorem mw_573 : Cond.code yX12_ofAlley cX12_ofAlley 3 (some .int) ∈ bW := bW_at 1534 (by decide +kernel) (by decide +kernel)
theorem mw_574 : Cond.methodLink RX12 230 yX12_ofAlley ∈ bW := bW_at 1531 (by decide +kernel) (by decide +kernel)
theorem mw_575 : Cond.instanceMethod yX12_ofAlley ∈ bW := bW_at 1533 (by decide +kernel) (by decide +kernel)
theorem mw_576 : Cond.selects RX12 yX12_ofAlley yX12_ofAlley ∈ bW := bW_at 59 (by decide +kernel) (by decide +kernel)
theorem mw_577 : Cond.code yX12_mayBe cX12_mayBe 4 (some .boolean) ∈ bW := bW_at 1553 (by decide +kernel) (by decide +kernel)
theorem mw_578 : Cond.methodLink RX12 235 yX12_mayBe ∈ bW := bW_at 1550 (by decide +kernel) (by decide +kernel)
theorem mw_579 : Cond.instanceMethod yX12_mayBe ∈ bW := bW_at 1552 (by decide +kernel) (by decide +kernel)
theorem mw_580 : Cond.selects RX12 yX12_mayBe yX12_mayBe ∈ bW := bW_at 62 (by decide +kernel) (by decide +kernel)
theorem mw_581 : Cond.code yX12_isGiving cX12_isGiving 1 (some .boolean) ∈ bW := bW_at 1541 (by decide +kernel) (by decide +kernel)
theorem mw_582 : Cond.methodLink RX12 239 yX12_isGiving ∈ bW := bW_at 1539 (by decide +kernel) (by decide +kernel)
theorem mw_583 : Cond.static yX12_isGiving ∈ bW := bW_at 1540 (by decide +kernel) (by decide +kernel)
theorem mw_584 : Cond.code yX12_isAlley cX12_isAlley 2 (some .boolean) ∈ bW := bW_at 1545 (by decide +kernel) (by decide +kernel)
theorem mw_585 : Cond.methodLink RX12 243 yX12_isAlley ∈ bW := bW_at 1542 (by decide +kernel) (by decide +kernel)
theorem mw_586 : Cond.instanceMethod yX12_isAlley ∈ bW := bW_at 1544 (by decide +kernel) (by decide +kernel)
theorem mw_587 : Cond.selects RX12 yX12_isAlley yX12_isAlley ∈ bW := bW_at 60 (by decide +kernel) (by decide +kernel)
theorem mw_588 : Cond.code yX12_mayGive cX12_mayGive 4 (some .boolean) ∈ bW := bW_at 1549 (by decide +kernel) (by decide +kernel)
theorem mw_589 : Cond.methodLink RX12 246 yX12_mayGive ∈ bW := bW_at 1546 (by decide +kernel) (by decide +kernel)
theorem mw_590 : Cond.instanceMethod yX12_mayGive ∈ bW := bW_at 1548 (by decide +kernel) (by decide +kernel)
theorem mw_591 : Cond.selects RX12 yX12_mayGive yX12_mayGive ∈ bW := bW_at 61 (by decide +kernel) (by decide +kernel)
theorem mw_592 : Cond.code yX12_wayOf cX12_wayOf 3 (some .int) ∈ bW := bW_at 1558 (by decide +kernel) (by decide +kernel)
theorem mw_593 : Cond.methodLink RX12 249 yX12_wayOf ∈ bW := bW_at 1555 (by decide +kernel) (by decide +kernel)
theorem mw_594 : Cond.instanceMethod yX12_wayOf ∈ bW := bW_at 1557 (by decide +kernel) (by decide +kernel)
theorem mw_595 : Cond.selects RX12 yX12_wayOf yX12_wayOf ∈ bW := bW_at 63 (by decide +kernel) (by decide +kernel)
theorem mw_596 : Cond.code yX12_isSlot cX12_isSlot 1 (some .boolean) ∈ bW := bW_at 1565 (by decide +kernel) (by decide +kernel)
theorem mw_597 : Cond.methodLink RX12 252 yX12_isSlot ∈ bW := bW_at 1563 (by decide +kernel) (by decide +kernel)
theorem mw_598 : Cond.static yX12_isSlot ∈ bW := bW_at 1564 (by decide +kernel) (by decide +kernel)
theorem mw_599 : Cond.fieldLink RX12 79 "OneWaysModel" "many" "[I" ∈ bW := bW_at 1337 (by decide +kernel) (by decide +kernel)
theorem mw_600 : Cond.fieldLink RX12 85 "OneWaysModel" "numbers" "[J" ∈ bW := bW_at 1339 (by decide +kernel) (by decide +kernel)
theorem mw_601 : Cond.fieldLink RX12 40 "OneWaysModel" "now" "[I" ∈ bW := bW_at 1319 (by decide +kernel) (by decide +kernel)
theorem mw_602 : Cond.code yX12_corners cX12_corners 1 (some .int) ∈ bW := bW_at 1597 (by decide +kernel) (by decide +kernel)
theorem mw_603 : Cond.methodLink RX12 106 yX12_corners ∈ bW := bW_at 1594 (by decide +kernel) (by decide +kernel)
theorem mw_604 : Cond.instanceMethod yX12_corners ∈ bW := bW_at 1596 (by decide +kernel) (by decide +kernel)
theorem mw_605 : Cond.selects RX12 yX12_corners yX12_corners ∈ bW := bW_at 68 (by decide +kernel) (by decide +kernel)
theorem mw_606 : Cond.constant RX12 255 1000000 ∈ bW := bW_at 1598 (by decide +kernel) (by decide +kernel)
theorem mw_607 : Cond.code yX12_nearer cX12_nearer 4 none ∈ bW := bW_at 1601 (by decide +kernel) (by decide +kernel)
theorem mw_608 : Cond.methodLink RX12 256 yX12_nearer ∈ bW := bW_at 1599 (by decide +kernel) (by decide +kernel)
theorem mw_609 : Cond.static yX12_nearer ∈ bW := bW_at 1600 (by decide +kernel) (by decide +kernel)
theorem mw_610 : Cond.fieldLink RX12 43 "OneWaysModel" "far" "[I" ∈ bW := bW_at 1320 (by decide +kernel) (by decide +kernel)
theorem mw_611 : Cond.code yX12_measures cX12_measures 7 none ∈ bW := bW_at 1593 (by decide +kernel) (by decide +kernel)
theorem mw_612 : Cond.methodLink RX12 260 yX12_measures ∈ bW := bW_at 1590 (by decide +kernel) (by decide +kernel)
theorem mw_613 : Cond.instanceMethod yX12_measures ∈ bW := bW_at 1592 (by decide +kernel) (by decide +kernel)
theorem mw_614 : Cond.selects RX12 yX12_measures yX12_measures ∈ bW := bW_at 67 (by decide +kernel) (by decide +kernel)
theorem mw_615 : Cond.code yX12_measure cX12_measure 1 none ∈ bW := bW_at 1589 (by decide +kernel) (by decide +kernel)
theorem mw_616 : Cond.methodLink RX12 264 yX12_measure ∈ bW := bW_at 1586 (by decide +kernel) (by decide +kernel)
theorem mw_617 : Cond.instanceMethod yX12_measure ∈ bW := bW_at 1588 (by decide +kernel) (by decide +kernel)
theorem mw_618 : Cond.selects RX12 yX12_measure yX12_measure ∈ bW := bW_at 66 (by decide +kernel) (by decide +kernel)
theorem mw_619 : Cond.code yX12_isWholeBy cX12_isWholeBy 4 (some .boolean) ∈ bW := bW_at 1605 (by decide +kernel) (by decide +kernel)
theorem mw_620 : Cond.methodLink RX12 267 yX12_isWholeBy ∈ bW := bW_at 1602 (by decide +kernel) (by decide +kernel)
theorem mw_621 : Cond.instanceMethod yX12_isWholeBy ∈ bW := bW_at 1604 (by decide +kernel) (by decide +kernel)
theorem mw_622 : Cond.selects RX12 yX12_isWholeBy yX12_isWholeBy ∈ bW := bW_at 69 (by decide +kernel) (by decide +kernel)
theorem mw_623 : Cond.code yX12_tries cX12_tries 3 none ∈ bW := bW_at 1581 (by decide +kernel) (by decide +kernel)
theorem mw_624 : Cond.methodLink RX12 271 yX12_tries ∈ bW := bW_at 1578 (by decide +kernel) (by decide +kernel)
theorem mw_625 : Cond.instanceMethod yX12_tries ∈ bW := bW_at 1580 (by decide +kernel) (by decide +kernel)
theorem mw_626 : Cond.selects RX12 yX12_tries yX12_tries ∈ bW := bW_at 64 (by decide +kernel) (by decide +kernel)
theorem mw_627 : Cond.code yX12_isWhole cX12_isWhole 1 (some .boolean) ∈ bW := bW_at 1585 (by decide +kernel) (by decide +kernel)
theorem mw_628 : Cond.methodLink RX12 274 yX12_isWhole ∈ bW := bW_at 1582 (by decide +kernel) (by decide +kernel)
theorem mw_629 : Cond.instanceMethod yX12_isWhole ∈ bW := bW_at 1584 (by decide +kernel) (by decide +kernel)
theorem mw_630 : Cond.selects RX12 yX12_isWhole yX12_isWhole ∈ bW := bW_at 65 (by decide +kernel) (by decide +kernel)
theorem mw_631 : Cond.fieldLink RX12 49 "OneWaysModel" "isReached" "[Z" ∈ bW := bW_at 1322 (by decide +kernel) (by decide +kernel)
theorem mw_632 : Cond.code yX12_isBar cX12_isBar 7 (some .boolean) ∈ bW := bW_at 1621 (by decide +kernel) (by decide +kernel)
theorem mw_633 : Cond.methodLink RX12 277 yX12_isBar ∈ bW := bW_at 1618 (by decide +kernel) (by decide +kernel)
theorem mw_634 : Cond.instanceMethod yX12_isBar ∈ bW := bW_at 1620 (by decide +kernel) (by decide +kernel)
theorem mw_635 : Cond.selects RX12 yX12_isBar yX12_isBar ∈ bW := bW_at 72 (by decide +kernel) (by decide +kernel)
theorem mw_636 : Cond.code yX12_barOf cX12_barOf 2 (some .int) ∈ bW := bW_at 1617 (by decide +kernel) (by decide +kernel)
theorem mw_637 : Cond.methodLink RX12 280 yX12_barOf ∈ bW := bW_at 1614 (by decide +kernel) (by decide +kernel)
theorem mw_638 : Cond.instanceMethod yX12_barOf ∈ bW := bW_at 1616 (by decide +kernel) (by decide +kernel)
theorem mw_639 : Cond.selects RX12 yX12_barOf yX12_barOf ∈ bW := bW_at 71 (by decide +kernel) (by decide +kernel)
theorem mw_640 : Cond.code yX12_canEnd cX12_canEnd 1 (some .boolean) ∈ bW := bW_at 1613 (by decide +kernel) (by decide +kernel)
theorem mw_641 : Cond.methodLink RX12 283 yX12_canEnd ∈ bW := bW_at 1610 (by decide +kernel) (by decide +kernel)
theorem mw_642 : Cond.instanceMethod yX12_canEnd ∈ bW := bW_at 1612 (by decide +kernel) (by decide +kernel)
theorem mw_643 : Cond.selects RX12 yX12_canEnd yX12_canEnd ∈ bW := bW_at 70 (by decide +kernel) (by decide +kernel)
theorem mw_644 : Cond.code yX12_keeps cX12_keeps 3 none ∈ bW := bW_at 1637 (by decide +kernel) (by decide +kernel)
theorem mw_645 : Cond.methodLink RX12 286 yX12_keeps ∈ bW := bW_at 1634 (by decide +kernel) (by decide +kernel)
theorem mw_646 : Cond.instanceMethod yX12_keeps ∈ bW := bW_at 1636 (by decide +kernel) (by decide +kernel)
theorem mw_647 : Cond.selects RX12 yX12_keeps yX12_keeps ∈ bW := bW_at 73 (by decide +kernel) (by decide +kernel)
theorem mw_648 : Cond.code yX12_forcedOf cX12_forcedOf 4 (some .int) ∈ bW := bW_at 1645 (by decide +kernel) (by decide +kernel)
theorem mw_649 : Cond.methodLink RX12 289 yX12_forcedOf ∈ bW := bW_at 1642 (by decide +kernel) (by decide +kernel)
theorem mw_650 : Cond.instanceMethod yX12_forcedOf ∈ bW := bW_at 1644 (by decide +kernel) (by decide +kernel)
theorem mw_651 : Cond.selects RX12 yX12_forcedOf yX12_forcedOf ∈ bW := bW_at 74 (by decide +kernel) (by decide +kernel)
theorem mw_652 : Cond.code yX12_isCorner cX12_isCorner 2 (some .boolean) ∈ bW := bW_at 1657 (by decide +kernel) (by decide +kernel)
theorem mw_653 : Cond.methodLink RX12 292 yX12_isCorner ∈ bW := bW_at 1654 (by decide +kernel) (by decide +kernel)
theorem mw_654 : Cond.instanceMethod yX12_isCorner ∈ bW := bW_at 1656 (by decide +kernel) (by decide +kernel)
theorem mw_655 : Cond.selects RX12 yX12_isCorner yX12_isCorner ∈ bW := bW_at 75 (by decide +kernel) (by decide +kernel)
theorem mw_656 : Cond.code yX12_journeys cX12_journeys 1 (some .int) ∈ bW := bW_at 1669 (by decide +kernel) (by decide +kernel)
theorem mw_657 : Cond.methodLink RX12 109 yX12_journeys ∈ bW := bW_at 1666 (by decide +kernel) (by decide +kernel)
theorem mw_658 : Cond.instanceMethod yX12_journeys ∈ bW := bW_at 1668 (by decide +kernel) (by decide +kernel)
theorem mw_659 : Cond.selects RX12 yX12_journeys yX12_journeys ∈ bW := bW_at 77 (by decide +kernel) (by decide +kernel)
theorem mw_660 : Cond.fieldLink RX12 46 "OneWaysModel" "farBoth" "[I" ∈ bW := bW_at 1321 (by decide +kernel) (by decide +kernel)
theorem mw_661 : Cond.code yX12_ofJourney cX12_ofJourney 3 (some .int) ∈ bW := bW_at 1677 (by decide +kernel) (by decide +kernel)
theorem mw_662 : Cond.methodLink RX12 295 yX12_ofJourney ∈ bW := bW_at 1674 (by decide +kernel) (by decide +kernel)
theorem mw_663 : Cond.instanceMethod yX12_ofJourney ∈ bW := bW_at 1676 (by decide +kernel) (by decide +kernel)
theorem mw_664 : Cond.selects RX12 yX12_ofJourney yX12_ofJourney ∈ bW := bW_at 79 (by decide +kernel) (by decide +kernel)
theorem mw_665 : Cond.code yX12_moreFor cX12_moreFor 4 (some .int) ∈ bW := bW_at 1681 (by decide +kernel) (by decide +kernel)
theorem mw_666 : Cond.methodLink RX12 298 yX12_moreFor ∈ bW := bW_at 1678 (by decide +kernel) (by decide +kernel)
theorem mw_667 : Cond.instanceMethod yX12_moreFor ∈ bW := bW_at 1680 (by decide +kernel) (by decide +kernel)
theorem mw_668 : Cond.selects RX12 yX12_moreFor yX12_moreFor ∈ bW := bW_at 80 (by decide +kernel) (by decide +kernel)
theorem mw_669 : Cond.code yX12_isJourney cX12_isJourney 2 (some .boolean) ∈ bW := bW_at 1665 (by decide +kernel) (by decide +kernel)
theorem mw_670 : Cond.methodLink RX12 301 yX12_isJourney ∈ bW := bW_at 1662 (by decide +kernel) (by decide +kernel)
theorem mw_671 : Cond.instanceMethod yX12_isJourney ∈ bW := bW_at 1664 (by decide +kernel) (by decide +kernel)
theorem mw_672 : Cond.selects RX12 yX12_isJourney yX12_isJourney ∈ bW := bW_at 76 (by decide +kernel) (by decide +kernel)
theorem mw_673 : Cond.code yX12_roundOf cX12_roundOf 2 (some .int) ∈ bW := bW_at 1673 (by decide +kernel) (by decide +kernel)
theorem mw_674 : Cond.methodLink RX12 304 yX12_roundOf ∈ bW := bW_at 1670 (by decide +kernel) (by decide +kernel)
theorem mw_675 : Cond.instanceMethod yX12_roundOf ∈ bW := bW_at 1672 (by decide +kernel) (by decide +kernel)
theorem mw_676 : Cond.selects RX12 yX12_roundOf yX12_roundOf ∈ bW := bW_at 78 (by decide +kernel) (by decide +kernel)
theorem mw_677 : Cond.code yX12_sumNow cX12_sumNow 5 (some .int) ∈ bW := bW_at 1693 (by decide +kernel) (by decide +kernel)
theorem mw_678 : Cond.methodLink RX12 310 yX12_sumNow ∈ bW := bW_at 1690 (by decide +kernel) (by decide +kernel)
theorem mw_679 : Cond.instanceMethod yX12_sumNow ∈ bW := bW_at 1692 (by decide +kernel) (by decide +kernel)
theorem mw_680 : Cond.selects RX12 yX12_sumNow yX12_sumNow ∈ bW := bW_at 82 (by decide +kernel) (by decide +kernel)
theorem mw_681 : Cond.code yX12_sumTried cX12_sumTried 1 (some .int) ∈ bW := bW_at 1689 (by decide +kernel) (by decide +kernel)
theorem mw_682 : Cond.methodLink RX12 314 yX12_sumTried ∈ bW := bW_at 1686 (by decide +kernel) (by decide +kernel)
theorem mw_683 : Cond.instanceMethod yX12_sumTried ∈ bW := bW_at 1688 (by decide +kernel) (by decide +kernel)
theorem mw_684 : Cond.selects RX12 yX12_sumTried yX12_sumTried ∈ bW := bW_at 81 (by decide +kernel) (by decide +kernel)
theorem mw_685 : Cond.methodLink RX12 307 Lib.Math.max.name ∈ bW := bW_at 1702 (by decide +kernel) (by decide +kernel)
theorem mw_686 : Cond.code yX12_worstNow cX12_worstNow 4 (some .int) ∈ bW := bW_at 1701 (by decide +kernel) (by decide +kernel)
theorem mw_687 : Cond.methodLink RX12 317 yX12_worstNow ∈ bW := bW_at 1698 (by decide +kernel) (by decide +kernel)
theorem mw_688 : Cond.instanceMethod yX12_worstNow ∈ bW := bW_at 1700 (by decide +kernel) (by decide +kernel)
theorem mw_689 : Cond.selects RX12 yX12_worstNow yX12_worstNow ∈ bW := bW_at 83 (by decide +kernel) (by decide +kernel)
theorem mw_690 : Cond.fieldLink RX12 52 "OneWaysModel" "open" "[I" ∈ bW := bW_at 1323 (by decide +kernel) (by decide +kernel)
theorem mw_691 : Cond.fieldLink RX12 55 "OneWaysModel" "kept" "[I" ∈ bW := bW_at 1324 (by decide +kernel) (by decide +kernel)
theorem mw_692 : Cond.code yX12_ends cX12_ends 3 (some .int) ∈ bW := bW_at 1742 (by decide +kernel) (by decide +kernel)
theorem mw_693 : Cond.methodLink RX12 320 yX12_ends ∈ bW := bW_at 1739 (by decide +kernel) (by decide +kernel)
theorem mw_694 : Cond.instanceMethod yX12_ends ∈ bW := bW_at 1741 (by decide +kernel) (by decide +kernel)
theorem mw_695 : Cond.selects RX12 yX12_ends yX12_ends ∈ bW := bW_at 91 (by decide +kernel) (by decide +kernel)
theorem mw_696 : Cond.fieldLink RX12 58 "OneWaysModel" "ring" "[I" ∈ bW := bW_at 1325 (by decide +kernel) (by decide +kernel)
theorem mw_697 : Cond.fieldLink RX12 323 "OneWaysModel" "ringMany" "I" ∈ bW := bW_at 1326 (by decide +kernel) (by decide +kernel)
theorem mw_698 : Cond.code yX12_firstTo cX12_firstTo 5 (some .int) ∈ bW := bW_at 1738 (by decide +kernel) (by decide +kernel)
theorem mw_699 : Cond.methodLink RX12 326 yX12_firstTo ∈ bW := bW_at 1735 (by decide +kernel) (by decide +kernel)
theorem mw_700 : Cond.instanceMethod yX12_firstTo ∈ bW := bW_at 1737 (by decide +kernel) (by decide +kernel)
theorem mw_701 : Cond.selects RX12 yX12_firstTo yX12_firstTo ∈ bW := bW_at 90 (by decide +kernel) (by decide +kernel)
theorem mw_702 : Cond.code yX12_mayTurn cX12_mayTurn 2 (some .boolean) ∈ bW := bW_at 1722 (by decide +kernel) (by decide +kernel)
theorem mw_703 : Cond.methodLink RX12 329 yX12_mayTurn ∈ bW := bW_at 1719 (by decide +kernel) (by decide +kernel)
theorem mw_704 : Cond.instanceMethod yX12_mayTurn ∈ bW := bW_at 1721 (by decide +kernel) (by decide +kernel)
theorem mw_705 : Cond.selects RX12 yX12_mayTurn yX12_mayTurn ∈ bW := bW_at 86 (by decide +kernel) (by decide +kernel)
theorem mw_706 : Cond.code yX12_turns cX12_turns 2 none ∈ bW := bW_at 1726 (by decide +kernel) (by decide +kernel)
theorem mw_707 : Cond.methodLink RX12 332 yX12_turns ∈ bW := bW_at 1723 (by decide +kernel) (by decide +kernel)
theorem mw_708 : Cond.instanceMethod yX12_turns ∈ bW := bW_at 1725 (by decide +kernel) (by decide +kernel)
theorem mw_709 : Cond.selects RX12 yX12_turns yX12_turns ∈ bW := bW_at 87 (by decide +kernel) (by decide +kernel)
theorem mw_710 : Cond.code yX12_isBetter cX12_isBetter 2 (some .boolean) ∈ bW := bW_at 1730 (by decide +kernel) (by decide +kernel)
theorem mw_711 : Cond.methodLink RX12 335 yX12_isBetter ∈ bW := bW_at 1727 (by decide +kernel) (by decide +kernel)
theorem mw_712 : Cond.instanceMethod yX12_isBetter ∈ bW := bW_at 1729 (by decide +kernel) (by decide +kernel)
theorem mw_713 : Cond.selects RX12 yX12_isBetter yX12_isBetter ∈ bW := bW_at 88 (by decide +kernel) (by decide +kernel)
theorem mw_714 : Cond.code yX12_rings cX12_rings 6 (some .int) ∈ bW := bW_at 1734 (by decide +kernel) (by decide +kernel)
theorem mw_715 : Cond.methodLink RX12 338 yX12_rings ∈ bW := bW_at 1731 (by decide +kernel) (by decide +kernel)
theorem mw_716 : Cond.instanceMethod yX12_rings ∈ bW := bW_at 1733 (by decide +kernel) (by decide +kernel)
theorem mw_717 : Cond.selects RX12 yX12_rings yX12_rings ∈ bW := bW_at 89 (by decide +kernel) (by decide +kernel)
theorem mw_718 : Cond.code yX12_isEnded cX12_isEnded 2 (some .boolean) ∈ bW := bW_at 1714 (by decide +kernel) (by decide +kernel)
theorem mw_719 : Cond.methodLink RX12 341 yX12_isEnded ∈ bW := bW_at 1711 (by decide +kernel) (by decide +kernel)
theorem mw_720 : Cond.instanceMethod yX12_isEnded ∈ bW := bW_at 1713 (by decide +kernel) (by decide +kernel)
theorem mw_721 : Cond.selects RX12 yX12_isEnded yX12_isEnded ∈ bW := bW_at 84 (by decide +kernel) (by decide +kernel)
theorem mw_722 : Cond.code yX12_turnsOnce cX12_turnsOnce 5 (some .boolean) ∈ bW := bW_at 1718 (by decide +kernel) (by decide +kernel)
theorem mw_723 : Cond.methodLink RX12 344 yX12_turnsOnce ∈ bW := bW_at 1715 (by decide +kernel) (by decide +kernel)
theorem mw_724 : Cond.instanceMethod yX12_turnsOnce ∈ bW := bW_at 1717 (by decide +kernel) (by decide +kernel)
theorem mw_725 : Cond.selects RX12 yX12_turnsOnce yX12_turnsOnce ∈ bW := bW_at 85 (by decide +kernel) (by decide +kernel)
theorem mw_726 : Cond.fieldLink RX12 61 "OneWaysModel" "worstPair" "[I" ∈ bW := bW_at 1327 (by decide +kernel) (by decide +kernel)
theorem mw_727 : Cond.fieldLink RX12 347 "OneWaysModel" "hasPair" "Z" ∈ bW := bW_at 1328 (by decide +kernel) (by decide +kernel)
theorem mw_728 : Cond.fieldLink RX12 351 "OneWaysModel" "dearMany" "I" ∈ bW := bW_at 1330 (by decide +kernel) (by decide +kernel)
theorem mw_729 : Cond.fieldLink RX12 64 "OneWaysModel" "dear" "[I" ∈ bW := bW_at 1329 (by decide +kernel) (by decide +kernel)
theorem mw_730 : Cond.fieldLink RX12 67 "OneWaysModel" "priceOf" "[I" ∈ bW := bW_at 1331 (by decide +kernel) (by decide +kernel)
theorem mw_731 : Cond.fieldLink RX12 70 "OneWaysModel" "sumOf" "[I" ∈ bW := bW_at 1332 (by decide +kernel) (by decide +kernel)
theorem mw_732 : Cond.code yX12_isAhead cX12_isAhead 4 (some .boolean) ∈ bW := bW_at 1786 (by decide +kernel) (by decide +kernel)
theorem mw_733 : Cond.methodLink RX12 354 yX12_isAhead ∈ bW := bW_at 1784 (by decide +kernel) (by decide +kernel)
theorem mw_734 : Cond.static yX12_isAhead ∈ bW := bW_at 1785 (by decide +kernel) (by decide +kernel)
theorem mw_735 : Cond.constantLong RX12 358 9999 ∈ bW := bW_at 1775 (by decide +kernel) (by decide +kernel)
theorem mw_736 : Cond.code yX12_buys cX12_buys 4 none ∈ bW := bW_at 1779 (by decide +kernel) (by decide +kernel)
theorem mw_737 : Cond.methodLink RX12 360 yX12_buys ∈ bW := bW_at 1776 (by decide +kernel) (by decide +kernel)
theorem mw_738 : Cond.instanceMethod yX12_buys ∈ bW := bW_at 1778 (by decide +kernel) (by decide +kernel)
theorem mw_739 : Cond.selects RX12 yX12_buys yX12_buys ∈ bW := bW_at 92 (by decide +kernel) (by decide +kernel)
theorem mw_740 : Cond.code yX12_bestFor cX12_bestFor 5 (some .int) ∈ bW := bW_at 1783 (by decide +kernel) (by decide +kernel)
theorem mw_741 : Cond.methodLink RX12 363 yX12_bestFor ∈ bW := bW_at 1780 (by decide +kernel) (by decide +kernel)
theorem mw_742 : Cond.instanceMethod yX12_bestFor ∈ bW := bW_at 1782 (by decide +kernel) (by decide +kernel)
theorem mw_743 : Cond.selects RX12 yX12_bestFor yX12_bestFor ∈ bW := bW_at 93 (by decide +kernel) (by decide +kernel)
theorem mw_744 : Cond.fieldLink RX12 73 "OneWaysModel" "fireAt" "[I" ∈ bW := bW_at 1333 (by decide +kernel) (by decide +kernel)
theorem mw_745 : Cond.code yX12_drives cX12_drives 9 none ∈ bW := bW_at 1802 (by decide +kernel) (by decide +kernel)
theorem mw_746 : Cond.methodLink RX12 366 yX12_drives ∈ bW := bW_at 1799 (by decide +kernel) (by decide +kernel)
theorem mw_747 : Cond.instanceMethod yX12_drives ∈ bW := bW_at 1801 (by decide +kernel) (by decide +kernel)
theorem mw_748 : Cond.selects RX12 yX12_drives yX12_drives ∈ bW := bW_at 94 (by decide +kernel) (by decide +kernel)
theorem mw_749 : Cond.constantLong RX12 369 1439 ∈ bW := bW_at 1815 (by decide +kernel) (by decide +kernel)
theorem mw_750 : Cond.fieldLink RX12 371 "OneWaysModel" "bestBack" "I" ∈ bW := bW_at 1334 (by decide +kernel) (by decide +kernel)
theorem mw_751 : Cond.code yX12_turnsBack cX12_turnsBack 6 (some .boolean) ∈ bW := bW_at 1824 (by decide +kernel) (by decide +kernel)
theorem mw_752 : Cond.methodLink RX12 374 yX12_turnsBack ∈ bW := bW_at 1821 (by decide +kernel) (by decide +kernel)
theorem mw_753 : Cond.instanceMethod yX12_turnsBack ∈ bW := bW_at 1823 (by decide +kernel) (by decide +kernel)
theorem mw_754 : Cond.selects RX12 yX12_turnsBack yX12_turnsBack ∈ bW := bW_at 95 (by decide +kernel) (by decide +kernel)
theorem mw_755 : Cond.constantLong RX12 96 2 ∈ bW := bW_at 1423 (by decide +kernel) (by decide +kernel)
theorem mw_756 : Cond.constant RX12 380 2147483647 ∈ bW := bW_at 1820 (by decide +kernel) (by decide +kernel)
theorem mw_757 : Cond.constantLong RX12 381 100 ∈ bW := bW_at 1833 (by decide +kernel) (by decide +kernel)
theorem mw_758 : Cond.code yX12_signsNow cX12_signsNow 6 (some .int) ∈ bW := bW_at 1845 (by decide +kernel) (by decide +kernel)
theorem mw_759 : Cond.methodLink RX12 383 yX12_signsNow ∈ bW := bW_at 1842 (by decide +kernel) (by decide +kernel)
theorem mw_760 : Cond.instanceMethod yX12_signsNow ∈ bW := bW_at 1844 (by decide +kernel) (by decide +kernel)
theorem mw_761 : Cond.selects RX12 yX12_signsNow yX12_signsNow ∈ bW := bW_at 96 (by decide +kernel) (by decide +kernel)
theorem mw_762 : Cond.code yX12_loadNow cX12_loadNow 7 (some .int) ∈ bW := bW_at 1857 (by decide +kernel) (by decide +kernel)
theorem mw_763 : Cond.methodLink RX12 386 yX12_loadNow ∈ bW := bW_at 1854 (by decide +kernel) (by decide +kernel)
theorem mw_764 : Cond.instanceMethod yX12_loadNow ∈ bW := bW_at 1856 (by decide +kernel) (by decide +kernel)
theorem mw_765 : Cond.selects RX12 yX12_loadNow yX12_loadNow ∈ bW := bW_at 97 (by decide +kernel) (by decide +kernel)
theorem mw_766 : Cond.constantLong RX12 389 6 ∈ bW := bW_at 1866 (by decide +kernel) (by decide +kernel)
theorem mw_767 : Cond.code yX12_mayBeRow cX12_mayBeRow 5 (some .boolean) ∈ bW := bW_at 1870 (by decide +kernel) (by decide +kernel)
theorem mw_768 : Cond.methodLink RX12 391 yX12_mayBeRow ∈ bW := bW_at 1867 (by decide +kernel) (by decide +kernel)
theorem mw_769 : Cond.instanceMethod yX12_mayBeRow ∈ bW := bW_at 1869 (by decide +kernel) (by decide +kernel)
theorem mw_770 : Cond.selects RX12 yX12_mayBeRow yX12_mayBeRow ∈ bW := bW_at 98 (by decide +kernel) (by decide +kernel)
theorem mw_771 : Cond.methodLink RX12 143 Lib.Math.min.name ∈ bW := bW_at 1460 (by decide +kernel) (by decide +kernel)
theorem mw_772 : Cond.constantLong RX12 394 60 ∈ bW := bW_at 1875 (by decide +kernel) (by decide +kernel)
theorem mw_773 : Cond.code yX12_sparesBy cX12_sparesBy 10 (some .int) ∈ bW := bW_at 1879 (by decide +kernel) (by decide +kernel)
theorem mw_774 : Cond.methodLink RX12 396 yX12_sparesBy ∈ bW := bW_at 1876 (by decide +kernel) (by decide +kernel)
theorem mw_775 : Cond.instanceMethod yX12_sparesBy ∈ bW := bW_at 1878 (by decide +kernel) (by decide +kernel)
theorem mw_776 : Cond.selects RX12 yX12_sparesBy yX12_sparesBy ∈ bW := bW_at 99 (by decide +kernel) (by decide +kernel)
theorem mw_777 : Cond.fieldLink RX12 76 "OneWaysModel" "sparePair" "[I" ∈ bW := bW_at 1335 (by decide +kernel) (by decide +kernel)
theorem mw_778 : Cond.fieldLink RX12 400 "OneWaysModel" "hasSpare" "Z" ∈ bW := bW_at 1336 (by decide +kernel) (by decide +kernel)
theorem mw_779 : Cond.constant RX12 405 (-2000000000) ∈ bW := bW_at 1889 (by decide +kernel) (by decide +kernel)
theorem mw_780 : Cond.constantLong RX12 403 5 ∈ bW := bW_at 1888 (by decide +kernel) (by decide +kernel)
theorem mw_781 : Cond.code yX12_openOf cX12_openOf 4 (some .int) ∈ bW := bW_at 1905 (by decide +kernel) (by decide +kernel)
theorem mw_782 : Cond.methodLink RX12 406 yX12_openOf ∈ bW := bW_at 1902 (by decide +kernel) (by decide +kernel)
theorem mw_783 : Cond.instanceMethod yX12_openOf ∈ bW := bW_at 1904 (by decide +kernel) (by decide +kernel)
theorem mw_784 : Cond.selects RX12 yX12_openOf yX12_openOf ∈ bW := bW_at 100 (by decide +kernel) (by decide +kernel)
theorem mw_785 : Cond.code yX12_gridAlleys cX12_gridAlleys 1 (some .int) ∈ bW := bW_at 1909 (by decide +kernel) (by decide +kernel)
theorem mw_786 : Cond.methodLink RX12 409 yX12_gridAlleys ∈ bW := bW_at 1906 (by decide +kernel) (by decide +kernel)
theorem mw_787 : Cond.instanceMethod yX12_gridAlleys ∈ bW := bW_at 1908 (by decide +kernel) (by decide +kernel)
theorem mw_788 : Cond.selects RX12 yX12_gridAlleys yX12_gridAlleys ∈ bW := bW_at 101 (by decide +kernel) (by decide +kernel)
theorem mw_789 : Cond.fieldLink RX12 17 "OneWaysModel" "images" "[I" ∈ bW := bW_at 1305 (by decide +kernel) (by decide +kernel)
theorem mw_790 : Cond.fieldLink RX12 20 "OneWaysModel" "hasImage" "[Z" ∈ bW := bW_at 1306 (by decide +kernel) (by decide +kernel)
theorem mw_791 : Cond.fieldLink RX12 82 "OneWaysModel" "width" "[I" ∈ bW := bW_at 1338 (by decide +kernel) (by decide +kernel)
theorem mw_792 : Cond.fieldLink RX12 89 "OneWaysModel" "moved" "[J" ∈ bW := bW_at 1340 (by decide +kernel) (by decide +kernel)
theorem mw_793 : Cond.code yX12_cut_ cX12_cut_ 4 (some .long) ∈ bW := bW_at 1920 (by decide +kernel) (by decide +kernel)
theorem mw_794 : Cond.methodLink RX12 412 yX12_cut_ ∈ bW := bW_at 1918 (by decide +kernel) (by decide +kernel)
theorem mw_795 : Cond.static yX12_cut_ ∈ bW := bW_at 1919 (by decide +kernel) (by decide +kernel)
