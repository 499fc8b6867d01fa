theorem dX11_appendBytes_0 : decode cX11_appendBytes 0 = .ok (.bipush 24, 2) := by decide +kernel
theorem dX11_appendBytes_2 : decode cX11_appendBytes 2 = .ok (.istore_n 2, 1) := by decide +kernel
theorem dX11_appendBytes_3 : decode cX11_appendBytes 3 = .ok (.iload_n 2, 1) := by decide +kernel
theorem dX11_appendBytes_4 : decode cX11_appendBytes 4 = .ok (.ifCond .lt 32, 3) := by decide +kernel
theorem dX11_appendBytes_7 : decode cX11_appendBytes 7 = .ok (.aload_n 0, 1) := by decide +kernel
theorem dX11_appendBytes_8 : decode cX11_appendBytes 8 = .ok (.getfield 9, 3) := by decide +kernel
theorem dX11_appendBytes_11 : decode cX11_appendBytes 11 = .ok (.aload_n 0, 1) := by decide +kernel
theorem dX11_appendBytes_12 : decode cX11_appendBytes 12 = .ok (.getfield 13, 3) := by decide +kernel
theorem dX11_appendBytes_15 : decode cX11_appendBytes 15 = .ok (.iload_n 1, 1) := by decide +kernel
theorem dX11_appendBytes_16 : decode cX11_appendBytes 16 = .ok (.iload_n 2, 1) := by decide +kernel
theorem dX11_appendBytes_17 : decode cX11_appendBytes 17 = .ok (.ishr, 1) := by decide +kernel
theorem dX11_appendBytes_18 : decode cX11_appendBytes 18 = .ok (.i2b, 1) := by decide +kernel
theorem dX11_appendBytes_19 : decode cX11_appendBytes 19 = .ok (.bastore, 1) := by decide +kernel
theorem dX11_appendBytes_20 : decode cX11_appendBytes 20 = .ok (.aload_n 0, 1) := by decide +kernel
theorem dX11_appendBytes_21 : decode cX11_appendBytes 21 = .ok (.dup, 1) := by decide +kernel
theorem dX11_appendBytes_22 : decode cX11_appendBytes 22 = .ok (.getfield 13, 3) := by decide +kernel
theorem dX11_appendBytes_25 : decode cX11_appendBytes 25 = .ok (.iconst 1, 1) := by decide +kernel
theorem dX11_appendBytes_26 : decode cX11_appendBytes 26 = .ok (.iadd, 1) := by decide +kernel
theorem dX11_appendBytes_27 : decode cX11_appendBytes 27 = .ok (.putfield 13, 3) := by decide +kernel
theorem dX11_appendBytes_30 : decode cX11_appendBytes 30 = .ok (.iinc 2 (-8), 3) := by decide +kernel
theorem dX11_appendBytes_33 : decode cX11_appendBytes 33 = .ok (.goto (-30), 3) := by decide +kernel
theorem dX11_appendBytes_36 : decode cX11_appendBytes 36 = .ok (.return_, 1) := by decide +kernel
theorem dX11_feed_0 : decode cX11_feed 0 = .ok (.aload_n 0, 1) := by decide +kernel
theorem dX11_feed_1 : decode cX11_feed 1 = .ok (.getfield 13, 3) := by decide +kernel
theorem dX11_feed_4 : decode cX11_feed 4 = .ok (.bipush 20, 2) := by decide +kernel
theorem dX11_feed_6 : decode cX11_feed 6 = .ok (.iadd, 1) := by decide +kernel
theorem dX11_feed_7 : decode cX11_feed 7 = .ok (.sipush 800, 3) := by decide +kernel
theorem dX11_feed_10 : decode cX11_feed 10 = .ok (.if_icmp .le 5, 3) := by decide +kernel
theorem dX11_feed_15 : decode cX11_feed 15 = .ok (.aload_n 0, 1) := by decide +kernel
theorem dX11_feed_16 : decode cX11_feed 16 = .ok (.iload_n 1, 1) := by decide +kernel
theorem dX11_feed_17 : decode cX11_feed 17 = .ok (.invokevirtual 96, 3) := by decide +kernel
theorem dX11_feed_20 : decode cX11_feed 20 = .ok (.aload_n 0, 1) := by decide +kernel
theorem dX11_feed_21 : decode cX11_feed 21 = .ok (.iload_n 2, 1) := by decide +kernel
theorem dX11_feed_22 : decode cX11_feed 22 = .ok (.invokevirtual 96, 3) := by decide +kernel
theorem dX11_feed_25 : decode cX11_feed 25 = .ok (.aload_n 0, 1) := by decide +kernel
theorem dX11_feed_26 : decode cX11_feed 26 = .ok (.iload_n 3, 1) := by decide +kernel
theorem dX11_feed_27 : decode cX11_feed 27 = .ok (.invokevirtual 96, 3) := by decide +kernel
theorem dX11_feed_30 : decode cX11_feed 30 = .ok (.aload_n 0, 1) := by decide +kernel
theorem dX11_feed_31 : decode cX11_feed 31 = .ok (.iload 4, 2) := by decide +kernel
theorem dX11_feed_33 : decode cX11_feed 33 = .ok (.invokevirtual 96, 3) := by decide +kernel
theorem dX11_feed_36 : decode cX11_feed 36 = .ok (.aload_n 0, 1) := by decide +kernel
theorem dX11_feed_37 : decode cX11_feed 37 = .ok (.iload 5, 2) := by decide +kernel
theorem dX11_feed_39 : decode cX11_feed 39 = .ok (.invokevirtual 96, 3) := by decide +kernel
theorem dX11_feed_42 : decode cX11_feed 42 = .ok (.aload_n 0, 1) := by decide +kernel
theorem dX11_feed_43 : decode cX11_feed 43 = .ok (.getfield 13, 3) := by decide +kernel
theorem dX11_feed_46 : decode cX11_feed 46 = .ok (.ireturn, 1) := by decide +kernel
theorem dX11_feed_13 : decode cX11_feed 13 = .ok (.iconst (-1), 1) := by decide +kernel
theorem dX11_feed_14 : decode cX11_feed 14 = .ok (.ireturn, 1) := by decide +kernel
theorem dX11_end_0 : decode cX11_end 0 = .ok (.iload_n 1, 1) := by decide +kernel
theorem dX11_end_1 : decode cX11_end 1 = .ok (.ifCond .lt 11, 3) := by decide +kernel
theorem dX11_end_12 : decode cX11_end 12 = .ok (.iconst (-1), 1) := by decide +kernel
theorem dX11_end_13 : decode cX11_end 13 = .ok (.ireturn, 1) := by decide +kernel
theorem dX11_end_4 : decode cX11_end 4 = .ok (.iload_n 1, 1) := by decide +kernel
theorem dX11_end_5 : decode cX11_end 5 = .ok (.aload_n 0, 1) := by decide +kernel
theorem dX11_end_6 : decode cX11_end 6 = .ok (.getfield 13, 3) := by decide +kernel
theorem dX11_end_9 : decode cX11_end 9 = .ok (.if_icmp .le 5, 3) := by decide +kernel
theorem dX11_end_14 : decode cX11_end 14 = .ok (.aload_n 0, 1) := by decide +kernel
theorem dX11_end_15 : decode cX11_end 15 = .ok (.iload_n 1, 1) := by decide +kernel
theorem dX11_end_16 : decode cX11_end 16 = .ok (.putfield 13, 3) := by decide +kernel
theorem dX11_end_19 : decode cX11_end 19 = .ok (.iload_n 1, 1) := by decide +kernel
theorem dX11_end_20 : decode cX11_end 20 = .ok (.ireturn, 1) := by decide +kernel
theorem dX11_fault_0 : decode cX11_fault 0 = .ok (.iload_n 1, 1) := by decide +kernel
theorem dX11_fault_1 : decode cX11_fault 1 = .ok (.ifCond .ne 11, 3) := by decide +kernel
theorem dX11_fault_12 : decode cX11_fault 12 = .ok (.iload_n 1, 1) := by decide +kernel
theorem dX11_fault_13 : decode cX11_fault 13 = .ok (.iconst 1, 1) := by decide +kernel
theorem dX11_fault_14 : decode cX11_fault 14 = .ok (.if_icmp .ne 13, 3) := by decide +kernel
theorem dX11_fault_27 : decode cX11_fault 27 = .ok (.iconst (-1), 1) := by decide +kernel
theorem dX11_fault_28 : decode cX11_fault 28 = .ok (.ireturn, 1) := by decide +kernel
theorem dX11_fault_17 : decode cX11_fault 17 = .ok (.aload_n 0, 1) := by decide +kernel
theorem dX11_fault_18 : decode cX11_fault 18 = .ok (.getfield 20, 3) := by decide +kernel
theorem dX11_fault_21 : decode cX11_fault 21 = .ok (.getfield 119, 3) := by decide +kernel
theorem dX11_fault_24 : decode cX11_fault 24 = .ok (.goto 4, 3) := by decide +kernel
theorem dX11_fault_4 : decode cX11_fault 4 = .ok (.aload_n 0, 1) := by decide +kernel
theorem dX11_fault_5 : decode cX11_fault 5 = .ok (.getfield 20, 3) := by decide +kernel
theorem dX11_fault_8 : decode cX11_fault 8 = .ok (.getfield 116, 3) := by decide +kernel
theorem dX11_fault_11 : decode cX11_fault 11 = .ok (.ireturn, 1) := by decide +kernel
theorem dX11_isGiving_0 : decode cX11_isGiving 0 = .ok (.iload_n 0, 1) := by decide +kernel
theorem dX11_isGiving_1 : decode cX11_isGiving 1 = .ok (.ifCond .lt 12, 3) := by decide +kernel
theorem dX11_isGiving_13 : decode cX11_isGiving 13 = .ok (.iconst 0, 1) := by decide +kernel
theorem dX11_isGiving_14 : decode cX11_isGiving 14 = .ok (.ireturn, 1) := by decide +kernel
theorem dX11_isGiving_4 : decode cX11_isGiving 4 = .ok (.iload_n 0, 1) := by decide +kernel
theorem dX11_isGiving_5 : decode cX11_isGiving 5 = .ok (.iconst 2, 1) := by decide +kernel
theorem dX11_isGiving_6 : decode cX11_isGiving 6 = .ok (.if_icmp .ge 7, 3) := by decide +kernel
theorem dX11_isGiving_9 : decode cX11_isGiving 9 = .ok (.iconst 1, 1) := by decide +kernel
theorem dX11_isGiving_10 : decode cX11_isGiving 10 = .ok (.goto 4, 3) := by decide +kernel
theorem dX11_isAlley_0 : decode cX11_isAlley 0 = .ok (.iload_n 1, 1) := by decide +kernel
theorem dX11_isAlley_1 : decode cX11_isAlley 1 = .ok (.ifCond .lt 21, 3) := by decide +kernel
theorem dX11_isAlley_22 : decode cX11_isAlley 22 = .ok (.iconst 0, 1) := by decide +kernel
theorem dX11_isAlley_23 : decode cX11_isAlley 23 = .ok (.ireturn, 1) := by decide +kernel
theorem dX11_isAlley_4 : decode cX11_isAlley 4 = .ok (.iload_n 1, 1) := by decide +kernel
theorem dX11_isAlley_5 : decode cX11_isAlley 5 = .ok (.aload_n 0, 1) := by decide +kernel
theorem dX11_isAlley_6 : decode cX11_isAlley 6 = .ok (.getfield 27, 3) := by decide +kernel
theorem dX11_isAlley_9 : decode cX11_isAlley 9 = .ok (.getfield 88, 3) := by decide +kernel
theorem dX11_isAlley_12 : decode cX11_isAlley 12 = .ok (.getfield 147, 3) := by decide +kernel
theorem dX11_isAlley_15 : decode cX11_isAlley 15 = .ok (.if_icmp .ge 7, 3) := by decide +kernel
theorem dX11_isAlley_18 : decode cX11_isAlley 18 = .ok (.iconst 1, 1) := by decide +kernel
theorem dX11_isAlley_19 : decode cX11_isAlley 19 = .ok (.goto 4, 3) := by decide +kernel
theorem dX11_give_0 : decode cX11_give 0 = .ok (.iload_n 1, 1) := by decide +kernel
theorem dX11_give_1 : decode cX11_give 1 = .ok (.invokestatic 122, 3) := by decide +kernel
theorem dX11_give_4 : decode cX11_give 4 = .ok (.ifCond .eq 27, 3) := by decide +kernel
theorem dX11_give_31 : decode cX11_give 31 = .ok (.bipush (-2), 2) := by decide +kernel
theorem dX11_give_33 : decode cX11_give 33 = .ok (.ireturn, 1) := by decide +kernel
theorem dX11_give_7 : decode cX11_give 7 = .ok (.aload_n 0, 1) := by decide +kernel
theorem dX11_give_8 : decode cX11_give 8 = .ok (.iload_n 2, 1) := by decide +kernel
theorem dX11_give_9 : decode cX11_give 9 = .ok (.invokevirtual 126, 3) := by decide +kernel
theorem dX11_give_12 : decode cX11_give 12 = .ok (.ifCond .eq 19, 3) := by decide +kernel
theorem dX11_give_15 : decode cX11_give 15 = .ok (.aload_n 0, 1) := by decide +kernel
theorem dX11_give_16 : decode cX11_give 16 = .ok (.getfield 27, 3) := by decide +kernel
theorem dX11_give_19 : decode cX11_give 19 = .ok (.getfield 88, 3) := by decide +kernel
theorem dX11_give_22 : decode cX11_give 22 = .ok (.iload_n 2, 1) := by decide +kernel
theorem dX11_give_23 : decode cX11_give 23 = .ok (.iload_n 3, 1) := by decide +kernel
theorem dX11_give_24 : decode cX11_give 24 = .ok (.i2l, 1) := by decide +kernel
theorem dX11_give_25 : decode cX11_give 25 = .ok (.invokevirtual 129, 3) := by decide +kernel
theorem dX11_give_28 : decode cX11_give 28 = .ok (.ifCond .ne 6, 3) := by decide +kernel
theorem dX11_give_34 : decode cX11_give 34 = .ok (.aload_n 0, 1) := by decide +kernel
theorem dX11_give_35 : decode cX11_give 35 = .ok (.getfield 27, 3) := by decide +kernel
theorem dX11_give_38 : decode cX11_give 38 = .ok (.getfield 133, 3) := by decide +kernel
theorem dX11_give_41 : decode cX11_give 41 = .ok (.iload_n 1, 1) := by decide +kernel
theorem dX11_give_42 : decode cX11_give 42 = .ok (.aaload, 1) := by decide +kernel
theorem dX11_give_43 : decode cX11_give 43 = .ok (.iload_n 2, 1) := by decide +kernel
theorem dX11_give_44 : decode cX11_give 44 = .ok (.iaload, 1) := by decide +kernel
theorem dX11_give_45 : decode cX11_give 45 = .ok (.istore 4, 2) := by decide +kernel
theorem dX11_give_47 : decode cX11_give 47 = .ok (.aload_n 0, 1) := by decide +kernel
theorem dX11_give_48 : decode cX11_give 48 = .ok (.getfield 27, 3) := by decide +kernel
theorem dX11_give_51 : decode cX11_give 51 = .ok (.getfield 133, 3) := by decide +kernel
theorem dX11_give_54 : decode cX11_give 54 = .ok (.iload_n 1, 1) := by decide +kernel
theorem dX11_give_55 : decode cX11_give 55 = .ok (.aaload, 1) := by decide +kernel
theorem dX11_give_56 : decode cX11_give 56 = .ok (.iload_n 2, 1) := by decide +kernel
theorem dX11_give_57 : decode cX11_give 57 = .ok (.iload_n 3, 1) := by decide +kernel
theorem dX11_give_58 : decode cX11_give 58 = .ok (.iastore, 1) := by decide +kernel
theorem dX11_give_59 : decode cX11_give 59 = .ok (.iload 4, 2) := by decide +kernel
theorem dX11_give_61 : decode cX11_give 61 = .ok (.ireturn, 1) := by decide +kernel
theorem dX11_isSlot_0 : decode cX11_isSlot 0 = .ok (.iload_n 0, 1) := by decide +kernel
theorem dX11_isSlot_1 : decode cX11_isSlot 1 = .ok (.ifCond .lt 12, 3) := by decide +kernel
theorem dX11_isSlot_13 : decode cX11_isSlot 13 = .ok (.iconst 0, 1) := by decide +kernel
theorem dX11_isSlot_14 : decode cX11_isSlot 14 = .ok (.ireturn, 1) := by decide +kernel
theorem dX11_isSlot_4 : decode cX11_isSlot 4 = .ok (.iload_n 0, 1) := by decide +kernel
theorem dX11_isSlot_5 : decode cX11_isSlot 5 = .ok (.iconst 4, 1) := by decide +kernel
theorem dX11_isSlot_6 : decode cX11_isSlot 6 = .ok (.if_icmp .ge 7, 3) := by decide +kernel
theorem dX11_isSlot_9 : decode cX11_isSlot 9 = .ok (.iconst 1, 1) := by decide +kernel
theorem dX11_isSlot_10 : decode cX11_isSlot 10 = .ok (.goto 4, 3) := by decide +kernel
theorem dX11_gives_0 : decode cX11_gives 0 = .ok (.iload_n 1, 1) := by decide +kernel
theorem dX11_gives_1 : decode cX11_gives 1 = .ok (.invokestatic 122, 3) := by decide +kernel
theorem dX11_gives_4 : decode cX11_gives 4 = .ok (.ifCond .eq 10, 3) := by decide +kernel
theorem dX11_gives_14 : decode cX11_gives 14 = .ok (.bipush (-2), 2) := by decide +kernel
theorem dX11_gives_16 : decode cX11_gives 16 = .ok (.ireturn, 1) := by decide +kernel
theorem dX11_gives_7 : decode cX11_gives 7 = .ok (.iload_n 2, 1) := by decide +kernel
theorem dX11_gives_8 : decode cX11_gives 8 = .ok (.invokestatic 137, 3) := by decide +kernel
theorem dX11_gives_11 : decode cX11_gives 11 = .ok (.ifCond .ne 6, 3) := by decide +kernel
theorem dX11_gives_17 : decode cX11_gives 17 = .ok (.aload_n 0, 1) := by decide +kernel
theorem dX11_gives_18 : decode cX11_gives 18 = .ok (.getfield 37, 3) := by decide +kernel
theorem dX11_gives_21 : decode cX11_gives 21 = .ok (.iload_n 2, 1) := by decide +kernel
theorem dX11_gives_22 : decode cX11_gives 22 = .ok (.aaload, 1) := by decide +kernel
theorem dX11_gives_23 : decode cX11_gives 23 = .ok (.astore_n 3, 1) := by decide +kernel
theorem dX11_gives_24 : decode cX11_gives 24 = .ok (.aload_n 3, 1) := by decide +kernel
theorem dX11_gives_25 : decode cX11_gives 25 = .ok (.invokevirtual 140, 3) := by decide +kernel
theorem dX11_gives_28 : decode cX11_gives 28 = .ok (.ifCond .ne 6, 3) := by decide +kernel
theorem dX11_gives_31 : decode cX11_gives 31 = .ok (.bipush (-6), 2) := by decide +kernel
theorem dX11_gives_33 : decode cX11_gives 33 = .ok (.ireturn, 1) := by decide +kernel
theorem dX11_gives_34 : decode cX11_gives 34 = .ok (.iconst 0, 1) := by decide +kernel
theorem dX11_gives_35 : decode cX11_gives 35 = .ok (.istore 4, 2) := by decide +kernel
theorem dX11_gives_37 : decode cX11_gives 37 = .ok (.aload_n 3, 1) := by decide +kernel
theorem dX11_gives_38 : decode cX11_gives 38 = .ok (.getfield 144, 3) := by decide +kernel
theorem dX11_gives_41 : decode cX11_gives 41 = .ok (.aload_n 0, 1) := by decide +kernel
theorem dX11_gives_42 : decode cX11_gives 42 = .ok (.getfield 27, 3) := by decide +kernel
theorem dX11_gives_45 : decode cX11_gives 45 = .ok (.getfield 88, 3) := by decide +kernel
theorem dX11_gives_48 : decode cX11_gives 48 = .ok (.getfield 147, 3) := by decide +kernel
theorem dX11_gives_51 : decode cX11_gives 51 = .ok (.invokestatic 150, 3) := by decide +kernel
theorem dX11_gives_54 : decode cX11_gives 54 = .ok (.istore 5, 2) := by decide +kernel
theorem dX11_gives_56 : decode cX11_gives 56 = .ok (.iconst 0, 1) := by decide +kernel
theorem dX11_gives_57 : decode cX11_gives 57 = .ok (.istore 6, 2) := by decide +kernel
theorem dX11_gives_59 : decode cX11_gives 59 = .ok (.iload 6, 2) := by decide +kernel
theorem dX11_gives_61 : decode cX11_gives 61 = .ok (.iload 5, 2) := by decide +kernel
theorem dX11_gives_63 : decode cX11_gives 63 = .ok (.if_icmp .ge 54, 3) := by decide +kernel
theorem dX11_gives_66 : decode cX11_gives 66 = .ok (.aload_n 0, 1) := by decide +kernel
theorem dX11_gives_67 : decode cX11_gives 67 = .ok (.getfield 27, 3) := by decide +kernel
theorem dX11_gives_70 : decode cX11_gives 70 = .ok (.getfield 88, 3) := by decide +kernel
theorem dX11_gives_73 : decode cX11_gives 73 = .ok (.iload 6, 2) := by decide +kernel
theorem dX11_gives_75 : decode cX11_gives 75 = .ok (.aload_n 3, 1) := by decide +kernel
theorem dX11_gives_76 : decode cX11_gives 76 = .ok (.getfield 156, 3) := by decide +kernel
theorem dX11_gives_79 : decode cX11_gives 79 = .ok (.iload 6, 2) := by decide +kernel
theorem dX11_gives_81 : decode cX11_gives 81 = .ok (.laload, 1) := by decide +kernel
theorem dX11_gives_82 : decode cX11_gives 82 = .ok (.invokevirtual 129, 3) := by decide +kernel
theorem dX11_gives_85 : decode cX11_gives 85 = .ok (.ifCond .eq 26, 3) := by decide +kernel
theorem dX11_gives_111 : decode cX11_gives 111 = .ok (.iinc 6 1, 3) := by decide +kernel
theorem dX11_gives_114 : decode cX11_gives 114 = .ok (.goto (-55), 3) := by decide +kernel
theorem dX11_gives_88 : decode cX11_gives 88 = .ok (.aload_n 0, 1) := by decide +kernel
theorem dX11_gives_89 : decode cX11_gives 89 = .ok (.getfield 27, 3) := by decide +kernel
theorem dX11_gives_92 : decode cX11_gives 92 = .ok (.getfield 133, 3) := by decide +kernel
theorem dX11_gives_95 : decode cX11_gives 95 = .ok (.iload_n 1, 1) := by decide +kernel
theorem dX11_gives_96 : decode cX11_gives 96 = .ok (.aaload, 1) := by decide +kernel
theorem dX11_gives_97 : decode cX11_gives 97 = .ok (.iload 6, 2) := by decide +kernel
theorem dX11_gives_99 : decode cX11_gives 99 = .ok (.aload_n 3, 1) := by decide +kernel
theorem dX11_gives_100 : decode cX11_gives 100 = .ok (.getfield 156, 3) := by decide +kernel
theorem dX11_gives_103 : decode cX11_gives 103 = .ok (.iload 6, 2) := by decide +kernel
theorem dX11_gives_105 : decode cX11_gives 105 = .ok (.laload, 1) := by decide +kernel
theorem dX11_gives_106 : decode cX11_gives 106 = .ok (.l2i, 1) := by decide +kernel
theorem dX11_gives_107 : decode cX11_gives 107 = .ok (.iastore, 1) := by decide +kernel
theorem dX11_gives_108 : decode cX11_gives 108 = .ok (.iinc 4 1, 3) := by decide +kernel
theorem dX11_gives_117 : decode cX11_gives 117 = .ok (.iload 4, 2) := by decide +kernel
theorem dX11_gives_119 : decode cX11_gives 119 = .ok (.ireturn, 1) := by decide +kernel
theorem dX11_way_0 : decode cX11_way 0 = .ok (.iload_n 1, 1) := by decide +kernel
theorem dX11_way_1 : decode cX11_way 1 = .ok (.invokestatic 122, 3) := by decide +kernel
theorem dX11_way_4 : decode cX11_way 4 = .ok (.ifCond .eq 25, 3) := by decide +kernel
theorem dX11_way_29 : decode cX11_way 29 = .ok (.iconst (-1), 1) := by decide +kernel
theorem dX11_way_30 : decode cX11_way 30 = .ok (.ireturn, 1) := by decide +kernel
theorem dX11_way_7 : decode cX11_way 7 = .ok (.aload_n 0, 1) := by decide +kernel
theorem dX11_way_8 : decode cX11_way 8 = .ok (.iload_n 2, 1) := by decide +kernel
theorem dX11_way_9 : decode cX11_way 9 = .ok (.invokevirtual 126, 3) := by decide +kernel
theorem dX11_way_12 : decode cX11_way 12 = .ok (.ifCond .eq 17, 3) := by decide +kernel
theorem dX11_way_15 : decode cX11_way 15 = .ok (.aload_n 0, 1) := by decide +kernel
theorem dX11_way_16 : decode cX11_way 16 = .ok (.getfield 27, 3) := by decide +kernel
theorem dX11_way_19 : decode cX11_way 19 = .ok (.getfield 133, 3) := by decide +kernel
theorem dX11_way_22 : decode cX11_way 22 = .ok (.iload_n 1, 1) := by decide +kernel
theorem dX11_way_23 : decode cX11_way 23 = .ok (.aaload, 1) := by decide +kernel
theorem dX11_way_24 : decode cX11_way 24 = .ok (.iload_n 2, 1) := by decide +kernel
theorem dX11_way_25 : decode cX11_way 25 = .ok (.iaload, 1) := by decide +kernel
theorem dX11_way_26 : decode cX11_way 26 = .ok (.goto 4, 3) := by decide +kernel
theorem dX11_clear_0 : decode cX11_clear 0 = .ok (.iload_n 1, 1) := by decide +kernel
theorem dX11_clear_1 : decode cX11_clear 1 = .ok (.invokestatic 122, 3) := by decide +kernel
theorem dX11_clear_4 : decode cX11_clear 4 = .ok (.ifCond .eq 14, 3) := by decide +kernel
theorem dX11_clear_18 : decode cX11_clear 18 = .ok (.bipush (-2), 2) := by decide +kernel
theorem dX11_clear_20 : decode cX11_clear 20 = .ok (.ireturn, 1) := by decide +kernel
theorem dX11_clear_7 : decode cX11_clear 7 = .ok (.aload_n 0, 1) := by decide +kernel
theorem dX11_clear_8 : decode cX11_clear 8 = .ok (.getfield 27, 3) := by decide +kernel
theorem dX11_clear_11 : decode cX11_clear 11 = .ok (.iload_n 1, 1) := by decide +kernel
theorem dX11_clear_12 : decode cX11_clear 12 = .ok (.invokevirtual 107, 3) := by decide +kernel
theorem dX11_clear_15 : decode cX11_clear 15 = .ok (.goto 5, 3) := by decide +kernel
theorem dX11_whole_0 : decode cX11_whole 0 = .ok (.iload_n 1, 1) := by decide +kernel
theorem dX11_whole_1 : decode cX11_whole 1 = .ok (.invokestatic 122, 3) := by decide +kernel
theorem dX11_whole_4 : decode cX11_whole 4 = .ok (.ifCond .ne 6, 3) := by decide +kernel
theorem dX11_whole_7 : decode cX11_whole 7 = .ok (.bipush (-2), 2) := by decide +kernel
theorem dX11_whole_9 : decode cX11_whole 9 = .ok (.ireturn, 1) := by decide +kernel
theorem dX11_whole_10 : decode cX11_whole 10 = .ok (.aload_n 0, 1) := by decide +kernel
theorem dX11_whole_11 : decode cX11_whole 11 = .ok (.getfield 44, 3) := by decide +kernel
theorem dX11_whole_14 : decode cX11_whole 14 = .ok (.aload_n 0, 1) := by decide +kernel
theorem dX11_whole_15 : decode cX11_whole 15 = .ok (.getfield 27, 3) := by decide +kernel
theorem dX11_whole_18 : decode cX11_whole 18 = .ok (.getfield 88, 3) := by decide +kernel
theorem dX11_whole_21 : decode cX11_whole 21 = .ok (.aload_n 0, 1) := by decide +kernel
theorem dX11_whole_22 : decode cX11_whole 22 = .ok (.getfield 27, 3) := by decide +kernel
theorem dX11_whole_25 : decode cX11_whole 25 = .ok (.getfield 133, 3) := by decide +kernel
theorem dX11_whole_28 : decode cX11_whole 28 = .ok (.iload_n 1, 1) := by decide +kernel
theorem dX11_whole_29 : decode cX11_whole 29 = .ok (.aaload, 1) := by decide +kernel
theorem dX11_whole_30 : decode cX11_whole 30 = .ok (.invokevirtual 160, 3) := by decide +kernel
theorem dX11_whole_33 : decode cX11_whole 33 = .ok (.ifCond .eq 7, 3) := by decide +kernel
theorem dX11_whole_40 : decode cX11_whole 40 = .ok (.iconst 0, 1) := by decide +kernel
theorem dX11_whole_41 : decode cX11_whole 41 = .ok (.ireturn, 1) := by decide +kernel
theorem dX11_whole_36 : decode cX11_whole 36 = .ok (.iconst 1, 1) := by decide +kernel
theorem dX11_whole_37 : decode cX11_whole 37 = .ok (.goto 4, 3) := by decide +kernel
theorem dX11_can_0 : decode cX11_can 0 = .ok (.iload_n 1, 1) := by decide +kernel
theorem dX11_can_1 : decode cX11_can 1 = .ok (.invokestatic 122, 3) := by decide +kernel
theorem dX11_can_4 : decode cX11_can 4 = .ok (.ifCond .ne 6, 3) := by decide +kernel
theorem dX11_can_7 : decode cX11_can 7 = .ok (.bipush (-2), 2) := by decide +kernel
theorem dX11_can_9 : decode cX11_can 9 = .ok (.ireturn, 1) := by decide +kernel
theorem dX11_can_10 : decode cX11_can 10 = .ok (.aload_n 0, 1) := by decide +kernel
theorem dX11_can_11 : decode cX11_can 11 = .ok (.getfield 53, 3) := by decide +kernel
theorem dX11_can_14 : decode cX11_can 14 = .ok (.aload_n 0, 1) := by decide +kernel
theorem dX11_can_15 : decode cX11_can 15 = .ok (.getfield 27, 3) := by decide +kernel
theorem dX11_can_18 : decode cX11_can 18 = .ok (.getfield 88, 3) := by decide +kernel
theorem dX11_can_21 : decode cX11_can 21 = .ok (.aload_n 0, 1) := by decide +kernel
theorem dX11_can_22 : decode cX11_can 22 = .ok (.getfield 27, 3) := by decide +kernel
theorem dX11_can_25 : decode cX11_can 25 = .ok (.getfield 133, 3) := by decide +kernel
theorem dX11_can_28 : decode cX11_can 28 = .ok (.iload_n 1, 1) := by decide +kernel
theorem dX11_can_29 : decode cX11_can 29 = .ok (.aaload, 1) := by decide +kernel
theorem dX11_can_30 : decode cX11_can 30 = .ok (.invokevirtual 164, 3) := by decide +kernel
theorem dX11_can_33 : decode cX11_can 33 = .ok (.ifCond .eq 7, 3) := by decide +kernel
theorem dX11_can_40 : decode cX11_can 40 = .ok (.iconst 0, 1) := by decide +kernel
theorem dX11_can_41 : decode cX11_can 41 = .ok (.ireturn, 1) := by decide +kernel
theorem dX11_can_36 : decode cX11_can 36 = .ok (.iconst 1, 1) := by decide +kernel
theorem dX11_can_37 : decode cX11_can 37 = .ok (.goto 4, 3) := by decide +kernel
theorem dX11_bar_0 : decode cX11_bar 0 = .ok (.iload_n 1, 1) := by decide +kernel
theorem dX11_bar_1 : decode cX11_bar 1 = .ok (.invokestatic 122, 3) := by decide +kernel
theorem dX11_bar_4 : decode cX11_bar 4 = .ok (.ifCond .ne 6, 3) := by decide +kernel
theorem dX11_bar_7 : decode cX11_bar 7 = .ok (.bipush (-2), 2) := by decide +kernel
theorem dX11_bar_9 : decode cX11_bar 9 = .ok (.ireturn, 1) := by decide +kernel
theorem dX11_bar_10 : decode cX11_bar 10 = .ok (.aload_n 0, 1) := by decide +kernel
theorem dX11_bar_11 : decode cX11_bar 11 = .ok (.getfield 44, 3) := by decide +kernel
theorem dX11_bar_14 : decode cX11_bar 14 = .ok (.aload_n 0, 1) := by decide +kernel
theorem dX11_bar_15 : decode cX11_bar 15 = .ok (.getfield 27, 3) := by decide +kernel
theorem dX11_bar_18 : decode cX11_bar 18 = .ok (.getfield 88, 3) := by decide +kernel
theorem dX11_bar_21 : decode cX11_bar 21 = .ok (.aload_n 0, 1) := by decide +kernel
theorem dX11_bar_22 : decode cX11_bar 22 = .ok (.getfield 27, 3) := by decide +kernel
theorem dX11_bar_25 : decode cX11_bar 25 = .ok (.getfield 133, 3) := by decide +kernel
theorem dX11_bar_28 : decode cX11_bar 28 = .ok (.iload_n 1, 1) := by decide +kernel
theorem dX11_bar_29 : decode cX11_bar 29 = .ok (.aaload, 1) := by decide +kernel
theorem dX11_bar_30 : decode cX11_bar 30 = .ok (.invokevirtual 160, 3) := by decide +kernel
theorem dX11_bar_33 : decode cX11_bar 33 = .ok (.ifCond .eq 29, 3) := by decide +kernel
theorem dX11_bar_62 : decode cX11_bar 62 = .ok (.bipush (-3), 2) := by decide +kernel
theorem dX11_bar_64 : decode cX11_bar 64 = .ok (.ireturn, 1) := by decide +kernel
theorem dX11_bar_36 : decode cX11_bar 36 = .ok (.aload_n 0, 1) := by decide +kernel
theorem dX11_bar_37 : decode cX11_bar 37 = .ok (.getfield 53, 3) := by decide +kernel
theorem dX11_bar_40 : decode cX11_bar 40 = .ok (.aload_n 0, 1) := by decide +kernel
theorem dX11_bar_41 : decode cX11_bar 41 = .ok (.getfield 27, 3) := by decide +kernel
theorem dX11_bar_44 : decode cX11_bar 44 = .ok (.getfield 88, 3) := by decide +kernel
theorem dX11_bar_47 : decode cX11_bar 47 = .ok (.aload_n 0, 1) := by decide +kernel
theorem dX11_bar_48 : decode cX11_bar 48 = .ok (.getfield 27, 3) := by decide +kernel
theorem dX11_bar_51 : decode cX11_bar 51 = .ok (.getfield 133, 3) := by decide +kernel
theorem dX11_bar_54 : decode cX11_bar 54 = .ok (.iload_n 1, 1) := by decide +kernel
theorem dX11_bar_55 : decode cX11_bar 55 = .ok (.aaload, 1) := by decide +kernel
theorem dX11_bar_56 : decode cX11_bar 56 = .ok (.invokevirtual 167, 3) := by decide +kernel
theorem dX11_bar_59 : decode cX11_bar 59 = .ok (.goto 5, 3) := by decide +kernel
theorem dX11_cut_0 : decode cX11_cut 0 = .ok (.iload_n 1, 1) := by decide +kernel
theorem dX11_cut_1 : decode cX11_cut 1 = .ok (.invokestatic 122, 3) := by decide +kernel
theorem dX11_cut_4 : decode cX11_cut 4 = .ok (.ifCond .ne 6, 3) := by decide +kernel
theorem dX11_cut_7 : decode cX11_cut 7 = .ok (.bipush (-2), 2) := by decide +kernel
theorem dX11_cut_9 : decode cX11_cut 9 = .ok (.ireturn, 1) := by decide +kernel
theorem dX11_cut_10 : decode cX11_cut 10 = .ok (.aload_n 0, 1) := by decide +kernel
theorem dX11_cut_11 : decode cX11_cut 11 = .ok (.getfield 27, 3) := by decide +kernel
theorem dX11_cut_14 : decode cX11_cut 14 = .ok (.getfield 88, 3) := by decide +kernel
theorem dX11_cut_17 : decode cX11_cut 17 = .ok (.invokevirtual 171, 3) := by decide +kernel
theorem dX11_cut_20 : decode cX11_cut 20 = .ok (.istore_n 2, 1) := by decide +kernel
theorem dX11_cut_21 : decode cX11_cut 21 = .ok (.iconst 0, 1) := by decide +kernel
theorem dX11_cut_22 : decode cX11_cut 22 = .ok (.istore_n 3, 1) := by decide +kernel
theorem dX11_cut_23 : decode cX11_cut 23 = .ok (.iload_n 3, 1) := by decide +kernel
theorem dX11_cut_24 : decode cX11_cut 24 = .ok (.aload_n 0, 1) := by decide +kernel
theorem dX11_cut_25 : decode cX11_cut 25 = .ok (.getfield 27, 3) := by decide +kernel
theorem dX11_cut_28 : decode cX11_cut 28 = .ok (.getfield 88, 3) := by decide +kernel
theorem dX11_cut_31 : decode cX11_cut 31 = .ok (.getfield 175, 3) := by decide +kernel
theorem dX11_cut_34 : decode cX11_cut 34 = .ok (.if_icmp .ge 44, 3) := by decide +kernel
theorem dX11_cut_37 : decode cX11_cut 37 = .ok (.aload_n 0, 1) := by decide +kernel
theorem dX11_cut_38 : decode cX11_cut 38 = .ok (.getfield 44, 3) := by decide +kernel
theorem dX11_cut_41 : decode cX11_cut 41 = .ok (.aload_n 0, 1) := by decide +kernel
theorem dX11_cut_42 : decode cX11_cut 42 = .ok (.getfield 27, 3) := by decide +kernel
theorem dX11_cut_45 : decode cX11_cut 45 = .ok (.getfield 88, 3) := by decide +kernel
theorem dX11_cut_48 : decode cX11_cut 48 = .ok (.aload_n 0, 1) := by decide +kernel
theorem dX11_cut_49 : decode cX11_cut 49 = .ok (.getfield 27, 3) := by decide +kernel
theorem dX11_cut_52 : decode cX11_cut 52 = .ok (.getfield 133, 3) := by decide +kernel
theorem dX11_cut_55 : decode cX11_cut 55 = .ok (.iload_n 1, 1) := by decide +kernel
theorem dX11_cut_56 : decode cX11_cut 56 = .ok (.aaload, 1) := by decide +kernel
theorem dX11_cut_57 : decode cX11_cut 57 = .ok (.iload_n 3, 1) := by decide +kernel
theorem dX11_cut_58 : decode cX11_cut 58 = .ok (.invokevirtual 178, 3) := by decide +kernel
theorem dX11_cut_61 : decode cX11_cut 61 = .ok (.istore 4, 2) := by decide +kernel
theorem dX11_cut_63 : decode cX11_cut 63 = .ok (.iload 4, 2) := by decide +kernel
theorem dX11_cut_65 : decode cX11_cut 65 = .ok (.iload_n 2, 1) := by decide +kernel
theorem dX11_cut_66 : decode cX11_cut 66 = .ok (.if_icmp .eq 6, 3) := by decide +kernel
theorem dX11_cut_72 : decode cX11_cut 72 = .ok (.iinc 3 1, 3) := by decide +kernel
theorem dX11_cut_75 : decode cX11_cut 75 = .ok (.goto (-52), 3) := by decide +kernel
theorem dX11_cut_69 : decode cX11_cut 69 = .ok (.iload 4, 2) := by decide +kernel
theorem dX11_cut_71 : decode cX11_cut 71 = .ok (.ireturn, 1) := by decide +kernel
theorem dX11_cut_78 : decode cX11_cut 78 = .ok (.iconst 0, 1) := by decide +kernel
theorem dX11_cut_79 : decode cX11_cut 79 = .ok (.ireturn, 1) := by decide +kernel
theorem dX11_show_0 : decode cX11_show 0 = .ok (.iload_n 1, 1) := by decide +kernel
theorem dX11_show_1 : decode cX11_show 1 = .ok (.invokestatic 122, 3) := by decide +kernel
theorem dX11_show_4 : decode cX11_show 4 = .ok (.ifCond .eq 29, 3) := by decide +kernel
theorem dX11_show_33 : decode cX11_show 33 = .ok (.bipush (-2), 2) := by decide +kernel
theorem dX11_show_35 : decode cX11_show 35 = .ok (.ireturn, 1) := by decide +kernel
theorem dX11_show_7 : decode cX11_show 7 = .ok (.aload_n 0, 1) := by decide +kernel
theorem dX11_show_8 : decode cX11_show 8 = .ok (.getfield 53, 3) := by decide +kernel
theorem dX11_show_11 : decode cX11_show 11 = .ok (.aload_n 0, 1) := by decide +kernel
theorem dX11_show_12 : decode cX11_show 12 = .ok (.getfield 27, 3) := by decide +kernel
theorem dX11_show_15 : decode cX11_show 15 = .ok (.getfield 88, 3) := by decide +kernel
theorem dX11_show_18 : decode cX11_show 18 = .ok (.aload_n 0, 1) := by decide +kernel
theorem dX11_show_19 : decode cX11_show 19 = .ok (.getfield 27, 3) := by decide +kernel
theorem dX11_show_22 : decode cX11_show 22 = .ok (.getfield 133, 3) := by decide +kernel
theorem dX11_show_25 : decode cX11_show 25 = .ok (.iload_n 1, 1) := by decide +kernel
theorem dX11_show_26 : decode cX11_show 26 = .ok (.aaload, 1) := by decide +kernel
theorem dX11_show_27 : decode cX11_show 27 = .ok (.invokevirtual 182, 3) := by decide +kernel
theorem dX11_show_30 : decode cX11_show 30 = .ok (.goto 5, 3) := by decide +kernel
theorem dX11_forced_0 : decode cX11_forced 0 = .ok (.iload_n 1, 1) := by decide +kernel
theorem dX11_forced_1 : decode cX11_forced 1 = .ok (.invokestatic 122, 3) := by decide +kernel
theorem dX11_forced_4 : decode cX11_forced 4 = .ok (.ifCond .eq 29, 3) := by decide +kernel
theorem dX11_forced_33 : decode cX11_forced 33 = .ok (.bipush (-2), 2) := by decide +kernel
theorem dX11_forced_35 : decode cX11_forced 35 = .ok (.ireturn, 1) := by decide +kernel
theorem dX11_forced_7 : decode cX11_forced 7 = .ok (.aload_n 0, 1) := by decide +kernel
theorem dX11_forced_8 : decode cX11_forced 8 = .ok (.getfield 53, 3) := by decide +kernel
theorem dX11_forced_11 : decode cX11_forced 11 = .ok (.aload_n 0, 1) := by decide +kernel
theorem dX11_forced_12 : decode cX11_forced 12 = .ok (.getfield 27, 3) := by decide +kernel
theorem dX11_forced_15 : decode cX11_forced 15 = .ok (.getfield 88, 3) := by decide +kernel
theorem dX11_forced_18 : decode cX11_forced 18 = .ok (.aload_n 0, 1) := by decide +kernel
theorem dX11_forced_19 : decode cX11_forced 19 = .ok (.getfield 27, 3) := by decide +kernel
theorem dX11_forced_22 : decode cX11_forced 22 = .ok (.getfield 133, 3) := by decide +kernel
theorem dX11_forced_25 : decode cX11_forced 25 = .ok (.iload_n 1, 1) := by decide +kernel
theorem dX11_forced_26 : decode cX11_forced 26 = .ok (.aaload, 1) := by decide +kernel
theorem dX11_forced_27 : decode cX11_forced 27 = .ok (.invokevirtual 185, 3) := by decide +kernel
theorem dX11_forced_30 : decode cX11_forced 30 = .ok (.goto 5, 3) := by decide +kernel
theorem dX11_forcedWay_0 : decode cX11_forcedWay 0 = .ok (.iload_n 1, 1) := by decide +kernel
theorem dX11_forcedWay_1 : decode cX11_forcedWay 1 = .ok (.invokestatic 122, 3) := by decide +kernel
theorem dX11_forcedWay_4 : decode cX11_forcedWay 4 = .ok (.ifCond .eq 11, 3) := by decide +kernel
theorem dX11_forcedWay_15 : decode cX11_forcedWay 15 = .ok (.iconst (-1), 1) := by decide +kernel
theorem dX11_forcedWay_16 : decode cX11_forcedWay 16 = .ok (.ireturn, 1) := by decide +kernel
theorem dX11_forcedWay_7 : decode cX11_forcedWay 7 = .ok (.aload_n 0, 1) := by decide +kernel
theorem dX11_forcedWay_8 : decode cX11_forcedWay 8 = .ok (.iload_n 2, 1) := by decide +kernel
theorem dX11_forcedWay_9 : decode cX11_forcedWay 9 = .ok (.invokevirtual 126, 3) := by decide +kernel
theorem dX11_forcedWay_12 : decode cX11_forcedWay 12 = .ok (.ifCond .ne 5, 3) := by decide +kernel
theorem dX11_forcedWay_17 : decode cX11_forcedWay 17 = .ok (.aload_n 0, 1) := by decide +kernel
theorem dX11_forcedWay_18 : decode cX11_forcedWay 18 = .ok (.getfield 53, 3) := by decide +kernel
theorem dX11_forcedWay_21 : decode cX11_forcedWay 21 = .ok (.aload_n 0, 1) := by decide +kernel
theorem dX11_forcedWay_22 : decode cX11_forcedWay 22 = .ok (.getfield 27, 3) := by decide +kernel
theorem dX11_forcedWay_25 : decode cX11_forcedWay 25 = .ok (.getfield 88, 3) := by decide +kernel
theorem dX11_forcedWay_28 : decode cX11_forcedWay 28 = .ok (.aload_n 0, 1) := by decide +kernel
theorem dX11_forcedWay_29 : decode cX11_forcedWay 29 = .ok (.getfield 27, 3) := by decide +kernel
theorem dX11_forcedWay_32 : decode cX11_forcedWay 32 = .ok (.getfield 133, 3) := by decide +kernel
theorem dX11_forcedWay_35 : decode cX11_forcedWay 35 = .ok (.iload_n 1, 1) := by decide +kernel
theorem dX11_forcedWay_36 : decode cX11_forcedWay 36 = .ok (.aaload, 1) := by decide +kernel
theorem dX11_forcedWay_37 : decode cX11_forcedWay 37 = .ok (.iload_n 2, 1) := by decide +kernel
theorem dX11_forcedWay_38 : decode cX11_forcedWay 38 = .ok (.invokevirtual 188, 3) := by decide +kernel
theorem dX11_forcedWay_41 : decode cX11_forcedWay 41 = .ok (.ireturn, 1) := by decide +kernel
theorem dX11_isCorner_0 : decode cX11_isCorner 0 = .ok (.iload_n 1, 1) := by decide +kernel
theorem dX11_isCorner_1 : decode cX11_isCorner 1 = .ok (.ifCond .lt 21, 3) := by decide +kernel
theorem dX11_isCorner_22 : decode cX11_isCorner 22 = .ok (.iconst 0, 1) := by decide +kernel
theorem dX11_isCorner_23 : decode cX11_isCorner 23 = .ok (.ireturn, 1) := by decide +kernel
theorem dX11_isCorner_4 : decode cX11_isCorner 4 = .ok (.iload_n 1, 1) := by decide +kernel
theorem dX11_isCorner_5 : decode cX11_isCorner 5 = .ok (.aload_n 0, 1) := by decide +kernel
theorem dX11_isCorner_6 : decode cX11_isCorner 6 = .ok (.getfield 27, 3) := by decide +kernel
theorem dX11_isCorner_9 : decode cX11_isCorner 9 = .ok (.getfield 88, 3) := by decide +kernel
theorem dX11_isCorner_12 : decode cX11_isCorner 12 = .ok (.getfield 175, 3) := by decide +kernel
theorem dX11_isCorner_15 : decode cX11_isCorner 15 = .ok (.if_icmp .ge 7, 3) := by decide +kernel
theorem dX11_isCorner_18 : decode cX11_isCorner 18 = .ok (.iconst 1, 1) := by decide +kernel
theorem dX11_isCorner_19 : decode cX11_isCorner 19 = .ok (.goto 4, 3) := by decide +kernel
theorem dX11_orNone_0 : decode cX11_orNone 0 = .ok (.iload_n 0, 1) := by decide +kernel
theorem dX11_orNone_1 : decode cX11_orNone 1 = .ok (.ldc_w 411, 3) := by decide +kernel
theorem dX11_orNone_4 : decode cX11_orNone 4 = .ok (.if_icmp .lt 7, 3) := by decide +kernel
theorem dX11_orNone_11 : decode cX11_orNone 11 = .ok (.iload_n 0, 1) := by decide +kernel
theorem dX11_orNone_12 : decode cX11_orNone 12 = .ok (.ireturn, 1) := by decide +kernel
theorem dX11_orNone_7 : decode cX11_orNone 7 = .ok (.iconst (-1), 1) := by decide +kernel
theorem dX11_orNone_8 : decode cX11_orNone 8 = .ok (.goto 4, 3) := by decide +kernel
theorem dX11_minutes_0 : decode cX11_minutes 0 = .ok (.iload_n 1, 1) := by decide +kernel
theorem dX11_minutes_1 : decode cX11_minutes 1 = .ok (.invokestatic 122, 3) := by decide +kernel
theorem dX11_minutes_4 : decode cX11_minutes 4 = .ok (.ifCond .eq 19, 3) := by decide +kernel
theorem dX11_minutes_23 : decode cX11_minutes 23 = .ok (.bipush (-2), 2) := by decide +kernel
theorem dX11_minutes_25 : decode cX11_minutes 25 = .ok (.ireturn, 1) := by decide +kernel
theorem dX11_minutes_7 : decode cX11_minutes 7 = .ok (.aload_n 0, 1) := by decide +kernel
theorem dX11_minutes_8 : decode cX11_minutes 8 = .ok (.iload_n 2, 1) := by decide +kernel
theorem dX11_minutes_9 : decode cX11_minutes 9 = .ok (.invokevirtual 191, 3) := by decide +kernel
theorem dX11_minutes_12 : decode cX11_minutes 12 = .ok (.ifCond .eq 11, 3) := by decide +kernel
theorem dX11_minutes_15 : decode cX11_minutes 15 = .ok (.aload_n 0, 1) := by decide +kernel
theorem dX11_minutes_16 : decode cX11_minutes 16 = .ok (.iload_n 3, 1) := by decide +kernel
theorem dX11_minutes_17 : decode cX11_minutes 17 = .ok (.invokevirtual 191, 3) := by decide +kernel
theorem dX11_minutes_20 : decode cX11_minutes 20 = .ok (.ifCond .ne 6, 3) := by decide +kernel
theorem dX11_minutes_26 : decode cX11_minutes 26 = .ok (.aload_n 0, 1) := by decide +kernel
theorem dX11_minutes_27 : decode cX11_minutes 27 = .ok (.getfield 44, 3) := by decide +kernel
theorem dX11_minutes_30 : decode cX11_minutes 30 = .ok (.aload_n 0, 1) := by decide +kernel
theorem dX11_minutes_31 : decode cX11_minutes 31 = .ok (.getfield 27, 3) := by decide +kernel
theorem dX11_minutes_34 : decode cX11_minutes 34 = .ok (.getfield 88, 3) := by decide +kernel
theorem dX11_minutes_37 : decode cX11_minutes 37 = .ok (.aload_n 0, 1) := by decide +kernel
theorem dX11_minutes_38 : decode cX11_minutes 38 = .ok (.getfield 27, 3) := by decide +kernel
theorem dX11_minutes_41 : decode cX11_minutes 41 = .ok (.getfield 133, 3) := by decide +kernel
theorem dX11_minutes_44 : decode cX11_minutes 44 = .ok (.iload_n 1, 1) := by decide +kernel
theorem dX11_minutes_45 : decode cX11_minutes 45 = .ok (.aaload, 1) := by decide +kernel
theorem dX11_minutes_46 : decode cX11_minutes 46 = .ok (.iload_n 2, 1) := by decide +kernel
theorem dX11_minutes_47 : decode cX11_minutes 47 = .ok (.iload_n 3, 1) := by decide +kernel
theorem dX11_minutes_48 : decode cX11_minutes 48 = .ok (.invokevirtual 194, 3) := by decide +kernel
theorem dX11_minutes_51 : decode cX11_minutes 51 = .ok (.invokestatic 198, 3) := by decide +kernel
theorem dX11_minutes_54 : decode cX11_minutes 54 = .ok (.ireturn, 1) := by decide +kernel
theorem dX11_isJourney_0 : decode cX11_isJourney 0 = .ok (.iload_n 1, 1) := by decide +kernel
theorem dX11_isJourney_1 : decode cX11_isJourney 1 = .ok (.ifCond .lt 24, 3) := by decide +kernel
theorem dX11_isJourney_25 : decode cX11_isJourney 25 = .ok (.iconst 0, 1) := by decide +kernel
theorem dX11_isJourney_26 : decode cX11_isJourney 26 = .ok (.ireturn, 1) := by decide +kernel
theorem dX11_isJourney_4 : decode cX11_isJourney 4 = .ok (.iload_n 1, 1) := by decide +kernel
theorem dX11_isJourney_5 : decode cX11_isJourney 5 = .ok (.aload_n 0, 1) := by decide +kernel
theorem dX11_isJourney_6 : decode cX11_isJourney 6 = .ok (.getfield 27, 3) := by decide +kernel
theorem dX11_isJourney_9 : decode cX11_isJourney 9 = .ok (.getfield 88, 3) := by decide +kernel
theorem dX11_isJourney_12 : decode cX11_isJourney 12 = .ok (.getfield 287, 3) := by decide +kernel
theorem dX11_isJourney_15 : decode cX11_isJourney 15 = .ok (.getfield 381, 3) := by decide +kernel
theorem dX11_isJourney_18 : decode cX11_isJourney 18 = .ok (.if_icmp .ge 7, 3) := by decide +kernel
theorem dX11_isJourney_21 : decode cX11_isJourney 21 = .ok (.iconst 1, 1) := by decide +kernel
theorem dX11_isJourney_22 : decode cX11_isJourney 22 = .ok (.goto 4, 3) := by decide +kernel
theorem dX11_round_0 : decode cX11_round 0 = .ok (.iload_n 1, 1) := by decide +kernel
theorem dX11_round_1 : decode cX11_round 1 = .ok (.invokestatic 122, 3) := by decide +kernel
theorem dX11_round_4 : decode cX11_round 4 = .ok (.ifCond .eq 11, 3) := by decide +kernel
theorem dX11_round_15 : decode cX11_round 15 = .ok (.bipush (-2), 2) := by decide +kernel
theorem dX11_round_17 : decode cX11_round 17 = .ok (.ireturn, 1) := by decide +kernel
theorem dX11_round_7 : decode cX11_round 7 = .ok (.aload_n 0, 1) := by decide +kernel
theorem dX11_round_8 : decode cX11_round 8 = .ok (.iload_n 2, 1) := by decide +kernel
theorem dX11_round_9 : decode cX11_round 9 = .ok (.invokevirtual 201, 3) := by decide +kernel
theorem dX11_round_12 : decode cX11_round 12 = .ok (.ifCond .ne 6, 3) := by decide +kernel
theorem dX11_round_18 : decode cX11_round 18 = .ok (.aload_n 0, 1) := by decide +kernel
theorem dX11_round_19 : decode cX11_round 19 = .ok (.getfield 44, 3) := by decide +kernel
theorem dX11_round_22 : decode cX11_round 22 = .ok (.aload_n 0, 1) := by decide +kernel
theorem dX11_round_23 : decode cX11_round 23 = .ok (.getfield 27, 3) := by decide +kernel
theorem dX11_round_26 : decode cX11_round 26 = .ok (.getfield 88, 3) := by decide +kernel
theorem dX11_round_29 : decode cX11_round 29 = .ok (.aload_n 0, 1) := by decide +kernel
theorem dX11_round_30 : decode cX11_round 30 = .ok (.getfield 27, 3) := by decide +kernel
theorem dX11_round_33 : decode cX11_round 33 = .ok (.getfield 133, 3) := by decide +kernel
theorem dX11_round_36 : decode cX11_round 36 = .ok (.iload_n 1, 1) := by decide +kernel
theorem dX11_round_37 : decode cX11_round 37 = .ok (.aaload, 1) := by decide +kernel
theorem dX11_round_38 : decode cX11_round 38 = .ok (.iload_n 2, 1) := by decide +kernel
theorem dX11_round_39 : decode cX11_round 39 = .ok (.invokevirtual 204, 3) := by decide +kernel
theorem dX11_round_42 : decode cX11_round 42 = .ok (.ireturn, 1) := by decide +kernel
theorem dX11_sum_0 : decode cX11_sum 0 = .ok (.iload_n 1, 1) := by decide +kernel
theorem dX11_sum_1 : decode cX11_sum 1 = .ok (.invokestatic 122, 3) := by decide +kernel
theorem dX11_sum_4 : decode cX11_sum 4 = .ok (.ifCond .eq 32, 3) := by decide +kernel
theorem dX11_sum_36 : decode cX11_sum 36 = .ok (.bipush (-2), 2) := by decide +kernel
theorem dX11_sum_38 : decode cX11_sum 38 = .ok (.ireturn, 1) := by decide +kernel
theorem dX11_sum_7 : decode cX11_sum 7 = .ok (.aload_n 0, 1) := by decide +kernel
theorem dX11_sum_8 : decode cX11_sum 8 = .ok (.getfield 44, 3) := by decide +kernel
theorem dX11_sum_11 : decode cX11_sum 11 = .ok (.aload_n 0, 1) := by decide +kernel
theorem dX11_sum_12 : decode cX11_sum 12 = .ok (.getfield 27, 3) := by decide +kernel
theorem dX11_sum_15 : decode cX11_sum 15 = .ok (.getfield 88, 3) := by decide +kernel
theorem dX11_sum_18 : decode cX11_sum 18 = .ok (.aload_n 0, 1) := by decide +kernel
theorem dX11_sum_19 : decode cX11_sum 19 = .ok (.getfield 27, 3) := by decide +kernel
theorem dX11_sum_22 : decode cX11_sum 22 = .ok (.getfield 133, 3) := by decide +kernel
theorem dX11_sum_25 : decode cX11_sum 25 = .ok (.iload_n 1, 1) := by decide +kernel
theorem dX11_sum_26 : decode cX11_sum 26 = .ok (.aaload, 1) := by decide +kernel
theorem dX11_sum_27 : decode cX11_sum 27 = .ok (.iconst 0, 1) := by decide +kernel
theorem dX11_sum_28 : decode cX11_sum 28 = .ok (.ldc 207, 2) := by decide +kernel
theorem dX11_sum_30 : decode cX11_sum 30 = .ok (.invokevirtual 208, 3) := by decide +kernel
theorem dX11_sum_33 : decode cX11_sum 33 = .ok (.goto 5, 3) := by decide +kernel
theorem dX11_worst_0 : decode cX11_worst 0 = .ok (.iload_n 1, 1) := by decide +kernel
theorem dX11_worst_1 : decode cX11_worst 1 = .ok (.invokestatic 122, 3) := by decide +kernel
theorem dX11_worst_4 : decode cX11_worst 4 = .ok (.ifCond .eq 31, 3) := by decide +kernel
theorem dX11_worst_35 : decode cX11_worst 35 = .ok (.bipush (-2), 2) := by decide +kernel
theorem dX11_worst_37 : decode cX11_worst 37 = .ok (.ireturn, 1) := by decide +kernel
theorem dX11_worst_7 : decode cX11_worst 7 = .ok (.aload_n 0, 1) := by decide +kernel
theorem dX11_worst_8 : decode cX11_worst 8 = .ok (.getfield 44, 3) := by decide +kernel
theorem dX11_worst_11 : decode cX11_worst 11 = .ok (.aload_n 0, 1) := by decide +kernel
theorem dX11_worst_12 : decode cX11_worst 12 = .ok (.getfield 27, 3) := by decide +kernel
theorem dX11_worst_15 : decode cX11_worst 15 = .ok (.getfield 88, 3) := by decide +kernel
theorem dX11_worst_18 : decode cX11_worst 18 = .ok (.aload_n 0, 1) := by decide +kernel
theorem dX11_worst_19 : decode cX11_worst 19 = .ok (.getfield 27, 3) := by decide +kernel
theorem dX11_worst_22 : decode cX11_worst 22 = .ok (.getfield 133, 3) := by decide +kernel
theorem dX11_worst_25 : decode cX11_worst 25 = .ok (.iload_n 1, 1) := by decide +kernel
theorem dX11_worst_26 : decode cX11_worst 26 = .ok (.aaload, 1) := by decide +kernel
theorem dX11_worst_27 : decode cX11_worst 27 = .ok (.ldc 207, 2) := by decide +kernel
theorem dX11_worst_29 : decode cX11_worst 29 = .ok (.invokevirtual 212, 3) := by decide +kernel
theorem dX11_worst_32 : decode cX11_worst 32 = .ok (.goto 5, 3) := by decide +kernel
theorem dX11_best_0 : decode cX11_best 0 = .ok (.iload_n 1, 1) := by decide +kernel
theorem dX11_best_1 : decode cX11_best 1 = .ok (.invokestatic 122, 3) := by decide +kernel
theorem dX11_best_4 : decode cX11_best 4 = .ok (.ifCond .eq 12, 3) := by decide +kernel
theorem dX11_best_16 : decode cX11_best 16 = .ok (.bipush (-2), 2) := by decide +kernel
theorem dX11_best_18 : decode cX11_best 18 = .ok (.ireturn, 1) := by decide +kernel
theorem dX11_best_7 : decode cX11_best 7 = .ok (.iload_n 2, 1) := by decide +kernel
theorem dX11_best_8 : decode cX11_best 8 = .ok (.ifCond .lt 8, 3) := by decide +kernel
theorem dX11_best_11 : decode cX11_best 11 = .ok (.iload_n 2, 1) := by decide +kernel
theorem dX11_best_12 : decode cX11_best 12 = .ok (.iconst 1, 1) := by decide +kernel
theorem dX11_best_13 : decode cX11_best 13 = .ok (.if_icmp .le 6, 3) := by decide +kernel
theorem dX11_best_19 : decode cX11_best 19 = .ok (.aload_n 0, 1) := by decide +kernel
theorem dX11_best_20 : decode cX11_best 20 = .ok (.getfield 27, 3) := by decide +kernel
theorem dX11_best_23 : decode cX11_best 23 = .ok (.iload_n 1, 1) := by decide +kernel
theorem dX11_best_24 : decode cX11_best 24 = .ok (.invokevirtual 215, 3) := by decide +kernel
theorem dX11_best_27 : decode cX11_best 27 = .ok (.bipush 10, 2) := by decide +kernel
theorem dX11_best_29 : decode cX11_best 29 = .ok (.if_icmp .le 6, 3) := by decide +kernel
theorem dX11_best_35 : decode cX11_best 35 = .ok (.aload_n 0, 1) := by decide +kernel
theorem dX11_best_36 : decode cX11_best 36 = .ok (.getfield 53, 3) := by decide +kernel
theorem dX11_best_39 : decode cX11_best 39 = .ok (.aload_n 0, 1) := by decide +kernel
theorem dX11_best_40 : decode cX11_best 40 = .ok (.getfield 27, 3) := by decide +kernel
theorem dX11_best_43 : decode cX11_best 43 = .ok (.getfield 88, 3) := by decide +kernel
theorem dX11_best_46 : decode cX11_best 46 = .ok (.aload_n 0, 1) := by decide +kernel
theorem dX11_best_47 : decode cX11_best 47 = .ok (.getfield 27, 3) := by decide +kernel
theorem dX11_best_50 : decode cX11_best 50 = .ok (.getfield 133, 3) := by decide +kernel
theorem dX11_best_53 : decode cX11_best 53 = .ok (.iload_n 1, 1) := by decide +kernel
theorem dX11_best_54 : decode cX11_best 54 = .ok (.aaload, 1) := by decide +kernel
theorem dX11_best_55 : decode cX11_best 55 = .ok (.iload_n 2, 1) := by decide +kernel
theorem dX11_best_56 : decode cX11_best 56 = .ok (.iconst 1, 1) := by decide +kernel
theorem dX11_best_57 : decode cX11_best 57 = .ok (.if_icmp .ne 7, 3) := by decide +kernel
theorem dX11_best_64 : decode cX11_best 64 = .ok (.iconst 0, 1) := by decide +kernel
theorem dX11_best_65 : decode cX11_best 65 = .ok (.invokevirtual 218, 3) := by decide +kernel
theorem dX11_best_68 : decode cX11_best 68 = .ok (.ireturn, 1) := by decide +kernel
theorem dX11_best_60 : decode cX11_best 60 = .ok (.iconst 1, 1) := by decide +kernel
theorem dX11_best_61 : decode cX11_best 61 = .ok (.goto 4, 3) := by decide +kernel
theorem dX11_best_32 : decode cX11_best 32 = .ok (.bipush (-3), 2) := by decide +kernel
theorem dX11_best_34 : decode cX11_best 34 = .ok (.ireturn, 1) := by decide +kernel
theorem dX11_isComplete_0 : decode cX11_isComplete 0 = .ok (.aload_n 0, 1) := by decide +kernel
theorem dX11_isComplete_1 : decode cX11_isComplete 1 = .ok (.getfield 27, 3) := by decide +kernel
theorem dX11_isComplete_4 : decode cX11_isComplete 4 = .ok (.iload_n 1, 1) := by decide +kernel
theorem dX11_isComplete_5 : decode cX11_isComplete 5 = .ok (.invokevirtual 215, 3) := by decide +kernel
theorem dX11_isComplete_8 : decode cX11_isComplete 8 = .ok (.ifCond .ne 33, 3) := by decide +kernel
theorem dX11_isComplete_41 : decode cX11_isComplete 41 = .ok (.iconst 0, 1) := by decide +kernel
theorem dX11_isComplete_42 : decode cX11_isComplete 42 = .ok (.ireturn, 1) := by decide +kernel
theorem dX11_isComplete_11 : decode cX11_isComplete 11 = .ok (.aload_n 0, 1) := by decide +kernel
theorem dX11_isComplete_12 : decode cX11_isComplete 12 = .ok (.getfield 44, 3) := by decide +kernel
theorem dX11_isComplete_15 : decode cX11_isComplete 15 = .ok (.aload_n 0, 1) := by decide +kernel
theorem dX11_isComplete_16 : decode cX11_isComplete 16 = .ok (.getfield 27, 3) := by decide +kernel
theorem dX11_isComplete_19 : decode cX11_isComplete 19 = .ok (.getfield 88, 3) := by decide +kernel
theorem dX11_isComplete_22 : decode cX11_isComplete 22 = .ok (.aload_n 0, 1) := by decide +kernel
theorem dX11_isComplete_23 : decode cX11_isComplete 23 = .ok (.getfield 27, 3) := by decide +kernel
theorem dX11_isComplete_26 : decode cX11_isComplete 26 = .ok (.getfield 133, 3) := by decide +kernel
theorem dX11_isComplete_29 : decode cX11_isComplete 29 = .ok (.iload_n 1, 1) := by decide +kernel
theorem dX11_isComplete_30 : decode cX11_isComplete 30 = .ok (.aaload, 1) := by decide +kernel
theorem dX11_isComplete_31 : decode cX11_isComplete 31 = .ok (.invokevirtual 160, 3) := by decide +kernel
theorem dX11_isComplete_34 : decode cX11_isComplete 34 = .ok (.ifCond .eq 7, 3) := by decide +kernel
theorem dX11_isComplete_37 : decode cX11_isComplete 37 = .ok (.iconst 1, 1) := by decide +kernel
theorem dX11_isComplete_38 : decode cX11_isComplete 38 = .ok (.goto 4, 3) := by decide +kernel
theorem dX11_better_0 : decode cX11_better 0 = .ok (.iload_n 1, 1) := by decide +kernel
theorem dX11_better_1 : decode cX11_better 1 = .ok (.invokestatic 122, 3) := by decide +kernel
theorem dX11_better_4 : decode cX11_better 4 = .ok (.ifCond .ne 6, 3) := by decide +kernel
theorem dX11_better_7 : decode cX11_better 7 = .ok (.bipush (-2), 2) := by decide +kernel
theorem dX11_better_9 : decode cX11_better 9 = .ok (.ireturn, 1) := by decide +kernel
theorem dX11_better_10 : decode cX11_better 10 = .ok (.aload_n 0, 1) := by decide +kernel
theorem dX11_better_11 : decode cX11_better 11 = .ok (.iload_n 1, 1) := by decide +kernel
theorem dX11_better_12 : decode cX11_better 12 = .ok (.invokevirtual 222, 3) := by decide +kernel
theorem dX11_better_15 : decode cX11_better 15 = .ok (.ifCond .ne 6, 3) := by decide +kernel
theorem dX11_better_21 : decode cX11_better 21 = .ok (.iconst 0, 1) := by decide +kernel
theorem dX11_better_22 : decode cX11_better 22 = .ok (.istore_n 2, 1) := by decide +kernel
theorem dX11_better_23 : decode cX11_better 23 = .ok (.iload_n 2, 1) := by decide +kernel
theorem dX11_better_24 : decode cX11_better 24 = .ok (.bipush 50, 2) := by decide +kernel
theorem dX11_better_26 : decode cX11_better 26 = .ok (.if_icmp .ge 63, 3) := by decide +kernel
theorem dX11_better_29 : decode cX11_better 29 = .ok (.aload_n 0, 1) := by decide +kernel
theorem dX11_better_30 : decode cX11_better 30 = .ok (.getfield 60, 3) := by decide +kernel
theorem dX11_better_33 : decode cX11_better 33 = .ok (.aload_n 0, 1) := by decide +kernel
theorem dX11_better_34 : decode cX11_better 34 = .ok (.getfield 27, 3) := by decide +kernel
theorem dX11_better_37 : decode cX11_better 37 = .ok (.getfield 88, 3) := by decide +kernel
theorem dX11_better_40 : decode cX11_better 40 = .ok (.aload_n 0, 1) := by decide +kernel
theorem dX11_better_41 : decode cX11_better 41 = .ok (.getfield 27, 3) := by decide +kernel
theorem dX11_better_44 : decode cX11_better 44 = .ok (.getfield 133, 3) := by decide +kernel
theorem dX11_better_47 : decode cX11_better 47 = .ok (.iload_n 1, 1) := by decide +kernel
theorem dX11_better_48 : decode cX11_better 48 = .ok (.aaload, 1) := by decide +kernel
theorem dX11_better_49 : decode cX11_better 49 = .ok (.invokevirtual 225, 3) := by decide +kernel
theorem dX11_better_52 : decode cX11_better 52 = .ok (.istore_n 3, 1) := by decide +kernel
theorem dX11_better_53 : decode cX11_better 53 = .ok (.iload_n 3, 1) := by decide +kernel
theorem dX11_better_54 : decode cX11_better 54 = .ok (.ifCond .ne 5, 3) := by decide +kernel
theorem dX11_better_59 : decode cX11_better 59 = .ok (.aload_n 0, 1) := by decide +kernel
theorem dX11_better_60 : decode cX11_better 60 = .ok (.getfield 60, 3) := by decide +kernel
theorem dX11_better_63 : decode cX11_better 63 = .ok (.aload_n 0, 1) := by decide +kernel
theorem dX11_better_64 : decode cX11_better 64 = .ok (.getfield 27, 3) := by decide +kernel
theorem dX11_better_67 : decode cX11_better 67 = .ok (.getfield 88, 3) := by decide +kernel
theorem dX11_better_70 : decode cX11_better 70 = .ok (.aload_n 0, 1) := by decide +kernel
theorem dX11_better_71 : decode cX11_better 71 = .ok (.getfield 27, 3) := by decide +kernel
theorem dX11_better_74 : decode cX11_better 74 = .ok (.getfield 133, 3) := by decide +kernel
theorem dX11_better_77 : decode cX11_better 77 = .ok (.iload_n 1, 1) := by decide +kernel
theorem dX11_better_78 : decode cX11_better 78 = .ok (.aaload, 1) := by decide +kernel
theorem dX11_better_79 : decode cX11_better 79 = .ok (.iload_n 3, 1) := by decide +kernel
theorem dX11_better_80 : decode cX11_better 80 = .ok (.invokevirtual 228, 3) := by decide +kernel
theorem dX11_better_83 : decode cX11_better 83 = .ok (.iinc 2 1, 3) := by decide +kernel
theorem dX11_better_86 : decode cX11_better 86 = .ok (.goto (-63), 3) := by decide +kernel
theorem dX11_better_57 : decode cX11_better 57 = .ok (.iload_n 2, 1) := by decide +kernel
theorem dX11_better_58 : decode cX11_better 58 = .ok (.ireturn, 1) := by decide +kernel
theorem dX11_better_89 : decode cX11_better 89 = .ok (.bipush 50, 2) := by decide +kernel
theorem dX11_better_91 : decode cX11_better 91 = .ok (.ireturn, 1) := by decide +kernel
theorem dX11_better_18 : decode cX11_better 18 = .ok (.bipush (-5), 2) := by decide +kernel
theorem dX11_better_20 : decode cX11_better 20 = .ok (.ireturn, 1) := by decide +kernel
theorem dX11_alike_0 : decode cX11_alike 0 = .ok (.iload_n 1, 1) := by decide +kernel
theorem dX11_alike_1 : decode cX11_alike 1 = .ok (.invokestatic 122, 3) := by decide +kernel
theorem dX11_alike_4 : decode cX11_alike 4 = .ok (.ifCond .ne 6, 3) := by decide +kernel
theorem dX11_alike_7 : decode cX11_alike 7 = .ok (.bipush (-2), 2) := by decide +kernel
theorem dX11_alike_9 : decode cX11_alike 9 = .ok (.ireturn, 1) := by decide +kernel
theorem dX11_alike_10 : decode cX11_alike 10 = .ok (.iconst 0, 1) := by decide +kernel
theorem dX11_alike_11 : decode cX11_alike 11 = .ok (.istore_n 2, 1) := by decide +kernel
theorem dX11_alike_12 : decode cX11_alike 12 = .ok (.iconst 0, 1) := by decide +kernel
theorem dX11_alike_13 : decode cX11_alike 13 = .ok (.istore_n 3, 1) := by decide +kernel
theorem dX11_alike_14 : decode cX11_alike 14 = .ok (.iload_n 3, 1) := by decide +kernel
theorem dX11_alike_15 : decode cX11_alike 15 = .ok (.aload_n 0, 1) := by decide +kernel
theorem dX11_alike_16 : decode cX11_alike 16 = .ok (.getfield 27, 3) := by decide +kernel
theorem dX11_alike_19 : decode cX11_alike 19 = .ok (.getfield 88, 3) := by decide +kernel
theorem dX11_alike_22 : decode cX11_alike 22 = .ok (.getfield 232, 3) := by decide +kernel
theorem dX11_alike_25 : decode cX11_alike 25 = .ok (.getfield 236, 3) := by decide +kernel
theorem dX11_alike_28 : decode cX11_alike 28 = .ok (.if_icmp .ge 41, 3) := by decide +kernel
theorem dX11_alike_31 : decode cX11_alike 31 = .ok (.aload_n 0, 1) := by decide +kernel
theorem dX11_alike_32 : decode cX11_alike 32 = .ok (.getfield 27, 3) := by decide +kernel
theorem dX11_alike_35 : decode cX11_alike 35 = .ok (.getfield 88, 3) := by decide +kernel
theorem dX11_alike_38 : decode cX11_alike 38 = .ok (.getfield 232, 3) := by decide +kernel
theorem dX11_alike_41 : decode cX11_alike 41 = .ok (.iload_n 3, 1) := by decide +kernel
theorem dX11_alike_42 : decode cX11_alike 42 = .ok (.aload_n 0, 1) := by decide +kernel
theorem dX11_alike_43 : decode cX11_alike 43 = .ok (.getfield 27, 3) := by decide +kernel
theorem dX11_alike_46 : decode cX11_alike 46 = .ok (.getfield 133, 3) := by decide +kernel
theorem dX11_alike_49 : decode cX11_alike 49 = .ok (.iload_n 1, 1) := by decide +kernel
theorem dX11_alike_50 : decode cX11_alike 50 = .ok (.aaload, 1) := by decide +kernel
theorem dX11_alike_51 : decode cX11_alike 51 = .ok (.invokevirtual 239, 3) := by decide +kernel
theorem dX11_alike_54 : decode cX11_alike 54 = .ok (.ifCond .ne 9, 3) := by decide +kernel
theorem dX11_alike_63 : decode cX11_alike 63 = .ok (.iinc 3 1, 3) := by decide +kernel
theorem dX11_alike_66 : decode cX11_alike 66 = .ok (.goto (-52), 3) := by decide +kernel
theorem dX11_alike_57 : decode cX11_alike 57 = .ok (.iload_n 2, 1) := by decide +kernel
theorem dX11_alike_58 : decode cX11_alike 58 = .ok (.iconst 1, 1) := by decide +kernel
theorem dX11_alike_59 : decode cX11_alike 59 = .ok (.iload_n 3, 1) := by decide +kernel
theorem dX11_alike_60 : decode cX11_alike 60 = .ok (.ishl, 1) := by decide +kernel
theorem dX11_alike_61 : decode cX11_alike 61 = .ok (.ior, 1) := by decide +kernel
theorem dX11_alike_62 : decode cX11_alike 62 = .ok (.istore_n 2, 1) := by decide +kernel
theorem dX11_alike_69 : decode cX11_alike 69 = .ok (.iload_n 2, 1) := by decide +kernel
theorem dX11_alike_70 : decode cX11_alike 70 = .ok (.ireturn, 1) := by decide +kernel
theorem dX11_known_0 : decode cX11_known 0 = .ok (.iload_n 1, 1) := by decide +kernel
theorem dX11_known_1 : decode cX11_known 1 = .ok (.invokestatic 122, 3) := by decide +kernel
theorem dX11_known_4 : decode cX11_known 4 = .ok (.ifCond .ne 6, 3) := by decide +kernel
theorem dX11_known_7 : decode cX11_known 7 = .ok (.bipush (-2), 2) := by decide +kernel
theorem dX11_known_9 : decode cX11_known 9 = .ok (.ireturn, 1) := by decide +kernel
theorem dX11_known_10 : decode cX11_known 10 = .ok (.aload_n 0, 1) := by decide +kernel
theorem dX11_known_11 : decode cX11_known 11 = .ok (.getfield 27, 3) := by decide +kernel
theorem dX11_known_14 : decode cX11_known 14 = .ok (.getfield 88, 3) := by decide +kernel
theorem dX11_known_17 : decode cX11_known 17 = .ok (.getfield 243, 3) := by decide +kernel
theorem dX11_known_20 : decode cX11_known 20 = .ok (.ifCond .ne 8, 3) := by decide +kernel
theorem dX11_known_28 : decode cX11_known 28 = .ok (.aload_n 0, 1) := by decide +kernel
theorem dX11_known_29 : decode cX11_known 29 = .ok (.getfield 27, 3) := by decide +kernel
theorem dX11_known_32 : decode cX11_known 32 = .ok (.getfield 88, 3) := by decide +kernel
theorem dX11_known_35 : decode cX11_known 35 = .ok (.aload_n 0, 1) := by decide +kernel
theorem dX11_known_36 : decode cX11_known 36 = .ok (.getfield 27, 3) := by decide +kernel
theorem dX11_known_39 : decode cX11_known 39 = .ok (.getfield 133, 3) := by decide +kernel
theorem dX11_known_42 : decode cX11_known 42 = .ok (.iload_n 1, 1) := by decide +kernel
theorem dX11_known_43 : decode cX11_known 43 = .ok (.aaload, 1) := by decide +kernel
theorem dX11_known_44 : decode cX11_known 44 = .ok (.invokevirtual 246, 3) := by decide +kernel
theorem dX11_known_47 : decode cX11_known 47 = .ok (.ireturn, 1) := by decide +kernel
theorem dX11_known_23 : decode cX11_known 23 = .ok (.bipush (-6), 2) := by decide +kernel
theorem dX11_known_25 : decode cX11_known 25 = .ok (.goto 22, 3) := by decide +kernel
theorem dX11_ring_0 : decode cX11_ring 0 = .ok (.iload_n 1, 1) := by decide +kernel
theorem dX11_ring_1 : decode cX11_ring 1 = .ok (.invokestatic 122, 3) := by decide +kernel
theorem dX11_ring_4 : decode cX11_ring 4 = .ok (.ifCond .eq 11, 3) := by decide +kernel
theorem dX11_ring_15 : decode cX11_ring 15 = .ok (.bipush (-2), 2) := by decide +kernel
theorem dX11_ring_17 : decode cX11_ring 17 = .ok (.ireturn, 1) := by decide +kernel
theorem dX11_ring_7 : decode cX11_ring 7 = .ok (.aload_n 0, 1) := by decide +kernel
theorem dX11_ring_8 : decode cX11_ring 8 = .ok (.iload_n 2, 1) := by decide +kernel
theorem dX11_ring_9 : decode cX11_ring 9 = .ok (.invokevirtual 126, 3) := by decide +kernel
theorem dX11_ring_12 : decode cX11_ring 12 = .ok (.ifCond .ne 6, 3) := by decide +kernel
theorem dX11_ring_18 : decode cX11_ring 18 = .ok (.aload_n 0, 1) := by decide +kernel
theorem dX11_ring_19 : decode cX11_ring 19 = .ok (.getfield 44, 3) := by decide +kernel
theorem dX11_ring_22 : decode cX11_ring 22 = .ok (.aload_n 0, 1) := by decide +kernel
theorem dX11_ring_23 : decode cX11_ring 23 = .ok (.getfield 27, 3) := by decide +kernel
theorem dX11_ring_26 : decode cX11_ring 26 = .ok (.getfield 88, 3) := by decide +kernel
theorem dX11_ring_29 : decode cX11_ring 29 = .ok (.aload_n 0, 1) := by decide +kernel
theorem dX11_ring_30 : decode cX11_ring 30 = .ok (.getfield 27, 3) := by decide +kernel
theorem dX11_ring_33 : decode cX11_ring 33 = .ok (.getfield 133, 3) := by decide +kernel
theorem dX11_ring_36 : decode cX11_ring 36 = .ok (.iload_n 1, 1) := by decide +kernel
theorem dX11_ring_37 : decode cX11_ring 37 = .ok (.aaload, 1) := by decide +kernel
theorem dX11_ring_38 : decode cX11_ring 38 = .ok (.iload_n 2, 1) := by decide +kernel
theorem dX11_ring_39 : decode cX11_ring 39 = .ok (.invokevirtual 250, 3) := by decide +kernel
theorem dX11_ring_42 : decode cX11_ring 42 = .ok (.invokestatic 198, 3) := by decide +kernel
theorem dX11_ring_45 : decode cX11_ring 45 = .ok (.ireturn, 1) := by decide +kernel
theorem dX11_ended_0 : decode cX11_ended 0 = .ok (.iload_n 1, 1) := by decide +kernel
theorem dX11_ended_1 : decode cX11_ended 1 = .ok (.invokestatic 122, 3) := by decide +kernel
theorem dX11_ended_4 : decode cX11_ended 4 = .ok (.ifCond .ne 6, 3) := by decide +kernel
theorem dX11_ended_7 : decode cX11_ended 7 = .ok (.bipush (-2), 2) := by decide +kernel
theorem dX11_ended_9 : decode cX11_ended 9 = .ok (.ireturn, 1) := by decide +kernel
theorem dX11_ended_10 : decode cX11_ended 10 = .ok (.aload_n 0, 1) := by decide +kernel
theorem dX11_ended_11 : decode cX11_ended 11 = .ok (.iload_n 1, 1) := by decide +kernel
theorem dX11_ended_12 : decode cX11_ended 12 = .ok (.invokevirtual 222, 3) := by decide +kernel
theorem dX11_ended_15 : decode cX11_ended 15 = .ok (.ifCond .ne 6, 3) := by decide +kernel
theorem dX11_ended_21 : decode cX11_ended 21 = .ok (.aload_n 0, 1) := by decide +kernel
theorem dX11_ended_22 : decode cX11_ended 22 = .ok (.getfield 60, 3) := by decide +kernel
theorem dX11_ended_25 : decode cX11_ended 25 = .ok (.aload_n 0, 1) := by decide +kernel
theorem dX11_ended_26 : decode cX11_ended 26 = .ok (.getfield 27, 3) := by decide +kernel
theorem dX11_ended_29 : decode cX11_ended 29 = .ok (.getfield 88, 3) := by decide +kernel
theorem dX11_ended_32 : decode cX11_ended 32 = .ok (.aload_n 0, 1) := by decide +kernel
theorem dX11_ended_33 : decode cX11_ended 33 = .ok (.getfield 27, 3) := by decide +kernel
theorem dX11_ended_36 : decode cX11_ended 36 = .ok (.getfield 133, 3) := by decide +kernel
theorem dX11_ended_39 : decode cX11_ended 39 = .ok (.iload_n 1, 1) := by decide +kernel
theorem dX11_ended_40 : decode cX11_ended 40 = .ok (.aaload, 1) := by decide +kernel
theorem dX11_ended_41 : decode cX11_ended 41 = .ok (.invokevirtual 225, 3) := by decide +kernel
theorem dX11_ended_44 : decode cX11_ended 44 = .ok (.ifCond .ne 7, 3) := by decide +kernel
theorem dX11_ended_51 : decode cX11_ended 51 = .ok (.iconst 0, 1) := by decide +kernel
theorem dX11_ended_52 : decode cX11_ended 52 = .ok (.ireturn, 1) := by decide +kernel
theorem dX11_ended_47 : decode cX11_ended 47 = .ok (.iconst 1, 1) := by decide +kernel
theorem dX11_ended_48 : decode cX11_ended 48 = .ok (.goto 4, 3) := by decide +kernel
theorem dX11_ended_18 : decode cX11_ended 18 = .ok (.bipush (-5), 2) := by decide +kernel
theorem dX11_ended_20 : decode cX11_ended 20 = .ok (.ireturn, 1) := by decide +kernel
theorem dX11_pair_0 : decode cX11_pair 0 = .ok (.iload_n 1, 1) := by decide +kernel
theorem dX11_pair_1 : decode cX11_pair 1 = .ok (.invokestatic 122, 3) := by decide +kernel
theorem dX11_pair_4 : decode cX11_pair 4 = .ok (.ifCond .ne 6, 3) := by decide +kernel
theorem dX11_pair_7 : decode cX11_pair 7 = .ok (.bipush (-2), 2) := by decide +kernel
theorem dX11_pair_9 : decode cX11_pair 9 = .ok (.ireturn, 1) := by decide +kernel
theorem dX11_pair_10 : decode cX11_pair 10 = .ok (.aload_n 0, 1) := by decide +kernel
theorem dX11_pair_11 : decode cX11_pair 11 = .ok (.getfield 44, 3) := by decide +kernel
theorem dX11_pair_14 : decode cX11_pair 14 = .ok (.aload_n 0, 1) := by decide +kernel
theorem dX11_pair_15 : decode cX11_pair 15 = .ok (.getfield 27, 3) := by decide +kernel
theorem dX11_pair_18 : decode cX11_pair 18 = .ok (.getfield 88, 3) := by decide +kernel
theorem dX11_pair_21 : decode cX11_pair 21 = .ok (.aload_n 0, 1) := by decide +kernel
theorem dX11_pair_22 : decode cX11_pair 22 = .ok (.getfield 27, 3) := by decide +kernel
theorem dX11_pair_25 : decode cX11_pair 25 = .ok (.getfield 133, 3) := by decide +kernel
theorem dX11_pair_28 : decode cX11_pair 28 = .ok (.iload_n 1, 1) := by decide +kernel
theorem dX11_pair_29 : decode cX11_pair 29 = .ok (.aaload, 1) := by decide +kernel
theorem dX11_pair_30 : decode cX11_pair 30 = .ok (.invokevirtual 160, 3) := by decide +kernel
theorem dX11_pair_33 : decode cX11_pair 33 = .ok (.ifCond .ne 5, 3) := by decide +kernel
theorem dX11_pair_38 : decode cX11_pair 38 = .ok (.aload_n 0, 1) := by decide +kernel
theorem dX11_pair_39 : decode cX11_pair 39 = .ok (.getfield 44, 3) := by decide +kernel
theorem dX11_pair_42 : decode cX11_pair 42 = .ok (.aload_n 0, 1) := by decide +kernel
theorem dX11_pair_43 : decode cX11_pair 43 = .ok (.getfield 27, 3) := by decide +kernel
theorem dX11_pair_46 : decode cX11_pair 46 = .ok (.getfield 88, 3) := by decide +kernel
theorem dX11_pair_49 : decode cX11_pair 49 = .ok (.aload_n 0, 1) := by decide +kernel
theorem dX11_pair_50 : decode cX11_pair 50 = .ok (.getfield 27, 3) := by decide +kernel
theorem dX11_pair_53 : decode cX11_pair 53 = .ok (.getfield 133, 3) := by decide +kernel
theorem dX11_pair_56 : decode cX11_pair 56 = .ok (.iload_n 1, 1) := by decide +kernel
theorem dX11_pair_57 : decode cX11_pair 57 = .ok (.aaload, 1) := by decide +kernel
theorem dX11_pair_58 : decode cX11_pair 58 = .ok (.aload_n 0, 1) := by decide +kernel
theorem dX11_pair_59 : decode cX11_pair 59 = .ok (.getfield 44, 3) := by decide +kernel
theorem dX11_pair_62 : decode cX11_pair 62 = .ok (.getfield 253, 3) := by decide +kernel
theorem dX11_pair_65 : decode cX11_pair 65 = .ok (.invokevirtual 256, 3) := by decide +kernel
theorem dX11_pair_68 : decode cX11_pair 68 = .ok (.iconst (-1), 1) := by decide +kernel
theorem dX11_pair_69 : decode cX11_pair 69 = .ok (.istore_n 2, 1) := by decide +kernel
theorem dX11_pair_70 : decode cX11_pair 70 = .ok (.iconst 0, 1) := by decide +kernel
theorem dX11_pair_71 : decode cX11_pair 71 = .ok (.istore_n 3, 1) := by decide +kernel
theorem dX11_pair_72 : decode cX11_pair 72 = .ok (.iload_n 3, 1) := by decide +kernel
theorem dX11_pair_73 : decode cX11_pair 73 = .ok (.aload_n 0, 1) := by decide +kernel
theorem dX11_pair_74 : decode cX11_pair 74 = .ok (.getfield 27, 3) := by decide +kernel
theorem dX11_pair_77 : decode cX11_pair 77 = .ok (.getfield 88, 3) := by decide +kernel
theorem dX11_pair_80 : decode cX11_pair 80 = .ok (.getfield 175, 3) := by decide +kernel
theorem dX11_pair_83 : decode cX11_pair 83 = .ok (.if_icmp .ge 94, 3) := by decide +kernel
theorem dX11_pair_86 : decode cX11_pair 86 = .ok (.iconst 0, 1) := by decide +kernel
theorem dX11_pair_87 : decode cX11_pair 87 = .ok (.istore 4, 2) := by decide +kernel
theorem dX11_pair_89 : decode cX11_pair 89 = .ok (.iload 4, 2) := by decide +kernel
theorem dX11_pair_91 : decode cX11_pair 91 = .ok (.aload_n 0, 1) := by decide +kernel
theorem dX11_pair_92 : decode cX11_pair 92 = .ok (.getfield 27, 3) := by decide +kernel
theorem dX11_pair_95 : decode cX11_pair 95 = .ok (.getfield 88, 3) := by decide +kernel
theorem dX11_pair_98 : decode cX11_pair 98 = .ok (.getfield 175, 3) := by decide +kernel
theorem dX11_pair_101 : decode cX11_pair 101 = .ok (.if_icmp .ge 70, 3) := by decide +kernel
theorem dX11_pair_104 : decode cX11_pair 104 = .ok (.iload_n 3, 1) := by decide +kernel
theorem dX11_pair_105 : decode cX11_pair 105 = .ok (.bipush 16, 2) := by decide +kernel
theorem dX11_pair_107 : decode cX11_pair 107 = .ok (.imul, 1) := by decide +kernel
theorem dX11_pair_108 : decode cX11_pair 108 = .ok (.iload 4, 2) := by decide +kernel
theorem dX11_pair_110 : decode cX11_pair 110 = .ok (.iadd, 1) := by decide +kernel
theorem dX11_pair_111 : decode cX11_pair 111 = .ok (.istore 5, 2) := by decide +kernel
theorem dX11_pair_113 : decode cX11_pair 113 = .ok (.aload_n 0, 1) := by decide +kernel
theorem dX11_pair_114 : decode cX11_pair 114 = .ok (.getfield 44, 3) := by decide +kernel
theorem dX11_pair_117 : decode cX11_pair 117 = .ok (.getfield 253, 3) := by decide +kernel
theorem dX11_pair_120 : decode cX11_pair 120 = .ok (.iload 5, 2) := by decide +kernel
theorem dX11_pair_122 : decode cX11_pair 122 = .ok (.iaload, 1) := by decide +kernel
theorem dX11_pair_123 : decode cX11_pair 123 = .ok (.aload_n 0, 1) := by decide +kernel
theorem dX11_pair_124 : decode cX11_pair 124 = .ok (.getfield 27, 3) := by decide +kernel
theorem dX11_pair_127 : decode cX11_pair 127 = .ok (.getfield 88, 3) := by decide +kernel
theorem dX11_pair_130 : decode cX11_pair 130 = .ok (.getfield 260, 3) := by decide +kernel
theorem dX11_pair_133 : decode cX11_pair 133 = .ok (.iload 5, 2) := by decide +kernel
theorem dX11_pair_135 : decode cX11_pair 135 = .ok (.iaload, 1) := by decide +kernel
theorem dX11_pair_136 : decode cX11_pair 136 = .ok (.isub, 1) := by decide +kernel
theorem dX11_pair_137 : decode cX11_pair 137 = .ok (.istore 6, 2) := by decide +kernel
theorem dX11_pair_139 : decode cX11_pair 139 = .ok (.iload_n 3, 1) := by decide +kernel
theorem dX11_pair_140 : decode cX11_pair 140 = .ok (.iload 4, 2) := by decide +kernel
theorem dX11_pair_142 : decode cX11_pair 142 = .ok (.if_icmp .eq 23, 3) := by decide +kernel
theorem dX11_pair_165 : decode cX11_pair 165 = .ok (.iinc 4 1, 3) := by decide +kernel
theorem dX11_pair_168 : decode cX11_pair 168 = .ok (.goto (-79), 3) := by decide +kernel
theorem dX11_pair_145 : decode cX11_pair 145 = .ok (.iload 6, 2) := by decide +kernel
theorem dX11_pair_147 : decode cX11_pair 147 = .ok (.iload_n 2, 1) := by decide +kernel
theorem dX11_pair_148 : decode cX11_pair 148 = .ok (.if_icmp .le 17, 3) := by decide +kernel
theorem dX11_pair_151 : decode cX11_pair 151 = .ok (.iload 6, 2) := by decide +kernel
theorem dX11_pair_153 : decode cX11_pair 153 = .ok (.istore_n 2, 1) := by decide +kernel
theorem dX11_pair_154 : decode cX11_pair 154 = .ok (.aload_n 0, 1) := by decide +kernel
theorem dX11_pair_155 : decode cX11_pair 155 = .ok (.iload_n 3, 1) := by decide +kernel
theorem dX11_pair_156 : decode cX11_pair 156 = .ok (.putfield 75, 3) := by decide +kernel
theorem dX11_pair_159 : decode cX11_pair 159 = .ok (.aload_n 0, 1) := by decide +kernel
theorem dX11_pair_160 : decode cX11_pair 160 = .ok (.iload 4, 2) := by decide +kernel
theorem dX11_pair_162 : decode cX11_pair 162 = .ok (.putfield 78, 3) := by decide +kernel
theorem dX11_pair_171 : decode cX11_pair 171 = .ok (.iinc 3 1, 3) := by decide +kernel
theorem dX11_pair_174 : decode cX11_pair 174 = .ok (.goto (-102), 3) := by decide +kernel
theorem dX11_pair_177 : decode cX11_pair 177 = .ok (.iload_n 2, 1) := by decide +kernel
theorem dX11_pair_178 : decode cX11_pair 178 = .ok (.ireturn, 1) := by decide +kernel
theorem dX11_pair_36 : decode cX11_pair 36 = .ok (.iconst (-1), 1) := by decide +kernel
theorem dX11_pair_37 : decode cX11_pair 37 = .ok (.ireturn, 1) := by decide +kernel
theorem dX11_paired_0 : decode cX11_paired 0 = .ok (.iload_n 1, 1) := by decide +kernel
theorem dX11_paired_1 : decode cX11_paired 1 = .ok (.ifCond .ne 8, 3) := by decide +kernel
theorem dX11_paired_9 : decode cX11_paired 9 = .ok (.iload_n 1, 1) := by decide +kernel
theorem dX11_paired_10 : decode cX11_paired 10 = .ok (.iconst 1, 1) := by decide +kernel
theorem dX11_paired_11 : decode cX11_paired 11 = .ok (.if_icmp .ne 10, 3) := by decide +kernel
theorem dX11_paired_21 : decode cX11_paired 21 = .ok (.iconst (-1), 1) := by decide +kernel
theorem dX11_paired_22 : decode cX11_paired 22 = .ok (.ireturn, 1) := by decide +kernel
theorem dX11_paired_14 : decode cX11_paired 14 = .ok (.aload_n 0, 1) := by decide +kernel
theorem dX11_paired_15 : decode cX11_paired 15 = .ok (.getfield 78, 3) := by decide +kernel
theorem dX11_paired_18 : decode cX11_paired 18 = .ok (.goto 4, 3) := by decide +kernel
theorem dX11_paired_4 : decode cX11_paired 4 = .ok (.aload_n 0, 1) := by decide +kernel
theorem dX11_paired_5 : decode cX11_paired 5 = .ok (.getfield 75, 3) := by decide +kernel
theorem dX11_paired_8 : decode cX11_paired 8 = .ok (.ireturn, 1) := by decide +kernel
theorem dX11_total_0 : decode cX11_total 0 = .ok (.iload_n 1, 1) := by decide +kernel
theorem dX11_total_1 : decode cX11_total 1 = .ok (.invokestatic 122, 3) := by decide +kernel
theorem dX11_total_4 : decode cX11_total 4 = .ok (.ifCond .eq 12, 3) := by decide +kernel
theorem dX11_total_16 : decode cX11_total 16 = .ok (.bipush (-2), 2) := by decide +kernel
theorem dX11_total_18 : decode cX11_total 18 = .ok (.ireturn, 1) := by decide +kernel
theorem dX11_total_7 : decode cX11_total 7 = .ok (.iload_n 2, 1) := by decide +kernel
theorem dX11_total_8 : decode cX11_total 8 = .ok (.ifCond .lt 8, 3) := by decide +kernel
theorem dX11_total_11 : decode cX11_total 11 = .ok (.iload_n 2, 1) := by decide +kernel
theorem dX11_total_12 : decode cX11_total 12 = .ok (.iconst 1, 1) := by decide +kernel
theorem dX11_total_13 : decode cX11_total 13 = .ok (.if_icmp .le 6, 3) := by decide +kernel
theorem dX11_total_19 : decode cX11_total 19 = .ok (.aload_n 0, 1) := by decide +kernel
theorem dX11_total_20 : decode cX11_total 20 = .ok (.getfield 44, 3) := by decide +kernel
theorem dX11_total_23 : decode cX11_total 23 = .ok (.aload_n 0, 1) := by decide +kernel
theorem dX11_total_24 : decode cX11_total 24 = .ok (.getfield 27, 3) := by decide +kernel
theorem dX11_total_27 : decode cX11_total 27 = .ok (.getfield 88, 3) := by decide +kernel
theorem dX11_total_30 : decode cX11_total 30 = .ok (.aload_n 0, 1) := by decide +kernel
theorem dX11_total_31 : decode cX11_total 31 = .ok (.getfield 27, 3) := by decide +kernel
theorem dX11_total_34 : decode cX11_total 34 = .ok (.getfield 133, 3) := by decide +kernel
theorem dX11_total_37 : decode cX11_total 37 = .ok (.iload_n 1, 1) := by decide +kernel
theorem dX11_total_38 : decode cX11_total 38 = .ok (.aaload, 1) := by decide +kernel
theorem dX11_total_39 : decode cX11_total 39 = .ok (.invokevirtual 160, 3) := by decide +kernel
theorem dX11_total_42 : decode cX11_total 42 = .ok (.ifCond .ne 5, 3) := by decide +kernel
theorem dX11_total_47 : decode cX11_total 47 = .ok (.aload_n 0, 1) := by decide +kernel
theorem dX11_total_48 : decode cX11_total 48 = .ok (.getfield 44, 3) := by decide +kernel
theorem dX11_total_51 : decode cX11_total 51 = .ok (.aload_n 0, 1) := by decide +kernel
theorem dX11_total_52 : decode cX11_total 52 = .ok (.getfield 27, 3) := by decide +kernel
theorem dX11_total_55 : decode cX11_total 55 = .ok (.getfield 88, 3) := by decide +kernel
theorem dX11_total_58 : decode cX11_total 58 = .ok (.aload_n 0, 1) := by decide +kernel
theorem dX11_total_59 : decode cX11_total 59 = .ok (.getfield 27, 3) := by decide +kernel
theorem dX11_total_62 : decode cX11_total 62 = .ok (.getfield 133, 3) := by decide +kernel
theorem dX11_total_65 : decode cX11_total 65 = .ok (.iload_n 1, 1) := by decide +kernel
theorem dX11_total_66 : decode cX11_total 66 = .ok (.aaload, 1) := by decide +kernel
theorem dX11_total_67 : decode cX11_total 67 = .ok (.aload_n 0, 1) := by decide +kernel
theorem dX11_total_68 : decode cX11_total 68 = .ok (.getfield 44, 3) := by decide +kernel
theorem dX11_total_71 : decode cX11_total 71 = .ok (.getfield 253, 3) := by decide +kernel
theorem dX11_total_74 : decode cX11_total 74 = .ok (.invokevirtual 256, 3) := by decide +kernel
theorem dX11_total_77 : decode cX11_total 77 = .ok (.iconst 0, 1) := by decide +kernel
theorem dX11_total_78 : decode cX11_total 78 = .ok (.istore_n 3, 1) := by decide +kernel
theorem dX11_total_79 : decode cX11_total 79 = .ok (.iconst 0, 1) := by decide +kernel
theorem dX11_total_80 : decode cX11_total 80 = .ok (.istore 4, 2) := by decide +kernel
theorem dX11_total_82 : decode cX11_total 82 = .ok (.iconst 0, 1) := by decide +kernel
theorem dX11_total_83 : decode cX11_total 83 = .ok (.istore 5, 2) := by decide +kernel
theorem dX11_total_85 : decode cX11_total 85 = .ok (.iload 5, 2) := by decide +kernel
theorem dX11_total_87 : decode cX11_total 87 = .ok (.aload_n 0, 1) := by decide +kernel
theorem dX11_total_88 : decode cX11_total 88 = .ok (.getfield 27, 3) := by decide +kernel
theorem dX11_total_91 : decode cX11_total 91 = .ok (.getfield 88, 3) := by decide +kernel
theorem dX11_total_94 : decode cX11_total 94 = .ok (.getfield 175, 3) := by decide +kernel
theorem dX11_total_97 : decode cX11_total 97 = .ok (.if_icmp .ge 65, 3) := by decide +kernel
theorem dX11_total_100 : decode cX11_total 100 = .ok (.iconst 0, 1) := by decide +kernel
theorem dX11_total_101 : decode cX11_total 101 = .ok (.istore 6, 2) := by decide +kernel
theorem dX11_total_103 : decode cX11_total 103 = .ok (.iload 6, 2) := by decide +kernel
theorem dX11_total_105 : decode cX11_total 105 = .ok (.aload_n 0, 1) := by decide +kernel
theorem dX11_total_106 : decode cX11_total 106 = .ok (.getfield 27, 3) := by decide +kernel
theorem dX11_total_109 : decode cX11_total 109 = .ok (.getfield 88, 3) := by decide +kernel
theorem dX11_total_112 : decode cX11_total 112 = .ok (.getfield 175, 3) := by decide +kernel
theorem dX11_total_115 : decode cX11_total 115 = .ok (.if_icmp .ge 41, 3) := by decide +kernel
theorem dX11_total_118 : decode cX11_total 118 = .ok (.aload_n 0, 1) := by decide +kernel
theorem dX11_total_119 : decode cX11_total 119 = .ok (.getfield 44, 3) := by decide +kernel
theorem dX11_total_122 : decode cX11_total 122 = .ok (.getfield 253, 3) := by decide +kernel
theorem dX11_total_125 : decode cX11_total 125 = .ok (.iload 5, 2) := by decide +kernel
theorem dX11_total_127 : decode cX11_total 127 = .ok (.bipush 16, 2) := by decide +kernel
theorem dX11_total_129 : decode cX11_total 129 = .ok (.imul, 1) := by decide +kernel
theorem dX11_total_130 : decode cX11_total 130 = .ok (.iload 6, 2) := by decide +kernel
theorem dX11_total_132 : decode cX11_total 132 = .ok (.iadd, 1) := by decide +kernel
theorem dX11_total_133 : decode cX11_total 133 = .ok (.iaload, 1) := by decide +kernel
theorem dX11_total_134 : decode cX11_total 134 = .ok (.istore 7, 2) := by decide +kernel
theorem dX11_total_136 : decode cX11_total 136 = .ok (.iload_n 3, 1) := by decide +kernel
theorem dX11_total_137 : decode cX11_total 137 = .ok (.iload 7, 2) := by decide +kernel
theorem dX11_total_139 : decode cX11_total 139 = .ok (.iadd, 1) := by decide +kernel
theorem dX11_total_140 : decode cX11_total 140 = .ok (.istore_n 3, 1) := by decide +kernel
theorem dX11_total_141 : decode cX11_total 141 = .ok (.iload 4, 2) := by decide +kernel
theorem dX11_total_143 : decode cX11_total 143 = .ok (.iload 7, 2) := by decide +kernel
theorem dX11_total_145 : decode cX11_total 145 = .ok (.invokestatic 263, 3) := by decide +kernel
theorem dX11_total_148 : decode cX11_total 148 = .ok (.istore 4, 2) := by decide +kernel
theorem dX11_total_150 : decode cX11_total 150 = .ok (.iinc 6 1, 3) := by decide +kernel
theorem dX11_total_153 : decode cX11_total 153 = .ok (.goto (-50), 3) := by decide +kernel
theorem dX11_total_156 : decode cX11_total 156 = .ok (.iinc 5 1, 3) := by decide +kernel
theorem dX11_total_159 : decode cX11_total 159 = .ok (.goto (-74), 3) := by decide +kernel
theorem dX11_total_162 : decode cX11_total 162 = .ok (.iload_n 2, 1) := by decide +kernel
theorem dX11_total_163 : decode cX11_total 163 = .ok (.ifCond .ne 7, 3) := by decide +kernel
theorem dX11_total_170 : decode cX11_total 170 = .ok (.iload 4, 2) := by decide +kernel
theorem dX11_total_172 : decode cX11_total 172 = .ok (.ireturn, 1) := by decide +kernel
theorem dX11_total_166 : decode cX11_total 166 = .ok (.iload_n 3, 1) := by decide +kernel
theorem dX11_total_167 : decode cX11_total 167 = .ok (.goto 5, 3) := by decide +kernel
theorem dX11_total_45 : decode cX11_total 45 = .ok (.iconst (-1), 1) := by decide +kernel
theorem dX11_total_46 : decode cX11_total 46 = .ok (.ireturn, 1) := by decide +kernel
theorem dX11_isCoin_0 : decode cX11_isCoin 0 = .ok (.iload_n 0, 1) := by decide +kernel
theorem dX11_isCoin_1 : decode cX11_isCoin 1 = .ok (.ifCond .lt 14, 3) := by decide +kernel
theorem dX11_isCoin_15 : decode cX11_isCoin 15 = .ok (.iconst 0, 1) := by decide +kernel
theorem dX11_isCoin_16 : decode cX11_isCoin 16 = .ok (.ireturn, 1) := by decide +kernel
theorem dX11_isCoin_4 : decode cX11_isCoin 4 = .ok (.iload_n 0, 1) := by decide +kernel
theorem dX11_isCoin_5 : decode cX11_isCoin 5 = .ok (.sipush 9999, 3) := by decide +kernel
theorem dX11_isCoin_8 : decode cX11_isCoin 8 = .ok (.if_icmp .gt 7, 3) := by decide +kernel
theorem dX11_isCoin_11 : decode cX11_isCoin 11 = .ok (.iconst 1, 1) := by decide +kernel
theorem dX11_isCoin_12 : decode cX11_isCoin 12 = .ok (.goto 4, 3) := by decide +kernel
theorem dX11_coin_0 : decode cX11_coin 0 = .ok (.iload_n 1, 1) := by decide +kernel
theorem dX11_coin_1 : decode cX11_coin 1 = .ok (.invokestatic 122, 3) := by decide +kernel
theorem dX11_coin_4 : decode cX11_coin 4 = .ok (.ifCond .eq 10, 3) := by decide +kernel
theorem dX11_coin_14 : decode cX11_coin 14 = .ok (.bipush (-2), 2) := by decide +kernel
theorem dX11_coin_16 : decode cX11_coin 16 = .ok (.ireturn, 1) := by decide +kernel
theorem dX11_coin_7 : decode cX11_coin 7 = .ok (.iload_n 2, 1) := by decide +kernel
theorem dX11_coin_8 : decode cX11_coin 8 = .ok (.invokestatic 266, 3) := by decide +kernel
theorem dX11_coin_11 : decode cX11_coin 11 = .ok (.ifCond .ne 6, 3) := by decide +kernel
theorem dX11_coin_17 : decode cX11_coin 17 = .ok (.aload_n 0, 1) := by decide +kernel
theorem dX11_coin_18 : decode cX11_coin 18 = .ok (.iload_n 1, 1) := by decide +kernel
theorem dX11_coin_19 : decode cX11_coin 19 = .ok (.invokevirtual 222, 3) := by decide +kernel
theorem dX11_coin_22 : decode cX11_coin 22 = .ok (.ifCond .eq 30, 3) := by decide +kernel
theorem dX11_coin_52 : decode cX11_coin 52 = .ok (.bipush (-5), 2) := by decide +kernel
theorem dX11_coin_54 : decode cX11_coin 54 = .ok (.ireturn, 1) := by decide +kernel
theorem dX11_coin_25 : decode cX11_coin 25 = .ok (.aload_n 0, 1) := by decide +kernel
theorem dX11_coin_26 : decode cX11_coin 26 = .ok (.getfield 67, 3) := by decide +kernel
theorem dX11_coin_29 : decode cX11_coin 29 = .ok (.aload_n 0, 1) := by decide +kernel
theorem dX11_coin_30 : decode cX11_coin 30 = .ok (.getfield 27, 3) := by decide +kernel
theorem dX11_coin_33 : decode cX11_coin 33 = .ok (.getfield 88, 3) := by decide +kernel
theorem dX11_coin_36 : decode cX11_coin 36 = .ok (.aload_n 0, 1) := by decide +kernel
theorem dX11_coin_37 : decode cX11_coin 37 = .ok (.getfield 27, 3) := by decide +kernel
theorem dX11_coin_40 : decode cX11_coin 40 = .ok (.getfield 133, 3) := by decide +kernel
theorem dX11_coin_43 : decode cX11_coin 43 = .ok (.iload_n 1, 1) := by decide +kernel
theorem dX11_coin_44 : decode cX11_coin 44 = .ok (.aaload, 1) := by decide +kernel
theorem dX11_coin_45 : decode cX11_coin 45 = .ok (.iload_n 2, 1) := by decide +kernel
theorem dX11_coin_46 : decode cX11_coin 46 = .ok (.invokevirtual 269, 3) := by decide +kernel
theorem dX11_coin_49 : decode cX11_coin 49 = .ok (.goto 5, 3) := by decide +kernel
theorem dX11_next_0 : decode cX11_next 0 = .ok (.iload_n 1, 1) := by decide +kernel
theorem dX11_next_1 : decode cX11_next 1 = .ok (.invokestatic 122, 3) := by decide +kernel
theorem dX11_next_4 : decode cX11_next 4 = .ok (.ifCond .eq 10, 3) := by decide +kernel
theorem dX11_next_14 : decode cX11_next 14 = .ok (.bipush (-2), 2) := by decide +kernel
theorem dX11_next_16 : decode cX11_next 16 = .ok (.ireturn, 1) := by decide +kernel
theorem dX11_next_7 : decode cX11_next 7 = .ok (.iload_n 2, 1) := by decide +kernel
theorem dX11_next_8 : decode cX11_next 8 = .ok (.invokestatic 266, 3) := by decide +kernel
theorem dX11_next_11 : decode cX11_next 11 = .ok (.ifCond .ne 6, 3) := by decide +kernel
theorem dX11_next_17 : decode cX11_next 17 = .ok (.aload_n 0, 1) := by decide +kernel
theorem dX11_next_18 : decode cX11_next 18 = .ok (.iload_n 1, 1) := by decide +kernel
theorem dX11_next_19 : decode cX11_next 19 = .ok (.invokevirtual 222, 3) := by decide +kernel
theorem dX11_next_22 : decode cX11_next 22 = .ok (.ifCond .eq 30, 3) := by decide +kernel
theorem dX11_next_52 : decode cX11_next 52 = .ok (.bipush (-5), 2) := by decide +kernel
theorem dX11_next_54 : decode cX11_next 54 = .ok (.ireturn, 1) := by decide +kernel
theorem dX11_next_25 : decode cX11_next 25 = .ok (.aload_n 0, 1) := by decide +kernel
theorem dX11_next_26 : decode cX11_next 26 = .ok (.getfield 67, 3) := by decide +kernel
theorem dX11_next_29 : decode cX11_next 29 = .ok (.aload_n 0, 1) := by decide +kernel
theorem dX11_next_30 : decode cX11_next 30 = .ok (.getfield 27, 3) := by decide +kernel
theorem dX11_next_33 : decode cX11_next 33 = .ok (.getfield 88, 3) := by decide +kernel
theorem dX11_next_36 : decode cX11_next 36 = .ok (.aload_n 0, 1) := by decide +kernel
theorem dX11_next_37 : decode cX11_next 37 = .ok (.getfield 27, 3) := by decide +kernel
theorem dX11_next_40 : decode cX11_next 40 = .ok (.getfield 133, 3) := by decide +kernel
theorem dX11_next_43 : decode cX11_next 43 = .ok (.iload_n 1, 1) := by decide +kernel
theorem dX11_next_44 : decode cX11_next 44 = .ok (.aaload, 1) := by decide +kernel
theorem dX11_next_45 : decode cX11_next 45 = .ok (.iload_n 2, 1) := by decide +kernel
theorem dX11_next_46 : decode cX11_next 46 = .ok (.invokevirtual 272, 3) := by decide +kernel
theorem dX11_next_49 : decode cX11_next 49 = .ok (.goto 5, 3) := by decide +kernel
theorem dX11_paid_0 : decode cX11_paid 0 = .ok (.iload_n 1, 1) := by decide +kernel
theorem dX11_paid_1 : decode cX11_paid 1 = .ok (.invokestatic 122, 3) := by decide +kernel
theorem dX11_paid_4 : decode cX11_paid 4 = .ok (.ifCond .eq 25, 3) := by decide +kernel
theorem dX11_paid_29 : decode cX11_paid 29 = .ok (.bipush (-2), 2) := by decide +kernel
theorem dX11_paid_31 : decode cX11_paid 31 = .ok (.ireturn, 1) := by decide +kernel
theorem dX11_paid_7 : decode cX11_paid 7 = .ok (.aload_n 0, 1) := by decide +kernel
theorem dX11_paid_8 : decode cX11_paid 8 = .ok (.getfield 27, 3) := by decide +kernel
theorem dX11_paid_11 : decode cX11_paid 11 = .ok (.getfield 88, 3) := by decide +kernel
theorem dX11_paid_14 : decode cX11_paid 14 = .ok (.aload_n 0, 1) := by decide +kernel
theorem dX11_paid_15 : decode cX11_paid 15 = .ok (.getfield 27, 3) := by decide +kernel
theorem dX11_paid_18 : decode cX11_paid 18 = .ok (.getfield 133, 3) := by decide +kernel
theorem dX11_paid_21 : decode cX11_paid 21 = .ok (.iload_n 1, 1) := by decide +kernel
theorem dX11_paid_22 : decode cX11_paid 22 = .ok (.aaload, 1) := by decide +kernel
theorem dX11_paid_23 : decode cX11_paid 23 = .ok (.invokevirtual 275, 3) := by decide +kernel
theorem dX11_paid_26 : decode cX11_paid 26 = .ok (.goto 5, 3) := by decide +kernel
theorem dX11_fire_0 : decode cX11_fire 0 = .ok (.iload_n 1, 1) := by decide +kernel
theorem dX11_fire_1 : decode cX11_fire 1 = .ok (.invokestatic 122, 3) := by decide +kernel
theorem dX11_fire_4 : decode cX11_fire 4 = .ok (.ifCond .eq 11, 3) := by decide +kernel
theorem dX11_fire_15 : decode cX11_fire 15 = .ok (.bipush (-2), 2) := by decide +kernel
theorem dX11_fire_17 : decode cX11_fire 17 = .ok (.ireturn, 1) := by decide +kernel
theorem dX11_fire_7 : decode cX11_fire 7 = .ok (.aload_n 0, 1) := by decide +kernel
theorem dX11_fire_8 : decode cX11_fire 8 = .ok (.iload_n 2, 1) := by decide +kernel
theorem dX11_fire_9 : decode cX11_fire 9 = .ok (.invokevirtual 191, 3) := by decide +kernel
theorem dX11_fire_12 : decode cX11_fire 12 = .ok (.ifCond .ne 6, 3) := by decide +kernel
theorem dX11_fire_18 : decode cX11_fire 18 = .ok (.aload_n 0, 1) := by decide +kernel
theorem dX11_fire_19 : decode cX11_fire 19 = .ok (.getfield 27, 3) := by decide +kernel
theorem dX11_fire_22 : decode cX11_fire 22 = .ok (.getfield 88, 3) := by decide +kernel
theorem dX11_fire_25 : decode cX11_fire 25 = .ok (.getfield 278, 3) := by decide +kernel
theorem dX11_fire_28 : decode cX11_fire 28 = .ok (.iconst (-1), 1) := by decide +kernel
theorem dX11_fire_29 : decode cX11_fire 29 = .ok (.if_icmp .ne 6, 3) := by decide +kernel
theorem dX11_fire_35 : decode cX11_fire 35 = .ok (.aload_n 0, 1) := by decide +kernel
theorem dX11_fire_36 : decode cX11_fire 36 = .ok (.getfield 44, 3) := by decide +kernel
theorem dX11_fire_39 : decode cX11_fire 39 = .ok (.aload_n 0, 1) := by decide +kernel
theorem dX11_fire_40 : decode cX11_fire 40 = .ok (.getfield 27, 3) := by decide +kernel
theorem dX11_fire_43 : decode cX11_fire 43 = .ok (.getfield 88, 3) := by decide +kernel
theorem dX11_fire_46 : decode cX11_fire 46 = .ok (.aload_n 0, 1) := by decide +kernel
theorem dX11_fire_47 : decode cX11_fire 47 = .ok (.getfield 27, 3) := by decide +kernel
theorem dX11_fire_50 : decode cX11_fire 50 = .ok (.getfield 133, 3) := by decide +kernel
theorem dX11_fire_53 : decode cX11_fire 53 = .ok (.iload_n 1, 1) := by decide +kernel
theorem dX11_fire_54 : decode cX11_fire 54 = .ok (.aaload, 1) := by decide +kernel
theorem dX11_fire_55 : decode cX11_fire 55 = .ok (.iload_n 2, 1) := by decide +kernel
theorem dX11_fire_56 : decode cX11_fire 56 = .ok (.invokevirtual 281, 3) := by decide +kernel
theorem dX11_fire_59 : decode cX11_fire 59 = .ok (.invokestatic 198, 3) := by decide +kernel
theorem dX11_fire_62 : decode cX11_fire 62 = .ok (.ireturn, 1) := by decide +kernel
theorem dX11_fire_32 : decode cX11_fire 32 = .ok (.bipush (-6), 2) := by decide +kernel
theorem dX11_fire_34 : decode cX11_fire 34 = .ok (.ireturn, 1) := by decide +kernel
theorem dX11_lastFire_0 : decode cX11_lastFire 0 = .ok (.iload_n 1, 1) := by decide +kernel
theorem dX11_lastFire_1 : decode cX11_lastFire 1 = .ok (.invokestatic 122, 3) := by decide +kernel
theorem dX11_lastFire_4 : decode cX11_lastFire 4 = .ok (.ifCond .ne 6, 3) := by decide +kernel
theorem dX11_lastFire_7 : decode cX11_lastFire 7 = .ok (.bipush (-2), 2) := by decide +kernel
theorem dX11_lastFire_9 : decode cX11_lastFire 9 = .ok (.ireturn, 1) := by decide +kernel
theorem dX11_lastFire_10 : decode cX11_lastFire 10 = .ok (.aload_n 0, 1) := by decide +kernel
theorem dX11_lastFire_11 : decode cX11_lastFire 11 = .ok (.getfield 27, 3) := by decide +kernel
theorem dX11_lastFire_14 : decode cX11_lastFire 14 = .ok (.getfield 88, 3) := by decide +kernel
theorem dX11_lastFire_17 : decode cX11_lastFire 17 = .ok (.getfield 278, 3) := by decide +kernel
theorem dX11_lastFire_20 : decode cX11_lastFire 20 = .ok (.iconst (-1), 1) := by decide +kernel
theorem dX11_lastFire_21 : decode cX11_lastFire 21 = .ok (.if_icmp .ne 6, 3) := by decide +kernel
theorem dX11_lastFire_27 : decode cX11_lastFire 27 = .ok (.iconst 0, 1) := by decide +kernel
theorem dX11_lastFire_28 : decode cX11_lastFire 28 = .ok (.istore_n 2, 1) := by decide +kernel
theorem dX11_lastFire_29 : decode cX11_lastFire 29 = .ok (.iconst (-1), 1) := by decide +kernel
theorem dX11_lastFire_30 : decode cX11_lastFire 30 = .ok (.istore_n 3, 1) := by decide +kernel
theorem dX11_lastFire_31 : decode cX11_lastFire 31 = .ok (.iconst 0, 1) := by decide +kernel
theorem dX11_lastFire_32 : decode cX11_lastFire 32 = .ok (.istore 4, 2) := by decide +kernel
theorem dX11_lastFire_34 : decode cX11_lastFire 34 = .ok (.iload 4, 2) := by decide +kernel
theorem dX11_lastFire_36 : decode cX11_lastFire 36 = .ok (.aload_n 0, 1) := by decide +kernel
theorem dX11_lastFire_37 : decode cX11_lastFire 37 = .ok (.getfield 27, 3) := by decide +kernel
theorem dX11_lastFire_40 : decode cX11_lastFire 40 = .ok (.getfield 88, 3) := by decide +kernel
theorem dX11_lastFire_43 : decode cX11_lastFire 43 = .ok (.getfield 175, 3) := by decide +kernel
theorem dX11_lastFire_46 : decode cX11_lastFire 46 = .ok (.if_icmp .ge 48, 3) := by decide +kernel
theorem dX11_lastFire_49 : decode cX11_lastFire 49 = .ok (.aload_n 0, 1) := by decide +kernel
theorem dX11_lastFire_50 : decode cX11_lastFire 50 = .ok (.getfield 44, 3) := by decide +kernel
theorem dX11_lastFire_53 : decode cX11_lastFire 53 = .ok (.aload_n 0, 1) := by decide +kernel
theorem dX11_lastFire_54 : decode cX11_lastFire 54 = .ok (.getfield 27, 3) := by decide +kernel
theorem dX11_lastFire_57 : decode cX11_lastFire 57 = .ok (.getfield 88, 3) := by decide +kernel
theorem dX11_lastFire_60 : decode cX11_lastFire 60 = .ok (.aload_n 0, 1) := by decide +kernel
theorem dX11_lastFire_61 : decode cX11_lastFire 61 = .ok (.getfield 27, 3) := by decide +kernel
theorem dX11_lastFire_64 : decode cX11_lastFire 64 = .ok (.getfield 133, 3) := by decide +kernel
theorem dX11_lastFire_67 : decode cX11_lastFire 67 = .ok (.iload_n 1, 1) := by decide +kernel
theorem dX11_lastFire_68 : decode cX11_lastFire 68 = .ok (.aaload, 1) := by decide +kernel
theorem dX11_lastFire_69 : decode cX11_lastFire 69 = .ok (.iload 4, 2) := by decide +kernel
theorem dX11_lastFire_71 : decode cX11_lastFire 71 = .ok (.invokevirtual 281, 3) := by decide +kernel
theorem dX11_lastFire_74 : decode cX11_lastFire 74 = .ok (.istore 5, 2) := by decide +kernel
theorem dX11_lastFire_76 : decode cX11_lastFire 76 = .ok (.iload 5, 2) := by decide +kernel
theorem dX11_lastFire_78 : decode cX11_lastFire 78 = .ok (.iload_n 3, 1) := by decide +kernel
theorem dX11_lastFire_79 : decode cX11_lastFire 79 = .ok (.if_icmp .le 9, 3) := by decide +kernel
theorem dX11_lastFire_88 : decode cX11_lastFire 88 = .ok (.iinc 4 1, 3) := by decide +kernel
theorem dX11_lastFire_91 : decode cX11_lastFire 91 = .ok (.goto (-57), 3) := by decide +kernel
theorem dX11_lastFire_82 : decode cX11_lastFire 82 = .ok (.iload 5, 2) := by decide +kernel
theorem dX11_lastFire_84 : decode cX11_lastFire 84 = .ok (.istore_n 3, 1) := by decide +kernel
theorem dX11_lastFire_85 : decode cX11_lastFire 85 = .ok (.iload 4, 2) := by decide +kernel
theorem dX11_lastFire_87 : decode cX11_lastFire 87 = .ok (.istore_n 2, 1) := by decide +kernel
theorem dX11_lastFire_94 : decode cX11_lastFire 94 = .ok (.iload_n 2, 1) := by decide +kernel
theorem dX11_lastFire_95 : decode cX11_lastFire 95 = .ok (.ireturn, 1) := by decide +kernel
theorem dX11_lastFire_24 : decode cX11_lastFire 24 = .ok (.bipush (-6), 2) := by decide +kernel
theorem dX11_lastFire_26 : decode cX11_lastFire 26 = .ok (.ireturn, 1) := by decide +kernel
theorem dX11_isMinuteOfDay_0 : decode cX11_isMinuteOfDay 0 = .ok (.iload_n 0, 1) := by decide +kernel
theorem dX11_isMinuteOfDay_1 : decode cX11_isMinuteOfDay 1 = .ok (.ifCond .lt 14, 3) := by decide +kernel
theorem dX11_isMinuteOfDay_15 : decode cX11_isMinuteOfDay 15 = .ok (.iconst 0, 1) := by decide +kernel
theorem dX11_isMinuteOfDay_16 : decode cX11_isMinuteOfDay 16 = .ok (.ireturn, 1) := by decide +kernel
theorem dX11_isMinuteOfDay_4 : decode cX11_isMinuteOfDay 4 = .ok (.iload_n 0, 1) := by decide +kernel
theorem dX11_isMinuteOfDay_5 : decode cX11_isMinuteOfDay 5 = .ok (.sipush 1440, 3) := by decide +kernel
theorem dX11_isMinuteOfDay_8 : decode cX11_isMinuteOfDay 8 = .ok (.if_icmp .ge 7, 3) := by decide +kernel
theorem dX11_isMinuteOfDay_11 : decode cX11_isMinuteOfDay 11 = .ok (.iconst 1, 1) := by decide +kernel
theorem dX11_isMinuteOfDay_12 : decode cX11_isMinuteOfDay 12 = .ok (.goto 4, 3) := by decide +kernel
theorem dX11_arrive_0 : decode cX11_arrive 0 = .ok (.aload_n 0, 1) := by decide +kernel
theorem dX11_arrive_1 : decode cX11_arrive 1 = .ok (.iload_n 1, 1) := by decide +kernel
theorem dX11_arrive_2 : decode cX11_arrive 2 = .ok (.invokevirtual 201, 3) := by decide +kernel
theorem dX11_arrive_5 : decode cX11_arrive 5 = .ok (.ifCond .eq 17, 3) := by decide +kernel
theorem dX11_arrive_22 : decode cX11_arrive 22 = .ok (.bipush (-2), 2) := by decide +kernel
theorem dX11_arrive_24 : decode cX11_arrive 24 = .ok (.ireturn, 1) := by decide +kernel
theorem dX11_arrive_8 : decode cX11_arrive 8 = .ok (.iload_n 2, 1) := by decide +kernel
theorem dX11_arrive_9 : decode cX11_arrive 9 = .ok (.invokestatic 284, 3) := by decide +kernel
theorem dX11_arrive_12 : decode cX11_arrive 12 = .ok (.ifCond .eq 10, 3) := by decide +kernel
theorem dX11_arrive_15 : decode cX11_arrive 15 = .ok (.iload_n 3, 1) := by decide +kernel
theorem dX11_arrive_16 : decode cX11_arrive 16 = .ok (.invokestatic 284, 3) := by decide +kernel
theorem dX11_arrive_19 : decode cX11_arrive 19 = .ok (.ifCond .ne 6, 3) := by decide +kernel
theorem dX11_arrive_25 : decode cX11_arrive 25 = .ok (.aload_n 0, 1) := by decide +kernel
theorem dX11_arrive_26 : decode cX11_arrive 26 = .ok (.getfield 27, 3) := by decide +kernel
theorem dX11_arrive_29 : decode cX11_arrive 29 = .ok (.getfield 88, 3) := by decide +kernel
theorem dX11_arrive_32 : decode cX11_arrive 32 = .ok (.getfield 287, 3) := by decide +kernel
theorem dX11_arrive_35 : decode cX11_arrive 35 = .ok (.getfield 291, 3) := by decide +kernel
theorem dX11_arrive_38 : decode cX11_arrive 38 = .ok (.iload_n 1, 1) := by decide +kernel
theorem dX11_arrive_39 : decode cX11_arrive 39 = .ok (.iaload, 1) := by decide +kernel
theorem dX11_arrive_40 : decode cX11_arrive 40 = .ok (.istore 4, 2) := by decide +kernel
theorem dX11_arrive_42 : decode cX11_arrive 42 = .ok (.aload_n 0, 1) := by decide +kernel
theorem dX11_arrive_43 : decode cX11_arrive 43 = .ok (.getfield 27, 3) := by decide +kernel
theorem dX11_arrive_46 : decode cX11_arrive 46 = .ok (.getfield 88, 3) := by decide +kernel
theorem dX11_arrive_49 : decode cX11_arrive 49 = .ok (.getfield 287, 3) := by decide +kernel
theorem dX11_arrive_52 : decode cX11_arrive 52 = .ok (.getfield 296, 3) := by decide +kernel
theorem dX11_arrive_55 : decode cX11_arrive 55 = .ok (.iload_n 1, 1) := by decide +kernel
theorem dX11_arrive_56 : decode cX11_arrive 56 = .ok (.iaload, 1) := by decide +kernel
theorem dX11_arrive_57 : decode cX11_arrive 57 = .ok (.istore 5, 2) := by decide +kernel
theorem dX11_arrive_59 : decode cX11_arrive 59 = .ok (.iload_n 2, 1) := by decide +kernel
theorem dX11_arrive_60 : decode cX11_arrive 60 = .ok (.istore 6, 2) := by decide +kernel
theorem dX11_arrive_62 : decode cX11_arrive 62 = .ok (.iconst 0, 1) := by decide +kernel
theorem dX11_arrive_63 : decode cX11_arrive 63 = .ok (.istore 7, 2) := by decide +kernel
theorem dX11_arrive_65 : decode cX11_arrive 65 = .ok (.iload 7, 2) := by decide +kernel
theorem dX11_arrive_67 : decode cX11_arrive 67 = .ok (.bipush 32, 2) := by decide +kernel
theorem dX11_arrive_69 : decode cX11_arrive 69 = .ok (.if_icmp .ge 118, 3) := by decide +kernel
theorem dX11_arrive_72 : decode cX11_arrive 72 = .ok (.iload 4, 2) := by decide +kernel
theorem dX11_arrive_74 : decode cX11_arrive 74 = .ok (.iload 5, 2) := by decide +kernel
theorem dX11_arrive_76 : decode cX11_arrive 76 = .ok (.if_icmp .eq 111, 3) := by decide +kernel
theorem dX11_arrive_79 : decode cX11_arrive 79 = .ok (.aload_n 0, 1) := by decide +kernel
theorem dX11_arrive_80 : decode cX11_arrive 80 = .ok (.getfield 27, 3) := by decide +kernel
theorem dX11_arrive_83 : decode cX11_arrive 83 = .ok (.getfield 133, 3) := by decide +kernel
theorem dX11_arrive_86 : decode cX11_arrive 86 = .ok (.iload 6, 2) := by decide +kernel
theorem dX11_arrive_88 : decode cX11_arrive 88 = .ok (.iload_n 3, 1) := by decide +kernel
theorem dX11_arrive_89 : decode cX11_arrive 89 = .ok (.if_icmp .ge 7, 3) := by decide +kernel
theorem dX11_arrive_96 : decode cX11_arrive 96 = .ok (.iconst 1, 1) := by decide +kernel
theorem dX11_arrive_97 : decode cX11_arrive 97 = .ok (.aaload, 1) := by decide +kernel
theorem dX11_arrive_98 : decode cX11_arrive 98 = .ok (.astore 8, 2) := by decide +kernel
theorem dX11_arrive_100 : decode cX11_arrive 100 = .ok (.aload_n 0, 1) := by decide +kernel
theorem dX11_arrive_101 : decode cX11_arrive 101 = .ok (.getfield 44, 3) := by decide +kernel
theorem dX11_arrive_104 : decode cX11_arrive 104 = .ok (.aload_n 0, 1) := by decide +kernel
theorem dX11_arrive_105 : decode cX11_arrive 105 = .ok (.getfield 27, 3) := by decide +kernel
theorem dX11_arrive_108 : decode cX11_arrive 108 = .ok (.getfield 88, 3) := by decide +kernel
theorem dX11_arrive_111 : decode cX11_arrive 111 = .ok (.aload 8, 2) := by decide +kernel
theorem dX11_arrive_113 : decode cX11_arrive 113 = .ok (.iload 5, 2) := by decide +kernel
theorem dX11_arrive_115 : decode cX11_arrive 115 = .ok (.iconst 0, 1) := by decide +kernel
theorem dX11_arrive_116 : decode cX11_arrive 116 = .ok (.invokevirtual 299, 3) := by decide +kernel
theorem dX11_arrive_119 : decode cX11_arrive 119 = .ok (.aload_n 0, 1) := by decide +kernel
theorem dX11_arrive_120 : decode cX11_arrive 120 = .ok (.getfield 44, 3) := by decide +kernel
theorem dX11_arrive_123 : decode cX11_arrive 123 = .ok (.aload_n 0, 1) := by decide +kernel
theorem dX11_arrive_124 : decode cX11_arrive 124 = .ok (.getfield 27, 3) := by decide +kernel
theorem dX11_arrive_127 : decode cX11_arrive 127 = .ok (.getfield 88, 3) := by decide +kernel
theorem dX11_arrive_130 : decode cX11_arrive 130 = .ok (.aload 8, 2) := by decide +kernel
theorem dX11_arrive_132 : decode cX11_arrive 132 = .ok (.iload 4, 2) := by decide +kernel
theorem dX11_arrive_134 : decode cX11_arrive 134 = .ok (.invokevirtual 303, 3) := by decide +kernel
theorem dX11_arrive_137 : decode cX11_arrive 137 = .ok (.istore 9, 2) := by decide +kernel
theorem dX11_arrive_139 : decode cX11_arrive 139 = .ok (.iload 9, 2) := by decide +kernel
theorem dX11_arrive_141 : decode cX11_arrive 141 = .ok (.iconst (-1), 1) := by decide +kernel
theorem dX11_arrive_142 : decode cX11_arrive 142 = .ok (.if_icmp .ne 5, 3) := by decide +kernel
theorem dX11_arrive_147 : decode cX11_arrive 147 = .ok (.iload 6, 2) := by decide +kernel
theorem dX11_arrive_149 : decode cX11_arrive 149 = .ok (.aload_n 0, 1) := by decide +kernel
theorem dX11_arrive_150 : decode cX11_arrive 150 = .ok (.getfield 27, 3) := by decide +kernel
theorem dX11_arrive_153 : decode cX11_arrive 153 = .ok (.getfield 88, 3) := by decide +kernel
theorem dX11_arrive_156 : decode cX11_arrive 156 = .ok (.getfield 306, 3) := by decide +kernel
theorem dX11_arrive_159 : decode cX11_arrive 159 = .ok (.iload 9, 2) := by decide +kernel
theorem dX11_arrive_161 : decode cX11_arrive 161 = .ok (.iaload, 1) := by decide +kernel
theorem dX11_arrive_162 : decode cX11_arrive 162 = .ok (.iadd, 1) := by decide +kernel
theorem dX11_arrive_163 : decode cX11_arrive 163 = .ok (.istore 6, 2) := by decide +kernel
theorem dX11_arrive_165 : decode cX11_arrive 165 = .ok (.aload_n 0, 1) := by decide +kernel
theorem dX11_arrive_166 : decode cX11_arrive 166 = .ok (.getfield 27, 3) := by decide +kernel
theorem dX11_arrive_169 : decode cX11_arrive 169 = .ok (.getfield 88, 3) := by decide +kernel
theorem dX11_arrive_172 : decode cX11_arrive 172 = .ok (.iload 9, 2) := by decide +kernel
theorem dX11_arrive_174 : decode cX11_arrive 174 = .ok (.iload 4, 2) := by decide +kernel
theorem dX11_arrive_176 : decode cX11_arrive 176 = .ok (.invokevirtual 309, 3) := by decide +kernel
theorem dX11_arrive_179 : decode cX11_arrive 179 = .ok (.istore 4, 2) := by decide +kernel
theorem dX11_arrive_181 : decode cX11_arrive 181 = .ok (.iinc 7 1, 3) := by decide +kernel
theorem dX11_arrive_184 : decode cX11_arrive 184 = .ok (.goto (-119), 3) := by decide +kernel
theorem dX11_arrive_145 : decode cX11_arrive 145 = .ok (.iconst (-1), 1) := by decide +kernel
theorem dX11_arrive_146 : decode cX11_arrive 146 = .ok (.ireturn, 1) := by decide +kernel
theorem dX11_arrive_92 : decode cX11_arrive 92 = .ok (.iconst 0, 1) := by decide +kernel
theorem dX11_arrive_93 : decode cX11_arrive 93 = .ok (.goto 4, 3) := by decide +kernel
theorem dX11_arrive_187 : decode cX11_arrive 187 = .ok (.iload 6, 2) := by decide +kernel
theorem dX11_arrive_189 : decode cX11_arrive 189 = .ok (.ireturn, 1) := by decide +kernel
theorem dX11_reach_0 : decode cX11_reach 0 = .ok (.iload_n 1, 1) := by decide +kernel
theorem dX11_reach_1 : decode cX11_reach 1 = .ok (.invokestatic 122, 3) := by decide +kernel
theorem dX11_reach_4 : decode cX11_reach 4 = .ok (.ifCond .eq 14, 3) := by decide +kernel
theorem dX11_reach_18 : decode cX11_reach 18 = .ok (.bipush (-2), 2) := by decide +kernel
theorem dX11_reach_20 : decode cX11_reach 20 = .ok (.ireturn, 1) := by decide +kernel
theorem dX11_reach_7 : decode cX11_reach 7 = .ok (.iload_n 2, 1) := by decide +kernel
theorem dX11_reach_8 : decode cX11_reach 8 = .ok (.ifCond .lt 10, 3) := by decide +kernel
theorem dX11_reach_11 : decode cX11_reach 11 = .ok (.iload_n 2, 1) := by decide +kernel
theorem dX11_reach_12 : decode cX11_reach 12 = .ok (.sipush 9999, 3) := by decide +kernel
theorem dX11_reach_15 : decode cX11_reach 15 = .ok (.if_icmp .le 6, 3) := by decide +kernel
theorem dX11_reach_21 : decode cX11_reach 21 = .ok (.aload_n 0, 1) := by decide +kernel
theorem dX11_reach_22 : decode cX11_reach 22 = .ok (.getfield 27, 3) := by decide +kernel
theorem dX11_reach_25 : decode cX11_reach 25 = .ok (.getfield 88, 3) := by decide +kernel
theorem dX11_reach_28 : decode cX11_reach 28 = .ok (.getfield 278, 3) := by decide +kernel
theorem dX11_reach_31 : decode cX11_reach 31 = .ok (.iconst (-1), 1) := by decide +kernel
theorem dX11_reach_32 : decode cX11_reach 32 = .ok (.if_icmp .ne 6, 3) := by decide +kernel
theorem dX11_reach_38 : decode cX11_reach 38 = .ok (.iconst 0, 1) := by decide +kernel
theorem dX11_reach_39 : decode cX11_reach 39 = .ok (.istore_n 3, 1) := by decide +kernel
theorem dX11_reach_40 : decode cX11_reach 40 = .ok (.iconst 0, 1) := by decide +kernel
theorem dX11_reach_41 : decode cX11_reach 41 = .ok (.istore 4, 2) := by decide +kernel
theorem dX11_reach_43 : decode cX11_reach 43 = .ok (.iload 4, 2) := by decide +kernel
theorem dX11_reach_45 : decode cX11_reach 45 = .ok (.aload_n 0, 1) := by decide +kernel
theorem dX11_reach_46 : decode cX11_reach 46 = .ok (.getfield 27, 3) := by decide +kernel
theorem dX11_reach_49 : decode cX11_reach 49 = .ok (.getfield 88, 3) := by decide +kernel
theorem dX11_reach_52 : decode cX11_reach 52 = .ok (.getfield 175, 3) := by decide +kernel
theorem dX11_reach_55 : decode cX11_reach 55 = .ok (.if_icmp .ge 45, 3) := by decide +kernel
theorem dX11_reach_58 : decode cX11_reach 58 = .ok (.aload_n 0, 1) := by decide +kernel
theorem dX11_reach_59 : decode cX11_reach 59 = .ok (.getfield 44, 3) := by decide +kernel
theorem dX11_reach_62 : decode cX11_reach 62 = .ok (.aload_n 0, 1) := by decide +kernel
theorem dX11_reach_63 : decode cX11_reach 63 = .ok (.getfield 27, 3) := by decide +kernel
theorem dX11_reach_66 : decode cX11_reach 66 = .ok (.getfield 88, 3) := by decide +kernel
theorem dX11_reach_69 : decode cX11_reach 69 = .ok (.aload_n 0, 1) := by decide +kernel
theorem dX11_reach_70 : decode cX11_reach 70 = .ok (.getfield 27, 3) := by decide +kernel
theorem dX11_reach_73 : decode cX11_reach 73 = .ok (.getfield 133, 3) := by decide +kernel
theorem dX11_reach_76 : decode cX11_reach 76 = .ok (.iload_n 1, 1) := by decide +kernel
theorem dX11_reach_77 : decode cX11_reach 77 = .ok (.aaload, 1) := by decide +kernel
theorem dX11_reach_78 : decode cX11_reach 78 = .ok (.iload 4, 2) := by decide +kernel
theorem dX11_reach_80 : decode cX11_reach 80 = .ok (.invokevirtual 281, 3) := by decide +kernel
theorem dX11_reach_83 : decode cX11_reach 83 = .ok (.iload_n 2, 1) := by decide +kernel
theorem dX11_reach_84 : decode cX11_reach 84 = .ok (.if_icmp .gt 10, 3) := by decide +kernel
theorem dX11_reach_94 : decode cX11_reach 94 = .ok (.iinc 4 1, 3) := by decide +kernel
theorem dX11_reach_97 : decode cX11_reach 97 = .ok (.goto (-54), 3) := by decide +kernel
theorem dX11_reach_87 : decode cX11_reach 87 = .ok (.iload_n 3, 1) := by decide +kernel
theorem dX11_reach_88 : decode cX11_reach 88 = .ok (.iconst 1, 1) := by decide +kernel
theorem dX11_reach_89 : decode cX11_reach 89 = .ok (.iload 4, 2) := by decide +kernel
theorem dX11_reach_91 : decode cX11_reach 91 = .ok (.ishl, 1) := by decide +kernel
theorem dX11_reach_92 : decode cX11_reach 92 = .ok (.ior, 1) := by decide +kernel
theorem dX11_reach_93 : decode cX11_reach 93 = .ok (.istore_n 3, 1) := by decide +kernel
theorem dX11_reach_100 : decode cX11_reach 100 = .ok (.iload_n 3, 1) := by decide +kernel
theorem dX11_reach_101 : decode cX11_reach 101 = .ok (.ireturn, 1) := by decide +kernel
theorem dX11_reach_35 : decode cX11_reach 35 = .ok (.bipush (-6), 2) := by decide +kernel
theorem dX11_reach_37 : decode cX11_reach 37 = .ok (.ireturn, 1) := by decide +kernel
theorem dX11_afternoon_0 : decode cX11_afternoon 0 = .ok (.iload_n 1, 1) := by decide +kernel
theorem dX11_afternoon_1 : decode cX11_afternoon 1 = .ok (.ifCond .lt 8, 3) := by decide +kernel
theorem dX11_afternoon_9 : decode cX11_afternoon 9 = .ok (.bipush (-2), 2) := by decide +kernel
theorem dX11_afternoon_11 : decode cX11_afternoon 11 = .ok (.ireturn, 1) := by decide +kernel
theorem dX11_afternoon_4 : decode cX11_afternoon 4 = .ok (.iload_n 1, 1) := by decide +kernel
theorem dX11_afternoon_5 : decode cX11_afternoon 5 = .ok (.iconst 2, 1) := by decide +kernel
theorem dX11_afternoon_6 : decode cX11_afternoon 6 = .ok (.if_icmp .le 6, 3) := by decide +kernel
theorem dX11_afternoon_12 : decode cX11_afternoon 12 = .ok (.aload_n 0, 1) := by decide +kernel
theorem dX11_afternoon_13 : decode cX11_afternoon 13 = .ok (.iconst 0, 1) := by decide +kernel
theorem dX11_afternoon_14 : decode cX11_afternoon 14 = .ok (.invokevirtual 222, 3) := by decide +kernel
theorem dX11_afternoon_17 : decode cX11_afternoon 17 = .ok (.ifCond .eq 33, 3) := by decide +kernel
theorem dX11_afternoon_50 : decode cX11_afternoon 50 = .ok (.bipush (-5), 2) := by decide +kernel
theorem dX11_afternoon_52 : decode cX11_afternoon 52 = .ok (.ireturn, 1) := by decide +kernel
theorem dX11_afternoon_20 : decode cX11_afternoon 20 = .ok (.aload_n 0, 1) := by decide +kernel
theorem dX11_afternoon_21 : decode cX11_afternoon 21 = .ok (.getfield 44, 3) := by decide +kernel
theorem dX11_afternoon_24 : decode cX11_afternoon 24 = .ok (.aload_n 0, 1) := by decide +kernel
theorem dX11_afternoon_25 : decode cX11_afternoon 25 = .ok (.getfield 27, 3) := by decide +kernel
theorem dX11_afternoon_28 : decode cX11_afternoon 28 = .ok (.getfield 88, 3) := by decide +kernel
theorem dX11_afternoon_31 : decode cX11_afternoon 31 = .ok (.aload_n 0, 1) := by decide +kernel
theorem dX11_afternoon_32 : decode cX11_afternoon 32 = .ok (.getfield 27, 3) := by decide +kernel
theorem dX11_afternoon_35 : decode cX11_afternoon 35 = .ok (.getfield 133, 3) := by decide +kernel
theorem dX11_afternoon_38 : decode cX11_afternoon 38 = .ok (.iconst 0, 1) := by decide +kernel
theorem dX11_afternoon_39 : decode cX11_afternoon 39 = .ok (.aaload, 1) := by decide +kernel
theorem dX11_afternoon_40 : decode cX11_afternoon 40 = .ok (.iconst 1, 1) := by decide +kernel
theorem dX11_afternoon_41 : decode cX11_afternoon 41 = .ok (.ldc 207, 2) := by decide +kernel
theorem dX11_afternoon_43 : decode cX11_afternoon 43 = .ok (.invokevirtual 208, 3) := by decide +kernel
theorem dX11_afternoon_46 : decode cX11_afternoon 46 = .ok (.iconst (-1), 1) := by decide +kernel
theorem dX11_afternoon_47 : decode cX11_afternoon 47 = .ok (.if_icmp .ne 6, 3) := by decide +kernel
theorem dX11_afternoon_53 : decode cX11_afternoon 53 = .ok (.aload_n 0, 1) := by decide +kernel
theorem dX11_afternoon_54 : decode cX11_afternoon 54 = .ok (.getfield 60, 3) := by decide +kernel
theorem dX11_afternoon_57 : decode cX11_afternoon 57 = .ok (.aload_n 0, 1) := by decide +kernel
theorem dX11_afternoon_58 : decode cX11_afternoon 58 = .ok (.getfield 27, 3) := by decide +kernel
theorem dX11_afternoon_61 : decode cX11_afternoon 61 = .ok (.getfield 88, 3) := by decide +kernel
theorem dX11_afternoon_64 : decode cX11_afternoon 64 = .ok (.aload_n 0, 1) := by decide +kernel
theorem dX11_afternoon_65 : decode cX11_afternoon 65 = .ok (.getfield 27, 3) := by decide +kernel
theorem dX11_afternoon_68 : decode cX11_afternoon 68 = .ok (.getfield 133, 3) := by decide +kernel
theorem dX11_afternoon_71 : decode cX11_afternoon 71 = .ok (.iconst 0, 1) := by decide +kernel
theorem dX11_afternoon_72 : decode cX11_afternoon 72 = .ok (.aaload, 1) := by decide +kernel
theorem dX11_afternoon_73 : decode cX11_afternoon 73 = .ok (.iload_n 1, 1) := by decide +kernel
theorem dX11_afternoon_74 : decode cX11_afternoon 74 = .ok (.invokevirtual 312, 3) := by decide +kernel
theorem dX11_afternoon_77 : decode cX11_afternoon 77 = .ok (.istore_n 2, 1) := by decide +kernel
theorem dX11_afternoon_78 : decode cX11_afternoon 78 = .ok (.aload_n 0, 1) := by decide +kernel
theorem dX11_afternoon_79 : decode cX11_afternoon 79 = .ok (.getfield 27, 3) := by decide +kernel
theorem dX11_afternoon_82 : decode cX11_afternoon 82 = .ok (.getfield 133, 3) := by decide +kernel
theorem dX11_afternoon_85 : decode cX11_afternoon 85 = .ok (.iconst 0, 1) := by decide +kernel
theorem dX11_afternoon_86 : decode cX11_afternoon 86 = .ok (.aaload, 1) := by decide +kernel
theorem dX11_afternoon_87 : decode cX11_afternoon 87 = .ok (.iconst 0, 1) := by decide +kernel
theorem dX11_afternoon_88 : decode cX11_afternoon 88 = .ok (.aload_n 0, 1) := by decide +kernel
theorem dX11_afternoon_89 : decode cX11_afternoon 89 = .ok (.getfield 27, 3) := by decide +kernel
theorem dX11_afternoon_92 : decode cX11_afternoon 92 = .ok (.getfield 133, 3) := by decide +kernel
theorem dX11_afternoon_95 : decode cX11_afternoon 95 = .ok (.iconst 1, 1) := by decide +kernel
theorem dX11_afternoon_96 : decode cX11_afternoon 96 = .ok (.aaload, 1) := by decide +kernel
theorem dX11_afternoon_97 : decode cX11_afternoon 97 = .ok (.iconst 0, 1) := by decide +kernel
theorem dX11_afternoon_98 : decode cX11_afternoon 98 = .ok (.bipush 28, 2) := by decide +kernel
theorem dX11_afternoon_100 : decode cX11_afternoon 100 = .ok (.invokestatic 315, 3) := by decide +kernel
theorem dX11_afternoon_103 : decode cX11_afternoon 103 = .ok (.aload_n 0, 1) := by decide +kernel
theorem dX11_afternoon_104 : decode cX11_afternoon 104 = .ok (.getfield 60, 3) := by decide +kernel
theorem dX11_afternoon_107 : decode cX11_afternoon 107 = .ok (.aload_n 0, 1) := by decide +kernel
theorem dX11_afternoon_108 : decode cX11_afternoon 108 = .ok (.getfield 27, 3) := by decide +kernel
theorem dX11_afternoon_111 : decode cX11_afternoon 111 = .ok (.getfield 88, 3) := by decide +kernel
theorem dX11_afternoon_114 : decode cX11_afternoon 114 = .ok (.aload_n 0, 1) := by decide +kernel
theorem dX11_afternoon_115 : decode cX11_afternoon 115 = .ok (.getfield 27, 3) := by decide +kernel
theorem dX11_afternoon_118 : decode cX11_afternoon 118 = .ok (.getfield 133, 3) := by decide +kernel
theorem dX11_afternoon_121 : decode cX11_afternoon 121 = .ok (.iconst 1, 1) := by decide +kernel
theorem dX11_afternoon_122 : decode cX11_afternoon 122 = .ok (.aaload, 1) := by decide +kernel
theorem dX11_afternoon_123 : decode cX11_afternoon 123 = .ok (.iload_n 2, 1) := by decide +kernel
theorem dX11_afternoon_124 : decode cX11_afternoon 124 = .ok (.invokevirtual 228, 3) := by decide +kernel
theorem dX11_afternoon_127 : decode cX11_afternoon 127 = .ok (.iload_n 2, 1) := by decide +kernel
theorem dX11_afternoon_128 : decode cX11_afternoon 128 = .ok (.invokestatic 321, 3) := by decide +kernel
theorem dX11_afternoon_131 : decode cX11_afternoon 131 = .ok (.ireturn, 1) := by decide +kernel
theorem dX11_sumBack_0 : decode cX11_sumBack 0 = .ok (.iload_n 1, 1) := by decide +kernel
theorem dX11_sumBack_1 : decode cX11_sumBack 1 = .ok (.invokestatic 122, 3) := by decide +kernel
theorem dX11_sumBack_4 : decode cX11_sumBack 4 = .ok (.ifCond .eq 32, 3) := by decide +kernel
theorem dX11_sumBack_36 : decode cX11_sumBack 36 = .ok (.bipush (-2), 2) := by decide +kernel
theorem dX11_sumBack_38 : decode cX11_sumBack 38 = .ok (.ireturn, 1) := by decide +kernel
theorem dX11_sumBack_7 : decode cX11_sumBack 7 = .ok (.aload_n 0, 1) := by decide +kernel
theorem dX11_sumBack_8 : decode cX11_sumBack 8 = .ok (.getfield 44, 3) := by decide +kernel
theorem dX11_sumBack_11 : decode cX11_sumBack 11 = .ok (.aload_n 0, 1) := by decide +kernel
theorem dX11_sumBack_12 : decode cX11_sumBack 12 = .ok (.getfield 27, 3) := by decide +kernel
theorem dX11_sumBack_15 : decode cX11_sumBack 15 = .ok (.getfield 88, 3) := by decide +kernel
theorem dX11_sumBack_18 : decode cX11_sumBack 18 = .ok (.aload_n 0, 1) := by decide +kernel
theorem dX11_sumBack_19 : decode cX11_sumBack 19 = .ok (.getfield 27, 3) := by decide +kernel
theorem dX11_sumBack_22 : decode cX11_sumBack 22 = .ok (.getfield 133, 3) := by decide +kernel
theorem dX11_sumBack_25 : decode cX11_sumBack 25 = .ok (.iload_n 1, 1) := by decide +kernel
theorem dX11_sumBack_26 : decode cX11_sumBack 26 = .ok (.aaload, 1) := by decide +kernel
theorem dX11_sumBack_27 : decode cX11_sumBack 27 = .ok (.iconst 1, 1) := by decide +kernel
theorem dX11_sumBack_28 : decode cX11_sumBack 28 = .ok (.ldc 207, 2) := by decide +kernel
theorem dX11_sumBack_30 : decode cX11_sumBack 30 = .ok (.invokevirtual 208, 3) := by decide +kernel
theorem dX11_sumBack_33 : decode cX11_sumBack 33 = .ok (.goto 5, 3) := by decide +kernel
theorem dX11_walk_0 : decode cX11_walk 0 = .ok (.iload_n 1, 1) := by decide +kernel
theorem dX11_walk_1 : decode cX11_walk 1 = .ok (.invokestatic 122, 3) := by decide +kernel
theorem dX11_walk_4 : decode cX11_walk 4 = .ok (.ifCond .eq 21, 3) := by decide +kernel
theorem dX11_walk_25 : decode cX11_walk 25 = .ok (.bipush (-2), 2) := by decide +kernel
theorem dX11_walk_27 : decode cX11_walk 27 = .ok (.ireturn, 1) := by decide +kernel
theorem dX11_walk_7 : decode cX11_walk 7 = .ok (.aload_n 0, 1) := by decide +kernel
theorem dX11_walk_8 : decode cX11_walk 8 = .ok (.iload_n 2, 1) := by decide +kernel
theorem dX11_walk_9 : decode cX11_walk 9 = .ok (.invokevirtual 191, 3) := by decide +kernel
theorem dX11_walk_12 : decode cX11_walk 12 = .ok (.ifCond .eq 13, 3) := by decide +kernel
theorem dX11_walk_15 : decode cX11_walk 15 = .ok (.iload_n 3, 1) := by decide +kernel
theorem dX11_walk_16 : decode cX11_walk 16 = .ok (.ifCond .lt 9, 3) := by decide +kernel
theorem dX11_walk_19 : decode cX11_walk 19 = .ok (.iload_n 3, 1) := by decide +kernel
theorem dX11_walk_20 : decode cX11_walk 20 = .ok (.bipush 100, 2) := by decide +kernel
theorem dX11_walk_22 : decode cX11_walk 22 = .ok (.if_icmp .le 6, 3) := by decide +kernel
theorem dX11_walk_28 : decode cX11_walk 28 = .ok (.iload_n 2, 1) := by decide +kernel
theorem dX11_walk_29 : decode cX11_walk 29 = .ok (.istore 4, 2) := by decide +kernel
theorem dX11_walk_31 : decode cX11_walk 31 = .ok (.iconst (-1), 1) := by decide +kernel
theorem dX11_walk_32 : decode cX11_walk 32 = .ok (.istore 5, 2) := by decide +kernel
theorem dX11_walk_34 : decode cX11_walk 34 = .ok (.iconst 0, 1) := by decide +kernel
theorem dX11_walk_35 : decode cX11_walk 35 = .ok (.istore 6, 2) := by decide +kernel
theorem dX11_walk_37 : decode cX11_walk 37 = .ok (.iload 6, 2) := by decide +kernel
theorem dX11_walk_39 : decode cX11_walk 39 = .ok (.iload_n 3, 1) := by decide +kernel
theorem dX11_walk_40 : decode cX11_walk 40 = .ok (.if_icmp .ge 67, 3) := by decide +kernel
theorem dX11_walk_43 : decode cX11_walk 43 = .ok (.aload_n 0, 1) := by decide +kernel
theorem dX11_walk_44 : decode cX11_walk 44 = .ok (.getfield 44, 3) := by decide +kernel
theorem dX11_walk_47 : decode cX11_walk 47 = .ok (.aload_n 0, 1) := by decide +kernel
theorem dX11_walk_48 : decode cX11_walk 48 = .ok (.getfield 27, 3) := by decide +kernel
theorem dX11_walk_51 : decode cX11_walk 51 = .ok (.getfield 88, 3) := by decide +kernel
theorem dX11_walk_54 : decode cX11_walk 54 = .ok (.aload_n 0, 1) := by decide +kernel
theorem dX11_walk_55 : decode cX11_walk 55 = .ok (.getfield 27, 3) := by decide +kernel
theorem dX11_walk_58 : decode cX11_walk 58 = .ok (.getfield 133, 3) := by decide +kernel
theorem dX11_walk_61 : decode cX11_walk 61 = .ok (.iload_n 1, 1) := by decide +kernel
theorem dX11_walk_62 : decode cX11_walk 62 = .ok (.aaload, 1) := by decide +kernel
theorem dX11_walk_63 : decode cX11_walk 63 = .ok (.iload 4, 2) := by decide +kernel
theorem dX11_walk_65 : decode cX11_walk 65 = .ok (.iload 5, 2) := by decide +kernel
theorem dX11_walk_67 : decode cX11_walk 67 = .ok (.invokevirtual 326, 3) := by decide +kernel
theorem dX11_walk_70 : decode cX11_walk 70 = .ok (.istore 7, 2) := by decide +kernel
theorem dX11_walk_72 : decode cX11_walk 72 = .ok (.iload 7, 2) := by decide +kernel
theorem dX11_walk_74 : decode cX11_walk 74 = .ok (.iconst (-1), 1) := by decide +kernel
theorem dX11_walk_75 : decode cX11_walk 75 = .ok (.if_icmp .ne 6, 3) := by decide +kernel
theorem dX11_walk_81 : decode cX11_walk 81 = .ok (.aload_n 0, 1) := by decide +kernel
theorem dX11_walk_82 : decode cX11_walk 82 = .ok (.getfield 27, 3) := by decide +kernel
theorem dX11_walk_85 : decode cX11_walk 85 = .ok (.getfield 88, 3) := by decide +kernel
theorem dX11_walk_88 : decode cX11_walk 88 = .ok (.iload 7, 2) := by decide +kernel
theorem dX11_walk_90 : decode cX11_walk 90 = .ok (.iload 4, 2) := by decide +kernel
theorem dX11_walk_92 : decode cX11_walk 92 = .ok (.invokevirtual 309, 3) := by decide +kernel
theorem dX11_walk_95 : decode cX11_walk 95 = .ok (.istore 4, 2) := by decide +kernel
theorem dX11_walk_97 : decode cX11_walk 97 = .ok (.iload 7, 2) := by decide +kernel
theorem dX11_walk_99 : decode cX11_walk 99 = .ok (.istore 5, 2) := by decide +kernel
theorem dX11_walk_101 : decode cX11_walk 101 = .ok (.iinc 6 1, 3) := by decide +kernel
theorem dX11_walk_104 : decode cX11_walk 104 = .ok (.goto (-67), 3) := by decide +kernel
theorem dX11_walk_78 : decode cX11_walk 78 = .ok (.iload 4, 2) := by decide +kernel
theorem dX11_walk_80 : decode cX11_walk 80 = .ok (.ireturn, 1) := by decide +kernel
theorem dX11_walk_107 : decode cX11_walk 107 = .ok (.iload 4, 2) := by decide +kernel
theorem dX11_walk_109 : decode cX11_walk 109 = .ok (.ireturn, 1) := by decide +kernel
theorem dX11_differing_0 : decode cX11_differing 0 = .ok (.iconst 0, 1) := by decide +kernel
theorem dX11_differing_1 : decode cX11_differing 1 = .ok (.istore_n 3, 1) := by decide +kernel
theorem dX11_differing_2 : decode cX11_differing 2 = .ok (.iconst 0, 1) := by decide +kernel
theorem dX11_differing_3 : decode cX11_differing 3 = .ok (.istore 4, 2) := by decide +kernel
theorem dX11_differing_5 : decode cX11_differing 5 = .ok (.iload 4, 2) := by decide +kernel
theorem dX11_differing_7 : decode cX11_differing 7 = .ok (.aload_n 0, 1) := by decide +kernel
theorem dX11_differing_8 : decode cX11_differing 8 = .ok (.getfield 27, 3) := by decide +kernel
theorem dX11_differing_11 : decode cX11_differing 11 = .ok (.getfield 88, 3) := by decide +kernel
theorem dX11_differing_14 : decode cX11_differing 14 = .ok (.getfield 147, 3) := by decide +kernel
theorem dX11_differing_17 : decode cX11_differing 17 = .ok (.if_icmp .ge 23, 3) := by decide +kernel
theorem dX11_differing_20 : decode cX11_differing 20 = .ok (.aload_n 1, 1) := by decide +kernel
theorem dX11_differing_21 : decode cX11_differing 21 = .ok (.iload 4, 2) := by decide +kernel
theorem dX11_differing_23 : decode cX11_differing 23 = .ok (.iaload, 1) := by decide +kernel
theorem dX11_differing_24 : decode cX11_differing 24 = .ok (.aload_n 2, 1) := by decide +kernel
theorem dX11_differing_25 : decode cX11_differing 25 = .ok (.iload 4, 2) := by decide +kernel
theorem dX11_differing_27 : decode cX11_differing 27 = .ok (.iaload, 1) := by decide +kernel
theorem dX11_differing_28 : decode cX11_differing 28 = .ok (.if_icmp .eq 6, 3) := by decide +kernel
theorem dX11_differing_34 : decode cX11_differing 34 = .ok (.iinc 4 1, 3) := by decide +kernel
theorem dX11_differing_37 : decode cX11_differing 37 = .ok (.goto (-32), 3) := by decide +kernel
theorem dX11_differing_31 : decode cX11_differing 31 = .ok (.iinc 3 1, 3) := by decide +kernel
theorem dX11_differing_40 : decode cX11_differing 40 = .ok (.iload_n 3, 1) := by decide +kernel
theorem dX11_differing_41 : decode cX11_differing 41 = .ok (.ireturn, 1) := by decide +kernel
theorem dX11_change_0 : decode cX11_change 0 = .ok (.aload_n 0, 1) := by decide +kernel
theorem dX11_change_1 : decode cX11_change 1 = .ok (.aload_n 0, 1) := by decide +kernel
theorem dX11_change_2 : decode cX11_change 2 = .ok (.getfield 27, 3) := by decide +kernel
theorem dX11_change_5 : decode cX11_change 5 = .ok (.getfield 133, 3) := by decide +kernel
theorem dX11_change_8 : decode cX11_change 8 = .ok (.iconst 0, 1) := by decide +kernel
theorem dX11_change_9 : decode cX11_change 9 = .ok (.aaload, 1) := by decide +kernel
theorem dX11_change_10 : decode cX11_change 10 = .ok (.aload_n 0, 1) := by decide +kernel
theorem dX11_change_11 : decode cX11_change 11 = .ok (.getfield 27, 3) := by decide +kernel
theorem dX11_change_14 : decode cX11_change 14 = .ok (.getfield 133, 3) := by decide +kernel
theorem dX11_change_17 : decode cX11_change 17 = .ok (.iconst 1, 1) := by decide +kernel
theorem dX11_change_18 : decode cX11_change 18 = .ok (.aaload, 1) := by decide +kernel
theorem dX11_change_19 : decode cX11_change 19 = .ok (.invokevirtual 329, 3) := by decide +kernel
theorem dX11_change_22 : decode cX11_change 22 = .ok (.ireturn, 1) := by decide +kernel
theorem dX11_signs_0 : decode cX11_signs 0 = .ok (.iload_n 1, 1) := by decide +kernel
theorem dX11_signs_1 : decode cX11_signs 1 = .ok (.invokestatic 122, 3) := by decide +kernel
theorem dX11_signs_4 : decode cX11_signs 4 = .ok (.ifCond .eq 25, 3) := by decide +kernel
theorem dX11_signs_29 : decode cX11_signs 29 = .ok (.bipush (-2), 2) := by decide +kernel
theorem dX11_signs_31 : decode cX11_signs 31 = .ok (.ireturn, 1) := by decide +kernel
theorem dX11_signs_7 : decode cX11_signs 7 = .ok (.aload_n 0, 1) := by decide +kernel
theorem dX11_signs_8 : decode cX11_signs 8 = .ok (.getfield 27, 3) := by decide +kernel
theorem dX11_signs_11 : decode cX11_signs 11 = .ok (.getfield 88, 3) := by decide +kernel
theorem dX11_signs_14 : decode cX11_signs 14 = .ok (.aload_n 0, 1) := by decide +kernel
theorem dX11_signs_15 : decode cX11_signs 15 = .ok (.getfield 27, 3) := by decide +kernel
theorem dX11_signs_18 : decode cX11_signs 18 = .ok (.getfield 133, 3) := by decide +kernel
theorem dX11_signs_21 : decode cX11_signs 21 = .ok (.iload_n 1, 1) := by decide +kernel
theorem dX11_signs_22 : decode cX11_signs 22 = .ok (.aaload, 1) := by decide +kernel
theorem dX11_signs_23 : decode cX11_signs 23 = .ok (.invokevirtual 333, 3) := by decide +kernel
theorem dX11_signs_26 : decode cX11_signs 26 = .ok (.goto 5, 3) := by decide +kernel
theorem dX11_gone_0 : decode cX11_gone 0 = .ok (.iload_n 1, 1) := by decide +kernel
theorem dX11_gone_1 : decode cX11_gone 1 = .ok (.invokestatic 122, 3) := by decide +kernel
theorem dX11_gone_4 : decode cX11_gone 4 = .ok (.ifCond .eq 11, 3) := by decide +kernel
theorem dX11_gone_15 : decode cX11_gone 15 = .ok (.bipush (-2), 2) := by decide +kernel
theorem dX11_gone_17 : decode cX11_gone 17 = .ok (.ireturn, 1) := by decide +kernel
theorem dX11_gone_7 : decode cX11_gone 7 = .ok (.aload_n 0, 1) := by decide +kernel
theorem dX11_gone_8 : decode cX11_gone 8 = .ok (.iload_n 2, 1) := by decide +kernel
theorem dX11_gone_9 : decode cX11_gone 9 = .ok (.invokevirtual 201, 3) := by decide +kernel
theorem dX11_gone_12 : decode cX11_gone 12 = .ok (.ifCond .ne 6, 3) := by decide +kernel
theorem dX11_gone_18 : decode cX11_gone 18 = .ok (.iload_n 3, 1) := by decide +kernel
theorem dX11_gone_19 : decode cX11_gone 19 = .ok (.ifCond .ge 7, 3) := by decide +kernel
theorem dX11_gone_26 : decode cX11_gone 26 = .ok (.aload_n 0, 1) := by decide +kernel
theorem dX11_gone_27 : decode cX11_gone 27 = .ok (.getfield 44, 3) := by decide +kernel
theorem dX11_gone_30 : decode cX11_gone 30 = .ok (.aload_n 0, 1) := by decide +kernel
theorem dX11_gone_31 : decode cX11_gone 31 = .ok (.getfield 27, 3) := by decide +kernel
theorem dX11_gone_34 : decode cX11_gone 34 = .ok (.getfield 88, 3) := by decide +kernel
theorem dX11_gone_37 : decode cX11_gone 37 = .ok (.aload_n 0, 1) := by decide +kernel
theorem dX11_gone_38 : decode cX11_gone 38 = .ok (.getfield 27, 3) := by decide +kernel
theorem dX11_gone_41 : decode cX11_gone 41 = .ok (.getfield 133, 3) := by decide +kernel
theorem dX11_gone_44 : decode cX11_gone 44 = .ok (.iload_n 1, 1) := by decide +kernel
theorem dX11_gone_45 : decode cX11_gone 45 = .ok (.aaload, 1) := by decide +kernel
theorem dX11_gone_46 : decode cX11_gone 46 = .ok (.iload_n 2, 1) := by decide +kernel
theorem dX11_gone_47 : decode cX11_gone 47 = .ok (.iload_n 3, 1) := by decide +kernel
theorem dX11_gone_48 : decode cX11_gone 48 = .ok (.invokevirtual 336, 3) := by decide +kernel
theorem dX11_gone_51 : decode cX11_gone 51 = .ok (.ireturn, 1) := by decide +kernel
theorem dX11_gone_22 : decode cX11_gone 22 = .ok (.iconst (-1), 1) := by decide +kernel
theorem dX11_gone_23 : decode cX11_gone 23 = .ok (.goto 28, 3) := by decide +kernel
theorem dX11_load_0 : decode cX11_load 0 = .ok (.iload_n 1, 1) := by decide +kernel
theorem dX11_load_1 : decode cX11_load 1 = .ok (.invokestatic 122, 3) := by decide +kernel
theorem dX11_load_4 : decode cX11_load 4 = .ok (.ifCond .eq 11, 3) := by decide +kernel
theorem dX11_load_15 : decode cX11_load 15 = .ok (.bipush (-2), 2) := by decide +kernel
theorem dX11_load_17 : decode cX11_load 17 = .ok (.ireturn, 1) := by decide +kernel
theorem dX11_load_7 : decode cX11_load 7 = .ok (.aload_n 0, 1) := by decide +kernel
theorem dX11_load_8 : decode cX11_load 8 = .ok (.iload_n 2, 1) := by decide +kernel
theorem dX11_load_9 : decode cX11_load 9 = .ok (.invokevirtual 126, 3) := by decide +kernel
theorem dX11_load_12 : decode cX11_load 12 = .ok (.ifCond .ne 6, 3) := by decide +kernel
theorem dX11_load_18 : decode cX11_load 18 = .ok (.aload_n 0, 1) := by decide +kernel
theorem dX11_load_19 : decode cX11_load 19 = .ok (.getfield 44, 3) := by decide +kernel
theorem dX11_load_22 : decode cX11_load 22 = .ok (.aload_n 0, 1) := by decide +kernel
theorem dX11_load_23 : decode cX11_load 23 = .ok (.getfield 27, 3) := by decide +kernel
theorem dX11_load_26 : decode cX11_load 26 = .ok (.getfield 88, 3) := by decide +kernel
theorem dX11_load_29 : decode cX11_load 29 = .ok (.aload_n 0, 1) := by decide +kernel
theorem dX11_load_30 : decode cX11_load 30 = .ok (.getfield 27, 3) := by decide +kernel
theorem dX11_load_33 : decode cX11_load 33 = .ok (.getfield 133, 3) := by decide +kernel
theorem dX11_load_36 : decode cX11_load 36 = .ok (.iload_n 1, 1) := by decide +kernel
theorem dX11_load_37 : decode cX11_load 37 = .ok (.aaload, 1) := by decide +kernel
theorem dX11_load_38 : decode cX11_load 38 = .ok (.invokevirtual 339, 3) := by decide +kernel
theorem dX11_load_41 : decode cX11_load 41 = .ok (.aload_n 0, 1) := by decide +kernel
theorem dX11_load_42 : decode cX11_load 42 = .ok (.getfield 44, 3) := by decide +kernel
theorem dX11_load_45 : decode cX11_load 45 = .ok (.getfield 343, 3) := by decide +kernel
theorem dX11_load_48 : decode cX11_load 48 = .ok (.iload_n 2, 1) := by decide +kernel
theorem dX11_load_49 : decode cX11_load 49 = .ok (.iaload, 1) := by decide +kernel
theorem dX11_load_50 : decode cX11_load 50 = .ok (.ireturn, 1) := by decide +kernel
theorem dX11_busiest_0 : decode cX11_busiest 0 = .ok (.iload_n 1, 1) := by decide +kernel
theorem dX11_busiest_1 : decode cX11_busiest 1 = .ok (.invokestatic 122, 3) := by decide +kernel
theorem dX11_busiest_4 : decode cX11_busiest 4 = .ok (.ifCond .ne 6, 3) := by decide +kernel
theorem dX11_busiest_7 : decode cX11_busiest 7 = .ok (.bipush (-2), 2) := by decide +kernel
theorem dX11_busiest_9 : decode cX11_busiest 9 = .ok (.ireturn, 1) := by decide +kernel
theorem dX11_busiest_10 : decode cX11_busiest 10 = .ok (.aload_n 0, 1) := by decide +kernel
theorem dX11_busiest_11 : decode cX11_busiest 11 = .ok (.getfield 44, 3) := by decide +kernel
theorem dX11_busiest_14 : decode cX11_busiest 14 = .ok (.aload_n 0, 1) := by decide +kernel
theorem dX11_busiest_15 : decode cX11_busiest 15 = .ok (.getfield 27, 3) := by decide +kernel
theorem dX11_busiest_18 : decode cX11_busiest 18 = .ok (.getfield 88, 3) := by decide +kernel
theorem dX11_busiest_21 : decode cX11_busiest 21 = .ok (.aload_n 0, 1) := by decide +kernel
theorem dX11_busiest_22 : decode cX11_busiest 22 = .ok (.getfield 27, 3) := by decide +kernel
theorem dX11_busiest_25 : decode cX11_busiest 25 = .ok (.getfield 133, 3) := by decide +kernel
theorem dX11_busiest_28 : decode cX11_busiest 28 = .ok (.iload_n 1, 1) := by decide +kernel
theorem dX11_busiest_29 : decode cX11_busiest 29 = .ok (.aaload, 1) := by decide +kernel
theorem dX11_busiest_30 : decode cX11_busiest 30 = .ok (.invokevirtual 339, 3) := by decide +kernel
theorem dX11_busiest_33 : decode cX11_busiest 33 = .ok (.iconst (-1), 1) := by decide +kernel
theorem dX11_busiest_34 : decode cX11_busiest 34 = .ok (.istore_n 2, 1) := by decide +kernel
theorem dX11_busiest_35 : decode cX11_busiest 35 = .ok (.iconst 0, 1) := by decide +kernel
theorem dX11_busiest_36 : decode cX11_busiest 36 = .ok (.istore_n 3, 1) := by decide +kernel
theorem dX11_busiest_37 : decode cX11_busiest 37 = .ok (.iload_n 3, 1) := by decide +kernel
theorem dX11_busiest_38 : decode cX11_busiest 38 = .ok (.aload_n 0, 1) := by decide +kernel
theorem dX11_busiest_39 : decode cX11_busiest 39 = .ok (.getfield 27, 3) := by decide +kernel
theorem dX11_busiest_42 : decode cX11_busiest 42 = .ok (.getfield 88, 3) := by decide +kernel
theorem dX11_busiest_45 : decode cX11_busiest 45 = .ok (.getfield 147, 3) := by decide +kernel
theorem dX11_busiest_48 : decode cX11_busiest 48 = .ok (.if_icmp .ge 37, 3) := by decide +kernel
theorem dX11_busiest_51 : decode cX11_busiest 51 = .ok (.iload_n 2, 1) := by decide +kernel
theorem dX11_busiest_52 : decode cX11_busiest 52 = .ok (.iconst (-1), 1) := by decide +kernel
theorem dX11_busiest_53 : decode cX11_busiest 53 = .ok (.if_icmp .eq 24, 3) := by decide +kernel
theorem dX11_busiest_77 : decode cX11_busiest 77 = .ok (.iload_n 3, 1) := by decide +kernel
theorem dX11_busiest_78 : decode cX11_busiest 78 = .ok (.istore_n 2, 1) := by decide +kernel
theorem dX11_busiest_79 : decode cX11_busiest 79 = .ok (.iinc 3 1, 3) := by decide +kernel
theorem dX11_busiest_82 : decode cX11_busiest 82 = .ok (.goto (-45), 3) := by decide +kernel
theorem dX11_busiest_56 : decode cX11_busiest 56 = .ok (.aload_n 0, 1) := by decide +kernel
theorem dX11_busiest_57 : decode cX11_busiest 57 = .ok (.getfield 44, 3) := by decide +kernel
theorem dX11_busiest_60 : decode cX11_busiest 60 = .ok (.getfield 343, 3) := by decide +kernel
theorem dX11_busiest_63 : decode cX11_busiest 63 = .ok (.iload_n 3, 1) := by decide +kernel
theorem dX11_busiest_64 : decode cX11_busiest 64 = .ok (.iaload, 1) := by decide +kernel
theorem dX11_busiest_65 : decode cX11_busiest 65 = .ok (.aload_n 0, 1) := by decide +kernel
theorem dX11_busiest_66 : decode cX11_busiest 66 = .ok (.getfield 44, 3) := by decide +kernel
theorem dX11_busiest_69 : decode cX11_busiest 69 = .ok (.getfield 343, 3) := by decide +kernel
theorem dX11_busiest_72 : decode cX11_busiest 72 = .ok (.iload_n 2, 1) := by decide +kernel
theorem dX11_busiest_73 : decode cX11_busiest 73 = .ok (.iaload, 1) := by decide +kernel
theorem dX11_busiest_74 : decode cX11_busiest 74 = .ok (.if_icmp .le 5, 3) := by decide +kernel
theorem dX11_busiest_85 : decode cX11_busiest 85 = .ok (.iload_n 2, 1) := by decide +kernel
theorem dX11_busiest_86 : decode cX11_busiest 86 = .ok (.ireturn, 1) := by decide +kernel
theorem dX11_takeAsWays_0 : decode cX11_takeAsWays 0 = .ok (.aload_n 1, 1) := by decide +kernel
theorem dX11_takeAsWays_1 : decode cX11_takeAsWays 1 = .ok (.getfield 144, 3) := by decide +kernel
theorem dX11_takeAsWays_4 : decode cX11_takeAsWays 4 = .ok (.aload_n 0, 1) := by decide +kernel
theorem dX11_takeAsWays_5 : decode cX11_takeAsWays 5 = .ok (.getfield 27, 3) := by decide +kernel
theorem dX11_takeAsWays_8 : decode cX11_takeAsWays 8 = .ok (.getfield 88, 3) := by decide +kernel
theorem dX11_takeAsWays_11 : decode cX11_takeAsWays 11 = .ok (.getfield 147, 3) := by decide +kernel
theorem dX11_takeAsWays_14 : decode cX11_takeAsWays 14 = .ok (.if_icmp .eq 5, 3) := by decide +kernel
theorem dX11_takeAsWays_19 : decode cX11_takeAsWays 19 = .ok (.iconst 0, 1) := by decide +kernel
theorem dX11_takeAsWays_20 : decode cX11_takeAsWays 20 = .ok (.istore_n 2, 1) := by decide +kernel
theorem dX11_takeAsWays_21 : decode cX11_takeAsWays 21 = .ok (.iload_n 2, 1) := by decide +kernel
theorem dX11_takeAsWays_22 : decode cX11_takeAsWays 22 = .ok (.aload_n 0, 1) := by decide +kernel
theorem dX11_takeAsWays_23 : decode cX11_takeAsWays 23 = .ok (.getfield 27, 3) := by decide +kernel
theorem dX11_takeAsWays_26 : decode cX11_takeAsWays 26 = .ok (.getfield 88, 3) := by decide +kernel
theorem dX11_takeAsWays_29 : decode cX11_takeAsWays 29 = .ok (.getfield 147, 3) := by decide +kernel
theorem dX11_takeAsWays_32 : decode cX11_takeAsWays 32 = .ok (.if_icmp .ge 44, 3) := by decide +kernel
theorem dX11_takeAsWays_35 : decode cX11_takeAsWays 35 = .ok (.aload_n 0, 1) := by decide +kernel
theorem dX11_takeAsWays_36 : decode cX11_takeAsWays 36 = .ok (.getfield 27, 3) := by decide +kernel
theorem dX11_takeAsWays_39 : decode cX11_takeAsWays 39 = .ok (.getfield 88, 3) := by decide +kernel
theorem dX11_takeAsWays_42 : decode cX11_takeAsWays 42 = .ok (.iload_n 2, 1) := by decide +kernel
theorem dX11_takeAsWays_43 : decode cX11_takeAsWays 43 = .ok (.aload_n 1, 1) := by decide +kernel
theorem dX11_takeAsWays_44 : decode cX11_takeAsWays 44 = .ok (.getfield 156, 3) := by decide +kernel
theorem dX11_takeAsWays_47 : decode cX11_takeAsWays 47 = .ok (.iload_n 2, 1) := by decide +kernel
theorem dX11_takeAsWays_48 : decode cX11_takeAsWays 48 = .ok (.laload, 1) := by decide +kernel
theorem dX11_takeAsWays_49 : decode cX11_takeAsWays 49 = .ok (.invokevirtual 353, 3) := by decide +kernel
theorem dX11_takeAsWays_52 : decode cX11_takeAsWays 52 = .ok (.ifCond .ne 5, 3) := by decide +kernel
theorem dX11_takeAsWays_55 : decode cX11_takeAsWays 55 = .ok (.iconst 0, 1) := by decide +kernel
theorem dX11_takeAsWays_56 : decode cX11_takeAsWays 56 = .ok (.ireturn, 1) := by decide +kernel
theorem dX11_takeAsWays_57 : decode cX11_takeAsWays 57 = .ok (.aload_n 0, 1) := by decide +kernel
theorem dX11_takeAsWays_58 : decode cX11_takeAsWays 58 = .ok (.getfield 71, 3) := by decide +kernel
theorem dX11_takeAsWays_61 : decode cX11_takeAsWays 61 = .ok (.iload_n 2, 1) := by decide +kernel
theorem dX11_takeAsWays_62 : decode cX11_takeAsWays 62 = .ok (.aload_n 1, 1) := by decide +kernel
theorem dX11_takeAsWays_63 : decode cX11_takeAsWays 63 = .ok (.getfield 156, 3) := by decide +kernel
theorem dX11_takeAsWays_66 : decode cX11_takeAsWays 66 = .ok (.iload_n 2, 1) := by decide +kernel
theorem dX11_takeAsWays_67 : decode cX11_takeAsWays 67 = .ok (.laload, 1) := by decide +kernel
theorem dX11_takeAsWays_68 : decode cX11_takeAsWays 68 = .ok (.l2i, 1) := by decide +kernel
theorem dX11_takeAsWays_69 : decode cX11_takeAsWays 69 = .ok (.iastore, 1) := by decide +kernel
theorem dX11_takeAsWays_70 : decode cX11_takeAsWays 70 = .ok (.iinc 2 1, 3) := by decide +kernel
theorem dX11_takeAsWays_73 : decode cX11_takeAsWays 73 = .ok (.goto (-52), 3) := by decide +kernel
theorem dX11_takeAsWays_76 : decode cX11_takeAsWays 76 = .ok (.iconst 1, 1) := by decide +kernel
theorem dX11_takeAsWays_77 : decode cX11_takeAsWays 77 = .ok (.ireturn, 1) := by decide +kernel
theorem dX11_takeAsWays_17 : decode cX11_takeAsWays 17 = .ok (.iconst 0, 1) := by decide +kernel
theorem dX11_takeAsWays_18 : decode cX11_takeAsWays 18 = .ok (.ireturn, 1) := by decide +kernel
theorem dX11_judgeWays_0 : decode cX11_judgeWays 0 = .ok (.iload_n 1, 1) := by decide +kernel
theorem dX11_judgeWays_1 : decode cX11_judgeWays 1 = .ok (.tableswitch 138 1 5 #[35, 62, 84, 105, 120], 35) := by decide +kernel
theorem dX11_judgeWays_139 : decode cX11_judgeWays 139 = .ok (.aload_n 0, 1) := by decide +kernel
theorem dX11_judgeWays_140 : decode cX11_judgeWays 140 = .ok (.getfield 27, 3) := by decide +kernel
theorem dX11_judgeWays_143 : decode cX11_judgeWays 143 = .ok (.getfield 88, 3) := by decide +kernel
theorem dX11_judgeWays_146 : decode cX11_judgeWays 146 = .ok (.aload_n 0, 1) := by decide +kernel
theorem dX11_judgeWays_147 : decode cX11_judgeWays 147 = .ok (.getfield 71, 3) := by decide +kernel
theorem dX11_judgeWays_150 : decode cX11_judgeWays 150 = .ok (.invokevirtual 275, 3) := by decide +kernel
theorem dX11_judgeWays_153 : decode cX11_judgeWays 153 = .ok (.ireturn, 1) := by decide +kernel
theorem dX11_judgeWays_36 : decode cX11_judgeWays 36 = .ok (.aload_n 0, 1) := by decide +kernel
theorem dX11_judgeWays_37 : decode cX11_judgeWays 37 = .ok (.getfield 44, 3) := by decide +kernel
theorem dX11_judgeWays_40 : decode cX11_judgeWays 40 = .ok (.aload_n 0, 1) := by decide +kernel
theorem dX11_judgeWays_41 : decode cX11_judgeWays 41 = .ok (.getfield 27, 3) := by decide +kernel
theorem dX11_judgeWays_44 : decode cX11_judgeWays 44 = .ok (.getfield 88, 3) := by decide +kernel
theorem dX11_judgeWays_47 : decode cX11_judgeWays 47 = .ok (.aload_n 0, 1) := by decide +kernel
theorem dX11_judgeWays_48 : decode cX11_judgeWays 48 = .ok (.getfield 71, 3) := by decide +kernel
theorem dX11_judgeWays_51 : decode cX11_judgeWays 51 = .ok (.invokevirtual 160, 3) := by decide +kernel
theorem dX11_judgeWays_54 : decode cX11_judgeWays 54 = .ok (.ifCond .eq 7, 3) := by decide +kernel
theorem dX11_judgeWays_61 : decode cX11_judgeWays 61 = .ok (.iconst 0, 1) := by decide +kernel
theorem dX11_judgeWays_62 : decode cX11_judgeWays 62 = .ok (.ireturn, 1) := by decide +kernel
theorem dX11_judgeWays_57 : decode cX11_judgeWays 57 = .ok (.iconst 1, 1) := by decide +kernel
theorem dX11_judgeWays_58 : decode cX11_judgeWays 58 = .ok (.goto 4, 3) := by decide +kernel
theorem dX11_judgeWays_63 : decode cX11_judgeWays 63 = .ok (.aload_n 0, 1) := by decide +kernel
theorem dX11_judgeWays_64 : decode cX11_judgeWays 64 = .ok (.getfield 44, 3) := by decide +kernel
theorem dX11_judgeWays_67 : decode cX11_judgeWays 67 = .ok (.aload_n 0, 1) := by decide +kernel
theorem dX11_judgeWays_68 : decode cX11_judgeWays 68 = .ok (.getfield 27, 3) := by decide +kernel
theorem dX11_judgeWays_71 : decode cX11_judgeWays 71 = .ok (.getfield 88, 3) := by decide +kernel
theorem dX11_judgeWays_74 : decode cX11_judgeWays 74 = .ok (.aload_n 0, 1) := by decide +kernel
theorem dX11_judgeWays_75 : decode cX11_judgeWays 75 = .ok (.getfield 71, 3) := by decide +kernel
theorem dX11_judgeWays_78 : decode cX11_judgeWays 78 = .ok (.iconst 0, 1) := by decide +kernel
theorem dX11_judgeWays_79 : decode cX11_judgeWays 79 = .ok (.ldc 207, 2) := by decide +kernel
theorem dX11_judgeWays_81 : decode cX11_judgeWays 81 = .ok (.invokevirtual 208, 3) := by decide +kernel
theorem dX11_judgeWays_84 : decode cX11_judgeWays 84 = .ok (.ireturn, 1) := by decide +kernel
theorem dX11_judgeWays_85 : decode cX11_judgeWays 85 = .ok (.aload_n 0, 1) := by decide +kernel
theorem dX11_judgeWays_86 : decode cX11_judgeWays 86 = .ok (.getfield 44, 3) := by decide +kernel
theorem dX11_judgeWays_89 : decode cX11_judgeWays 89 = .ok (.aload_n 0, 1) := by decide +kernel
theorem dX11_judgeWays_90 : decode cX11_judgeWays 90 = .ok (.getfield 27, 3) := by decide +kernel
theorem dX11_judgeWays_93 : decode cX11_judgeWays 93 = .ok (.getfield 88, 3) := by decide +kernel
theorem dX11_judgeWays_96 : decode cX11_judgeWays 96 = .ok (.aload_n 0, 1) := by decide +kernel
theorem dX11_judgeWays_97 : decode cX11_judgeWays 97 = .ok (.getfield 71, 3) := by decide +kernel
theorem dX11_judgeWays_100 : decode cX11_judgeWays 100 = .ok (.ldc 207, 2) := by decide +kernel
theorem dX11_judgeWays_102 : decode cX11_judgeWays 102 = .ok (.invokevirtual 212, 3) := by decide +kernel
theorem dX11_judgeWays_105 : decode cX11_judgeWays 105 = .ok (.ireturn, 1) := by decide +kernel
theorem dX11_judgeWays_106 : decode cX11_judgeWays 106 = .ok (.aload_n 0, 1) := by decide +kernel
theorem dX11_judgeWays_107 : decode cX11_judgeWays 107 = .ok (.getfield 27, 3) := by decide +kernel
theorem dX11_judgeWays_110 : decode cX11_judgeWays 110 = .ok (.getfield 88, 3) := by decide +kernel
theorem dX11_judgeWays_113 : decode cX11_judgeWays 113 = .ok (.aload_n 0, 1) := by decide +kernel
theorem dX11_judgeWays_114 : decode cX11_judgeWays 114 = .ok (.getfield 71, 3) := by decide +kernel
theorem dX11_judgeWays_117 : decode cX11_judgeWays 117 = .ok (.invokevirtual 333, 3) := by decide +kernel
theorem dX11_judgeWays_120 : decode cX11_judgeWays 120 = .ok (.ireturn, 1) := by decide +kernel
theorem dX11_judgeWays_121 : decode cX11_judgeWays 121 = .ok (.aload_n 0, 1) := by decide +kernel
theorem dX11_judgeWays_122 : decode cX11_judgeWays 122 = .ok (.aload_n 0, 1) := by decide +kernel
theorem dX11_judgeWays_123 : decode cX11_judgeWays 123 = .ok (.getfield 27, 3) := by decide +kernel
theorem dX11_judgeWays_126 : decode cX11_judgeWays 126 = .ok (.getfield 133, 3) := by decide +kernel
theorem dX11_judgeWays_129 : decode cX11_judgeWays 129 = .ok (.iconst 0, 1) := by decide +kernel
theorem dX11_judgeWays_130 : decode cX11_judgeWays 130 = .ok (.aaload, 1) := by decide +kernel
theorem dX11_judgeWays_131 : decode cX11_judgeWays 131 = .ok (.aload_n 0, 1) := by decide +kernel
theorem dX11_judgeWays_132 : decode cX11_judgeWays 132 = .ok (.getfield 71, 3) := by decide +kernel
theorem dX11_judgeWays_135 : decode cX11_judgeWays 135 = .ok (.invokevirtual 329, 3) := by decide +kernel
theorem dX11_judgeWays_138 : decode cX11_judgeWays 138 = .ok (.ireturn, 1) := by decide +kernel
theorem dX11_judge_0 : decode cX11_judge 0 = .ok (.iload_n 1, 1) := by decide +kernel
theorem dX11_judge_1 : decode cX11_judge 1 = .ok (.invokestatic 137, 3) := by decide +kernel
theorem dX11_judge_4 : decode cX11_judge 4 = .ok (.ifCond .eq 13, 3) := by decide +kernel
theorem dX11_judge_17 : decode cX11_judge 17 = .ok (.bipush (-2), 2) := by decide +kernel
theorem dX11_judge_19 : decode cX11_judge 19 = .ok (.ireturn, 1) := by decide +kernel
theorem dX11_judge_7 : decode cX11_judge 7 = .ok (.iload_n 2, 1) := by decide +kernel
theorem dX11_judge_8 : decode cX11_judge 8 = .ok (.ifCond .lt 9, 3) := by decide +kernel
theorem dX11_judge_11 : decode cX11_judge 11 = .ok (.iload_n 2, 1) := by decide +kernel
theorem dX11_judge_12 : decode cX11_judge 12 = .ok (.bipush 6, 2) := by decide +kernel
theorem dX11_judge_14 : decode cX11_judge 14 = .ok (.if_icmp .le 6, 3) := by decide +kernel
theorem dX11_judge_20 : decode cX11_judge 20 = .ok (.aload_n 0, 1) := by decide +kernel
theorem dX11_judge_21 : decode cX11_judge 21 = .ok (.getfield 37, 3) := by decide +kernel
theorem dX11_judge_24 : decode cX11_judge 24 = .ok (.iload_n 1, 1) := by decide +kernel
theorem dX11_judge_25 : decode cX11_judge 25 = .ok (.aaload, 1) := by decide +kernel
theorem dX11_judge_26 : decode cX11_judge 26 = .ok (.invokevirtual 140, 3) := by decide +kernel
theorem dX11_judge_29 : decode cX11_judge 29 = .ok (.ifCond .ne 6, 3) := by decide +kernel
theorem dX11_judge_32 : decode cX11_judge 32 = .ok (.bipush (-6), 2) := by decide +kernel
theorem dX11_judge_34 : decode cX11_judge 34 = .ok (.ireturn, 1) := by decide +kernel
theorem dX11_judge_35 : decode cX11_judge 35 = .ok (.aload_n 0, 1) := by decide +kernel
theorem dX11_judge_36 : decode cX11_judge 36 = .ok (.aload_n 0, 1) := by decide +kernel
theorem dX11_judge_37 : decode cX11_judge 37 = .ok (.getfield 37, 3) := by decide +kernel
theorem dX11_judge_40 : decode cX11_judge 40 = .ok (.iload_n 1, 1) := by decide +kernel
theorem dX11_judge_41 : decode cX11_judge 41 = .ok (.aaload, 1) := by decide +kernel
theorem dX11_judge_42 : decode cX11_judge 42 = .ok (.invokevirtual 346, 3) := by decide +kernel
theorem dX11_judge_45 : decode cX11_judge 45 = .ok (.istore_n 3, 1) := by decide +kernel
theorem dX11_judge_46 : decode cX11_judge 46 = .ok (.iload_n 2, 1) := by decide +kernel
theorem dX11_judge_47 : decode cX11_judge 47 = .ok (.ifCond .ne 13, 3) := by decide +kernel
theorem dX11_judge_60 : decode cX11_judge 60 = .ok (.iload_n 3, 1) := by decide +kernel
theorem dX11_judge_61 : decode cX11_judge 61 = .ok (.ifCond .eq 11, 3) := by decide +kernel
theorem dX11_judge_72 : decode cX11_judge 72 = .ok (.iconst (-1), 1) := by decide +kernel
theorem dX11_judge_73 : decode cX11_judge 73 = .ok (.ireturn, 1) := by decide +kernel
theorem dX11_judge_64 : decode cX11_judge 64 = .ok (.aload_n 0, 1) := by decide +kernel
theorem dX11_judge_65 : decode cX11_judge 65 = .ok (.iload_n 2, 1) := by decide +kernel
theorem dX11_judge_66 : decode cX11_judge 66 = .ok (.invokevirtual 350, 3) := by decide +kernel
theorem dX11_judge_69 : decode cX11_judge 69 = .ok (.goto 4, 3) := by decide +kernel
theorem dX11_judge_50 : decode cX11_judge 50 = .ok (.iload_n 3, 1) := by decide +kernel
theorem dX11_judge_51 : decode cX11_judge 51 = .ok (.ifCond .eq 7, 3) := by decide +kernel
theorem dX11_judge_58 : decode cX11_judge 58 = .ok (.iconst 0, 1) := by decide +kernel
theorem dX11_judge_59 : decode cX11_judge 59 = .ok (.ireturn, 1) := by decide +kernel
theorem dX11_judge_54 : decode cX11_judge 54 = .ok (.iconst 1, 1) := by decide +kernel
theorem dX11_judge_55 : decode cX11_judge 55 = .ok (.goto 4, 3) := by decide +kernel
theorem dX11_spare_0 : decode cX11_spare 0 = .ok (.iload_n 1, 1) := by decide +kernel
theorem dX11_spare_1 : decode cX11_spare 1 = .ok (.invokestatic 122, 3) := by decide +kernel
theorem dX11_spare_4 : decode cX11_spare 4 = .ok (.ifCond .eq 14, 3) := by decide +kernel
theorem dX11_spare_18 : decode cX11_spare 18 = .ok (.bipush (-2), 2) := by decide +kernel
theorem dX11_spare_20 : decode cX11_spare 20 = .ok (.ireturn, 1) := by decide +kernel
theorem dX11_spare_7 : decode cX11_spare 7 = .ok (.iload_n 2, 1) := by decide +kernel
theorem dX11_spare_8 : decode cX11_spare 8 = .ok (.iconst 1, 1) := by decide +kernel
theorem dX11_spare_9 : decode cX11_spare 9 = .ok (.if_icmp .lt 9, 3) := by decide +kernel
theorem dX11_spare_12 : decode cX11_spare 12 = .ok (.iload_n 2, 1) := by decide +kernel
theorem dX11_spare_13 : decode cX11_spare 13 = .ok (.bipush 60, 2) := by decide +kernel
theorem dX11_spare_15 : decode cX11_spare 15 = .ok (.if_icmp .le 6, 3) := by decide +kernel
theorem dX11_spare_21 : decode cX11_spare 21 = .ok (.aload_n 0, 1) := by decide +kernel
theorem dX11_spare_22 : decode cX11_spare 22 = .ok (.getfield 44, 3) := by decide +kernel
theorem dX11_spare_25 : decode cX11_spare 25 = .ok (.aload_n 0, 1) := by decide +kernel
theorem dX11_spare_26 : decode cX11_spare 26 = .ok (.getfield 27, 3) := by decide +kernel
theorem dX11_spare_29 : decode cX11_spare 29 = .ok (.getfield 88, 3) := by decide +kernel
theorem dX11_spare_32 : decode cX11_spare 32 = .ok (.aload_n 0, 1) := by decide +kernel
theorem dX11_spare_33 : decode cX11_spare 33 = .ok (.getfield 27, 3) := by decide +kernel
theorem dX11_spare_36 : decode cX11_spare 36 = .ok (.getfield 133, 3) := by decide +kernel
theorem dX11_spare_39 : decode cX11_spare 39 = .ok (.iload_n 1, 1) := by decide +kernel
theorem dX11_spare_40 : decode cX11_spare 40 = .ok (.aaload, 1) := by decide +kernel
theorem dX11_spare_41 : decode cX11_spare 41 = .ok (.iconst 0, 1) := by decide +kernel
theorem dX11_spare_42 : decode cX11_spare 42 = .ok (.ldc 207, 2) := by decide +kernel
theorem dX11_spare_44 : decode cX11_spare 44 = .ok (.invokevirtual 208, 3) := by decide +kernel
theorem dX11_spare_47 : decode cX11_spare 47 = .ok (.iconst (-1), 1) := by decide +kernel
theorem dX11_spare_48 : decode cX11_spare 48 = .ok (.if_icmp .ne 6, 3) := by decide +kernel
theorem dX11_spare_54 : decode cX11_spare 54 = .ok (.aload_n 0, 1) := by decide +kernel
theorem dX11_spare_55 : decode cX11_spare 55 = .ok (.getfield 44, 3) := by decide +kernel
theorem dX11_spare_58 : decode cX11_spare 58 = .ok (.aload_n 0, 1) := by decide +kernel
theorem dX11_spare_59 : decode cX11_spare 59 = .ok (.getfield 27, 3) := by decide +kernel
theorem dX11_spare_62 : decode cX11_spare 62 = .ok (.getfield 88, 3) := by decide +kernel
theorem dX11_spare_65 : decode cX11_spare 65 = .ok (.aload_n 0, 1) := by decide +kernel
theorem dX11_spare_66 : decode cX11_spare 66 = .ok (.getfield 27, 3) := by decide +kernel
theorem dX11_spare_69 : decode cX11_spare 69 = .ok (.getfield 133, 3) := by decide +kernel
theorem dX11_spare_72 : decode cX11_spare 72 = .ok (.iload_n 1, 1) := by decide +kernel
theorem dX11_spare_73 : decode cX11_spare 73 = .ok (.aaload, 1) := by decide +kernel
theorem dX11_spare_74 : decode cX11_spare 74 = .ok (.aload_n 0, 1) := by decide +kernel
theorem dX11_spare_75 : decode cX11_spare 75 = .ok (.getfield 44, 3) := by decide +kernel
theorem dX11_spare_78 : decode cX11_spare 78 = .ok (.getfield 253, 3) := by decide +kernel
theorem dX11_spare_81 : decode cX11_spare 81 = .ok (.invokevirtual 256, 3) := by decide +kernel
theorem dX11_spare_84 : decode cX11_spare 84 = .ok (.iconst (-1), 1) := by decide +kernel
theorem dX11_spare_85 : decode cX11_spare 85 = .ok (.istore_n 3, 1) := by decide +kernel
theorem dX11_spare_86 : decode cX11_spare 86 = .ok (.iconst 0, 1) := by decide +kernel
theorem dX11_spare_87 : decode cX11_spare 87 = .ok (.istore 4, 2) := by decide +kernel
theorem dX11_spare_89 : decode cX11_spare 89 = .ok (.iload 4, 2) := by decide +kernel
theorem dX11_spare_91 : decode cX11_spare 91 = .ok (.aload_n 0, 1) := by decide +kernel
theorem dX11_spare_92 : decode cX11_spare 92 = .ok (.getfield 27, 3) := by decide +kernel
theorem dX11_spare_95 : decode cX11_spare 95 = .ok (.getfield 88, 3) := by decide +kernel
theorem dX11_spare_98 : decode cX11_spare 98 = .ok (.getfield 175, 3) := by decide +kernel
theorem dX11_spare_101 : decode cX11_spare 101 = .ok (.if_icmp .ge 78, 3) := by decide +kernel
theorem dX11_spare_104 : decode cX11_spare 104 = .ok (.iload 4, 2) := by decide +kernel
theorem dX11_spare_106 : decode cX11_spare 106 = .ok (.iconst 1, 1) := by decide +kernel
theorem dX11_spare_107 : decode cX11_spare 107 = .ok (.iadd, 1) := by decide +kernel
theorem dX11_spare_108 : decode cX11_spare 108 = .ok (.istore 5, 2) := by decide +kernel
theorem dX11_spare_110 : decode cX11_spare 110 = .ok (.iload 5, 2) := by decide +kernel
theorem dX11_spare_112 : decode cX11_spare 112 = .ok (.aload_n 0, 1) := by decide +kernel
theorem dX11_spare_113 : decode cX11_spare 113 = .ok (.getfield 27, 3) := by decide +kernel
theorem dX11_spare_116 : decode cX11_spare 116 = .ok (.getfield 88, 3) := by decide +kernel
theorem dX11_spare_119 : decode cX11_spare 119 = .ok (.getfield 175, 3) := by decide +kernel
theorem dX11_spare_122 : decode cX11_spare 122 = .ok (.if_icmp .ge 51, 3) := by decide +kernel
theorem dX11_spare_125 : decode cX11_spare 125 = .ok (.aload_n 0, 1) := by decide +kernel
theorem dX11_spare_126 : decode cX11_spare 126 = .ok (.getfield 44, 3) := by decide +kernel
theorem dX11_spare_129 : decode cX11_spare 129 = .ok (.aload_n 0, 1) := by decide +kernel
theorem dX11_spare_130 : decode cX11_spare 130 = .ok (.getfield 27, 3) := by decide +kernel
theorem dX11_spare_133 : decode cX11_spare 133 = .ok (.getfield 88, 3) := by decide +kernel
theorem dX11_spare_136 : decode cX11_spare 136 = .ok (.iload 4, 2) := by decide +kernel
theorem dX11_spare_138 : decode cX11_spare 138 = .ok (.iload 5, 2) := by decide +kernel
theorem dX11_spare_140 : decode cX11_spare 140 = .ok (.iload_n 2, 1) := by decide +kernel
theorem dX11_spare_141 : decode cX11_spare 141 = .ok (.invokevirtual 356, 3) := by decide +kernel
theorem dX11_spare_144 : decode cX11_spare 144 = .ok (.istore 6, 2) := by decide +kernel
theorem dX11_spare_146 : decode cX11_spare 146 = .ok (.iload 6, 2) := by decide +kernel
theorem dX11_spare_148 : decode cX11_spare 148 = .ok (.iload_n 3, 1) := by decide +kernel
theorem dX11_spare_149 : decode cX11_spare 149 = .ok (.if_icmp .le 18, 3) := by decide +kernel
theorem dX11_spare_167 : decode cX11_spare 167 = .ok (.iinc 5 1, 3) := by decide +kernel
theorem dX11_spare_170 : decode cX11_spare 170 = .ok (.goto (-60), 3) := by decide +kernel
theorem dX11_spare_152 : decode cX11_spare 152 = .ok (.iload 6, 2) := by decide +kernel
theorem dX11_spare_154 : decode cX11_spare 154 = .ok (.istore_n 3, 1) := by decide +kernel
theorem dX11_spare_155 : decode cX11_spare 155 = .ok (.aload_n 0, 1) := by decide +kernel
theorem dX11_spare_156 : decode cX11_spare 156 = .ok (.iload 4, 2) := by decide +kernel
theorem dX11_spare_158 : decode cX11_spare 158 = .ok (.putfield 81, 3) := by decide +kernel
theorem dX11_spare_161 : decode cX11_spare 161 = .ok (.aload_n 0, 1) := by decide +kernel
theorem dX11_spare_162 : decode cX11_spare 162 = .ok (.iload 5, 2) := by decide +kernel
theorem dX11_spare_164 : decode cX11_spare 164 = .ok (.putfield 84, 3) := by decide +kernel
theorem dX11_spare_173 : decode cX11_spare 173 = .ok (.iinc 4 1, 3) := by decide +kernel
theorem dX11_spare_176 : decode cX11_spare 176 = .ok (.goto (-87), 3) := by decide +kernel
theorem dX11_spare_179 : decode cX11_spare 179 = .ok (.iload_n 3, 1) := by decide +kernel
theorem dX11_spare_180 : decode cX11_spare 180 = .ok (.ireturn, 1) := by decide +kernel
theorem dX11_spare_51 : decode cX11_spare 51 = .ok (.bipush (-5), 2) := by decide +kernel
theorem dX11_spare_53 : decode cX11_spare 53 = .ok (.ireturn, 1) := by decide +kernel
theorem dX11_spared_0 : decode cX11_spared 0 = .ok (.iload_n 1, 1) := by decide +kernel
theorem dX11_spared_1 : decode cX11_spared 1 = .ok (.ifCond .ne 8, 3) := by decide +kernel
theorem dX11_spared_9 : decode cX11_spared 9 = .ok (.iload_n 1, 1) := by decide +kernel
theorem dX11_spared_10 : decode cX11_spared 10 = .ok (.iconst 1, 1) := by decide +kernel
theorem dX11_spared_11 : decode cX11_spared 11 = .ok (.if_icmp .ne 10, 3) := by decide +kernel
theorem dX11_spared_21 : decode cX11_spared 21 = .ok (.iconst (-1), 1) := by decide +kernel
theorem dX11_spared_22 : decode cX11_spared 22 = .ok (.ireturn, 1) := by decide +kernel
theorem dX11_spared_14 : decode cX11_spared 14 = .ok (.aload_n 0, 1) := by decide +kernel
theorem dX11_spared_15 : decode cX11_spared 15 = .ok (.getfield 84, 3) := by decide +kernel
theorem dX11_spared_18 : decode cX11_spared 18 = .ok (.goto 4, 3) := by decide +kernel
theorem dX11_spared_4 : decode cX11_spared 4 = .ok (.aload_n 0, 1) := by decide +kernel
theorem dX11_spared_5 : decode cX11_spared 5 = .ok (.getfield 81, 3) := by decide +kernel
theorem dX11_spared_8 : decode cX11_spared 8 = .ok (.ireturn, 1) := by decide +kernel
theorem dX11_alley_0 : decode cX11_alley 0 = .ok (.aload_n 0, 1) := by decide +kernel
theorem dX11_alley_1 : decode cX11_alley 1 = .ok (.iload_n 1, 1) := by decide +kernel
theorem dX11_alley_2 : decode cX11_alley 2 = .ok (.invokevirtual 126, 3) := by decide +kernel
theorem dX11_alley_5 : decode cX11_alley 5 = .ok (.ifCond .ne 7, 3) := by decide +kernel
theorem dX11_alley_8 : decode cX11_alley 8 = .ok (.ldc_w 360, 3) := by decide +kernel
theorem dX11_alley_11 : decode cX11_alley 11 = .ok (.ireturn, 1) := by decide +kernel
theorem dX11_alley_12 : decode cX11_alley 12 = .ok (.iload_n 2, 1) := by decide +kernel
theorem dX11_alley_13 : decode cX11_alley 13 = .ok (.tableswitch 121 0 5 #[39, 52, 65, 78, 91, 106], 39) := by decide +kernel
theorem dX11_alley_134 : decode cX11_alley 134 = .ok (.ldc_w 360, 3) := by decide +kernel
theorem dX11_alley_137 : decode cX11_alley 137 = .ok (.ireturn, 1) := by decide +kernel
theorem dX11_alley_52 : decode cX11_alley 52 = .ok (.aload_n 0, 1) := by decide +kernel
theorem dX11_alley_53 : decode cX11_alley 53 = .ok (.getfield 27, 3) := by decide +kernel
theorem dX11_alley_56 : decode cX11_alley 56 = .ok (.getfield 88, 3) := by decide +kernel
theorem dX11_alley_59 : decode cX11_alley 59 = .ok (.getfield 361, 3) := by decide +kernel
theorem dX11_alley_62 : decode cX11_alley 62 = .ok (.iload_n 1, 1) := by decide +kernel
theorem dX11_alley_63 : decode cX11_alley 63 = .ok (.iaload, 1) := by decide +kernel
theorem dX11_alley_64 : decode cX11_alley 64 = .ok (.ireturn, 1) := by decide +kernel
theorem dX11_alley_65 : decode cX11_alley 65 = .ok (.aload_n 0, 1) := by decide +kernel
theorem dX11_alley_66 : decode cX11_alley 66 = .ok (.getfield 27, 3) := by decide +kernel
theorem dX11_alley_69 : decode cX11_alley 69 = .ok (.getfield 88, 3) := by decide +kernel
theorem dX11_alley_72 : decode cX11_alley 72 = .ok (.getfield 362, 3) := by decide +kernel
theorem dX11_alley_75 : decode cX11_alley 75 = .ok (.iload_n 1, 1) := by decide +kernel
theorem dX11_alley_76 : decode cX11_alley 76 = .ok (.iaload, 1) := by decide +kernel
theorem dX11_alley_77 : decode cX11_alley 77 = .ok (.ireturn, 1) := by decide +kernel
theorem dX11_alley_78 : decode cX11_alley 78 = .ok (.aload_n 0, 1) := by decide +kernel
theorem dX11_alley_79 : decode cX11_alley 79 = .ok (.getfield 27, 3) := by decide +kernel
theorem dX11_alley_82 : decode cX11_alley 82 = .ok (.getfield 88, 3) := by decide +kernel
theorem dX11_alley_85 : decode cX11_alley 85 = .ok (.getfield 306, 3) := by decide +kernel
theorem dX11_alley_88 : decode cX11_alley 88 = .ok (.iload_n 1, 1) := by decide +kernel
theorem dX11_alley_89 : decode cX11_alley 89 = .ok (.iaload, 1) := by decide +kernel
theorem dX11_alley_90 : decode cX11_alley 90 = .ok (.ireturn, 1) := by decide +kernel
theorem dX11_alley_91 : decode cX11_alley 91 = .ok (.aload_n 0, 1) := by decide +kernel
theorem dX11_alley_92 : decode cX11_alley 92 = .ok (.getfield 27, 3) := by decide +kernel
theorem dX11_alley_95 : decode cX11_alley 95 = .ok (.getfield 88, 3) := by decide +kernel
theorem dX11_alley_98 : decode cX11_alley 98 = .ok (.getfield 363, 3) := by decide +kernel
theorem dX11_alley_101 : decode cX11_alley 101 = .ok (.iload_n 1, 1) := by decide +kernel
theorem dX11_alley_102 : decode cX11_alley 102 = .ok (.iaload, 1) := by decide +kernel
theorem dX11_alley_103 : decode cX11_alley 103 = .ok (.ireturn, 1) := by decide +kernel
theorem dX11_alley_104 : decode cX11_alley 104 = .ok (.aload_n 0, 1) := by decide +kernel
theorem dX11_alley_105 : decode cX11_alley 105 = .ok (.getfield 27, 3) := by decide +kernel
theorem dX11_alley_108 : decode cX11_alley 108 = .ok (.getfield 88, 3) := by decide +kernel
theorem dX11_alley_111 : decode cX11_alley 111 = .ok (.getfield 366, 3) := by decide +kernel
theorem dX11_alley_114 : decode cX11_alley 114 = .ok (.iload_n 1, 1) := by decide +kernel
theorem dX11_alley_115 : decode cX11_alley 115 = .ok (.ishr, 1) := by decide +kernel
theorem dX11_alley_116 : decode cX11_alley 116 = .ok (.iconst 1, 1) := by decide +kernel
theorem dX11_alley_117 : decode cX11_alley 117 = .ok (.iand, 1) := by decide +kernel
theorem dX11_alley_118 : decode cX11_alley 118 = .ok (.ireturn, 1) := by decide +kernel
theorem dX11_alley_119 : decode cX11_alley 119 = .ok (.aload_n 0, 1) := by decide +kernel
theorem dX11_alley_120 : decode cX11_alley 120 = .ok (.getfield 27, 3) := by decide +kernel
theorem dX11_alley_123 : decode cX11_alley 123 = .ok (.getfield 88, 3) := by decide +kernel
theorem dX11_alley_126 : decode cX11_alley 126 = .ok (.getfield 369, 3) := by decide +kernel
theorem dX11_alley_129 : decode cX11_alley 129 = .ok (.iload_n 1, 1) := by decide +kernel
theorem dX11_alley_130 : decode cX11_alley 130 = .ok (.ishr, 1) := by decide +kernel
theorem dX11_alley_131 : decode cX11_alley 131 = .ok (.iconst 1, 1) := by decide +kernel
theorem dX11_alley_132 : decode cX11_alley 132 = .ok (.iand, 1) := by decide +kernel
theorem dX11_alley_133 : decode cX11_alley 133 = .ok (.ireturn, 1) := by decide +kernel
theorem dX11_street_0 : decode cX11_street 0 = .ok (.aload_n 0, 1) := by decide +kernel
theorem dX11_street_1 : decode cX11_street 1 = .ok (.getfield 27, 3) := by decide +kernel
theorem dX11_street_4 : decode cX11_street 4 = .ok (.getfield 88, 3) := by decide +kernel
theorem dX11_street_7 : decode cX11_street 7 = .ok (.getfield 232, 3) := by decide +kernel
theorem dX11_street_10 : decode cX11_street 10 = .ok (.astore_n 3, 1) := by decide +kernel
theorem dX11_street_11 : decode cX11_street 11 = .ok (.iload_n 1, 1) := by decide +kernel
theorem dX11_street_12 : decode cX11_street 12 = .ok (.ifCond .lt 25, 3) := by decide +kernel
theorem dX11_street_37 : decode cX11_street 37 = .ok (.iconst (-1), 1) := by decide +kernel
theorem dX11_street_38 : decode cX11_street 38 = .ok (.ireturn, 1) := by decide +kernel
theorem dX11_street_15 : decode cX11_street 15 = .ok (.iload_n 1, 1) := by decide +kernel
theorem dX11_street_16 : decode cX11_street 16 = .ok (.aload_n 3, 1) := by decide +kernel
theorem dX11_street_17 : decode cX11_street 17 = .ok (.getfield 236, 3) := by decide +kernel
theorem dX11_street_20 : decode cX11_street 20 = .ok (.if_icmp .ge 17, 3) := by decide +kernel
theorem dX11_street_23 : decode cX11_street 23 = .ok (.iload_n 2, 1) := by decide +kernel
theorem dX11_street_24 : decode cX11_street 24 = .ok (.ifCond .lt 13, 3) := by decide +kernel
theorem dX11_street_27 : decode cX11_street 27 = .ok (.iload_n 2, 1) := by decide +kernel
theorem dX11_street_28 : decode cX11_street 28 = .ok (.aload_n 3, 1) := by decide +kernel
theorem dX11_street_29 : decode cX11_street 29 = .ok (.getfield 372, 3) := by decide +kernel
theorem dX11_street_32 : decode cX11_street 32 = .ok (.iload_n 1, 1) := by decide +kernel
theorem dX11_street_33 : decode cX11_street 33 = .ok (.iaload, 1) := by decide +kernel
theorem dX11_street_34 : decode cX11_street 34 = .ok (.if_icmp .lt 5, 3) := by decide +kernel
theorem dX11_street_39 : decode cX11_street 39 = .ok (.aload_n 3, 1) := by decide +kernel
theorem dX11_street_40 : decode cX11_street 40 = .ok (.getfield 375, 3) := by decide +kernel
theorem dX11_street_43 : decode cX11_street 43 = .ok (.iload_n 1, 1) := by decide +kernel
theorem dX11_street_44 : decode cX11_street 44 = .ok (.bipush 6, 2) := by decide +kernel
theorem dX11_street_46 : decode cX11_street 46 = .ok (.imul, 1) := by decide +kernel
theorem dX11_street_47 : decode cX11_street 47 = .ok (.iload_n 2, 1) := by decide +kernel
theorem dX11_street_48 : decode cX11_street 48 = .ok (.iadd, 1) := by decide +kernel
theorem dX11_street_49 : decode cX11_street 49 = .ok (.iaload, 1) := by decide +kernel
theorem dX11_street_50 : decode cX11_street 50 = .ok (.ireturn, 1) := by decide +kernel
theorem dX11_journey_0 : decode cX11_journey 0 = .ok (.aload_n 0, 1) := by decide +kernel
theorem dX11_journey_1 : decode cX11_journey 1 = .ok (.iload_n 1, 1) := by decide +kernel
theorem dX11_journey_2 : decode cX11_journey 2 = .ok (.invokevirtual 201, 3) := by decide +kernel
theorem dX11_journey_5 : decode cX11_journey 5 = .ok (.ifCond .ne 7, 3) := by decide +kernel
theorem dX11_journey_8 : decode cX11_journey 8 = .ok (.ldc_w 360, 3) := by decide +kernel
theorem dX11_journey_11 : decode cX11_journey 11 = .ok (.ireturn, 1) := by decide +kernel
theorem dX11_journey_12 : decode cX11_journey 12 = .ok (.aload_n 0, 1) := by decide +kernel
theorem dX11_journey_13 : decode cX11_journey 13 = .ok (.getfield 27, 3) := by decide +kernel
theorem dX11_journey_16 : decode cX11_journey 16 = .ok (.getfield 88, 3) := by decide +kernel
theorem dX11_journey_19 : decode cX11_journey 19 = .ok (.getfield 287, 3) := by decide +kernel
theorem dX11_journey_22 : decode cX11_journey 22 = .ok (.astore_n 3, 1) := by decide +kernel
theorem dX11_journey_23 : decode cX11_journey 23 = .ok (.iload_n 2, 1) := by decide +kernel
theorem dX11_journey_24 : decode cX11_journey 24 = .ok (.tableswitch 84 0 3 #[32, 39, 46, 53], 32) := by decide +kernel
theorem dX11_journey_108 : decode cX11_journey 108 = .ok (.ldc_w 360, 3) := by decide +kernel
theorem dX11_journey_111 : decode cX11_journey 111 = .ok (.ireturn, 1) := by decide +kernel
theorem dX11_journey_56 : decode cX11_journey 56 = .ok (.aload_n 3, 1) := by decide +kernel
theorem dX11_journey_57 : decode cX11_journey 57 = .ok (.getfield 291, 3) := by decide +kernel
theorem dX11_journey_60 : decode cX11_journey 60 = .ok (.iload_n 1, 1) := by decide +kernel
theorem dX11_journey_61 : decode cX11_journey 61 = .ok (.iaload, 1) := by decide +kernel
theorem dX11_journey_62 : decode cX11_journey 62 = .ok (.ireturn, 1) := by decide +kernel
theorem dX11_journey_63 : decode cX11_journey 63 = .ok (.aload_n 3, 1) := by decide +kernel
theorem dX11_journey_64 : decode cX11_journey 64 = .ok (.getfield 296, 3) := by decide +kernel
theorem dX11_journey_67 : decode cX11_journey 67 = .ok (.iload_n 1, 1) := by decide +kernel
theorem dX11_journey_68 : decode cX11_journey 68 = .ok (.iaload, 1) := by decide +kernel
theorem dX11_journey_69 : decode cX11_journey 69 = .ok (.ireturn, 1) := by decide +kernel
theorem dX11_journey_70 : decode cX11_journey 70 = .ok (.aload_n 3, 1) := by decide +kernel
theorem dX11_journey_71 : decode cX11_journey 71 = .ok (.getfield 378, 3) := by decide +kernel
theorem dX11_journey_74 : decode cX11_journey 74 = .ok (.iload_n 1, 1) := by decide +kernel
theorem dX11_journey_75 : decode cX11_journey 75 = .ok (.iaload, 1) := by decide +kernel
theorem dX11_journey_76 : decode cX11_journey 76 = .ok (.ireturn, 1) := by decide +kernel
theorem dX11_journey_77 : decode cX11_journey 77 = .ok (.aload_n 0, 1) := by decide +kernel
theorem dX11_journey_78 : decode cX11_journey 78 = .ok (.getfield 27, 3) := by decide +kernel
theorem dX11_journey_81 : decode cX11_journey 81 = .ok (.getfield 88, 3) := by decide +kernel
theorem dX11_journey_84 : decode cX11_journey 84 = .ok (.getfield 260, 3) := by decide +kernel
theorem dX11_journey_87 : decode cX11_journey 87 = .ok (.aload_n 3, 1) := by decide +kernel
theorem dX11_journey_88 : decode cX11_journey 88 = .ok (.getfield 291, 3) := by decide +kernel
theorem dX11_journey_91 : decode cX11_journey 91 = .ok (.iload_n 1, 1) := by decide +kernel
theorem dX11_journey_92 : decode cX11_journey 92 = .ok (.iaload, 1) := by decide +kernel
theorem dX11_journey_93 : decode cX11_journey 93 = .ok (.bipush 16, 2) := by decide +kernel
theorem dX11_journey_95 : decode cX11_journey 95 = .ok (.imul, 1) := by decide +kernel
theorem dX11_journey_96 : decode cX11_journey 96 = .ok (.aload_n 3, 1) := by decide +kernel
theorem dX11_journey_97 : decode cX11_journey 97 = .ok (.getfield 296, 3) := by decide +kernel
theorem dX11_journey_100 : decode cX11_journey 100 = .ok (.iload_n 1, 1) := by decide +kernel
theorem dX11_journey_101 : decode cX11_journey 101 = .ok (.iaload, 1) := by decide +kernel
theorem dX11_journey_102 : decode cX11_journey 102 = .ok (.iadd, 1) := by decide +kernel
theorem dX11_journey_103 : decode cX11_journey 103 = .ok (.iaload, 1) := by decide +kernel
theorem dX11_journey_104 : decode cX11_journey 104 = .ok (.invokestatic 198, 3) := by decide +kernel
theorem dX11_journey_107 : decode cX11_journey 107 = .ok (.ireturn, 1) := by decide +kernel
theorem dX11_filledSlots_0 : decode cX11_filledSlots 0 = .ok (.iconst 0, 1) := by decide +kernel
theorem dX11_filledSlots_1 : decode cX11_filledSlots 1 = .ok (.istore_n 1, 1) := by decide +kernel
theorem dX11_filledSlots_2 : decode cX11_filledSlots 2 = .ok (.iconst 0, 1) := by decide +kernel
theorem dX11_filledSlots_3 : decode cX11_filledSlots 3 = .ok (.istore_n 2, 1) := by decide +kernel
theorem dX11_filledSlots_4 : decode cX11_filledSlots 4 = .ok (.iload_n 2, 1) := by decide +kernel
theorem dX11_filledSlots_5 : decode cX11_filledSlots 5 = .ok (.iconst 4, 1) := by decide +kernel
theorem dX11_filledSlots_6 : decode cX11_filledSlots 6 = .ok (.if_icmp .ge 24, 3) := by decide +kernel
theorem dX11_filledSlots_9 : decode cX11_filledSlots 9 = .ok (.aload_n 0, 1) := by decide +kernel
theorem dX11_filledSlots_10 : decode cX11_filledSlots 10 = .ok (.getfield 37, 3) := by decide +kernel
theorem dX11_filledSlots_13 : decode cX11_filledSlots 13 = .ok (.iload_n 2, 1) := by decide +kernel
theorem dX11_filledSlots_14 : decode cX11_filledSlots 14 = .ok (.aaload, 1) := by decide +kernel
theorem dX11_filledSlots_15 : decode cX11_filledSlots 15 = .ok (.invokevirtual 140, 3) := by decide +kernel
theorem dX11_filledSlots_18 : decode cX11_filledSlots 18 = .ok (.ifCond .eq 6, 3) := by decide +kernel
theorem dX11_filledSlots_24 : decode cX11_filledSlots 24 = .ok (.iinc 2 1, 3) := by decide +kernel
theorem dX11_filledSlots_27 : decode cX11_filledSlots 27 = .ok (.goto (-23), 3) := by decide +kernel
theorem dX11_filledSlots_21 : decode cX11_filledSlots 21 = .ok (.iinc 1 1, 3) := by decide +kernel
theorem dX11_filledSlots_30 : decode cX11_filledSlots 30 = .ok (.iload_n 1, 1) := by decide +kernel
theorem dX11_filledSlots_31 : decode cX11_filledSlots 31 = .ok (.ireturn, 1) := by decide +kernel
theorem dX11_count_0 : decode cX11_count 0 = .ok (.iload_n 1, 1) := by decide +kernel
theorem dX11_count_1 : decode cX11_count 1 = .ok (.tableswitch 188 0 11 #[63, 74, 85, 96, 110, 124, 129, 138, 147, 158, 163, 177], 63) := by decide +kernel
theorem dX11_count_189 : decode cX11_count 189 = .ok (.iconst (-1), 1) := by decide +kernel
theorem dX11_count_190 : decode cX11_count 190 = .ok (.ireturn, 1) := by decide +kernel
theorem dX11_count_64 : decode cX11_count 64 = .ok (.aload_n 0, 1) := by decide +kernel
theorem dX11_count_65 : decode cX11_count 65 = .ok (.getfield 27, 3) := by decide +kernel
theorem dX11_count_68 : decode cX11_count 68 = .ok (.getfield 88, 3) := by decide +kernel
theorem dX11_count_71 : decode cX11_count 71 = .ok (.getfield 111, 3) := by decide +kernel
theorem dX11_count_74 : decode cX11_count 74 = .ok (.ireturn, 1) := by decide +kernel
theorem dX11_count_75 : decode cX11_count 75 = .ok (.aload_n 0, 1) := by decide +kernel
theorem dX11_count_76 : decode cX11_count 76 = .ok (.getfield 27, 3) := by decide +kernel
theorem dX11_count_79 : decode cX11_count 79 = .ok (.getfield 88, 3) := by decide +kernel
theorem dX11_count_82 : decode cX11_count 82 = .ok (.getfield 175, 3) := by decide +kernel
theorem dX11_count_85 : decode cX11_count 85 = .ok (.ireturn, 1) := by decide +kernel
theorem dX11_count_86 : decode cX11_count 86 = .ok (.aload_n 0, 1) := by decide +kernel
theorem dX11_count_87 : decode cX11_count 87 = .ok (.getfield 27, 3) := by decide +kernel
theorem dX11_count_90 : decode cX11_count 90 = .ok (.getfield 88, 3) := by decide +kernel
theorem dX11_count_93 : decode cX11_count 93 = .ok (.getfield 147, 3) := by decide +kernel
theorem dX11_count_96 : decode cX11_count 96 = .ok (.ireturn, 1) := by decide +kernel
theorem dX11_count_97 : decode cX11_count 97 = .ok (.aload_n 0, 1) := by decide +kernel
theorem dX11_count_98 : decode cX11_count 98 = .ok (.getfield 27, 3) := by decide +kernel
theorem dX11_count_101 : decode cX11_count 101 = .ok (.getfield 88, 3) := by decide +kernel
theorem dX11_count_104 : decode cX11_count 104 = .ok (.getfield 287, 3) := by decide +kernel
theorem dX11_count_107 : decode cX11_count 107 = .ok (.getfield 381, 3) := by decide +kernel
theorem dX11_count_110 : decode cX11_count 110 = .ok (.ireturn, 1) := by decide +kernel
theorem dX11_count_111 : decode cX11_count 111 = .ok (.aload_n 0, 1) := by decide +kernel
theorem dX11_count_112 : decode cX11_count 112 = .ok (.getfield 27, 3) := by decide +kernel
theorem dX11_count_115 : decode cX11_count 115 = .ok (.getfield 88, 3) := by decide +kernel
theorem dX11_count_118 : decode cX11_count 118 = .ok (.getfield 366, 3) := by decide +kernel
theorem dX11_count_121 : decode cX11_count 121 = .ok (.invokestatic 321, 3) := by decide +kernel
theorem dX11_count_124 : decode cX11_count 124 = .ok (.ireturn, 1) := by decide +kernel
theorem dX11_count_125 : decode cX11_count 125 = .ok (.aload_n 0, 1) := by decide +kernel
theorem dX11_count_126 : decode cX11_count 126 = .ok (.getfield 13, 3) := by decide +kernel
theorem dX11_count_129 : decode cX11_count 129 = .ok (.ireturn, 1) := by decide +kernel
theorem dX11_count_130 : decode cX11_count 130 = .ok (.aload_n 0, 1) := by decide +kernel
theorem dX11_count_131 : decode cX11_count 131 = .ok (.getfield 27, 3) := by decide +kernel
theorem dX11_count_134 : decode cX11_count 134 = .ok (.iconst 0, 1) := by decide +kernel
theorem dX11_count_135 : decode cX11_count 135 = .ok (.invokevirtual 215, 3) := by decide +kernel
theorem dX11_count_138 : decode cX11_count 138 = .ok (.ireturn, 1) := by decide +kernel
theorem dX11_count_139 : decode cX11_count 139 = .ok (.aload_n 0, 1) := by decide +kernel
theorem dX11_count_140 : decode cX11_count 140 = .ok (.getfield 27, 3) := by decide +kernel
theorem dX11_count_143 : decode cX11_count 143 = .ok (.iconst 1, 1) := by decide +kernel
theorem dX11_count_144 : decode cX11_count 144 = .ok (.invokevirtual 215, 3) := by decide +kernel
theorem dX11_count_147 : decode cX11_count 147 = .ok (.ireturn, 1) := by decide +kernel
theorem dX11_count_148 : decode cX11_count 148 = .ok (.aload_n 0, 1) := by decide +kernel
theorem dX11_count_149 : decode cX11_count 149 = .ok (.getfield 27, 3) := by decide +kernel
theorem dX11_count_152 : decode cX11_count 152 = .ok (.getfield 88, 3) := by decide +kernel
theorem dX11_count_155 : decode cX11_count 155 = .ok (.getfield 278, 3) := by decide +kernel
theorem dX11_count_158 : decode cX11_count 158 = .ok (.ireturn, 1) := by decide +kernel
theorem dX11_count_159 : decode cX11_count 159 = .ok (.aload_n 0, 1) := by decide +kernel
theorem dX11_count_160 : decode cX11_count 160 = .ok (.invokevirtual 382, 3) := by decide +kernel
theorem dX11_count_163 : decode cX11_count 163 = .ok (.ireturn, 1) := by decide +kernel
theorem dX11_count_164 : decode cX11_count 164 = .ok (.aload_n 0, 1) := by decide +kernel
theorem dX11_count_165 : decode cX11_count 165 = .ok (.getfield 27, 3) := by decide +kernel
theorem dX11_count_168 : decode cX11_count 168 = .ok (.getfield 88, 3) := by decide +kernel
theorem dX11_count_171 : decode cX11_count 171 = .ok (.getfield 232, 3) := by decide +kernel
theorem dX11_count_174 : decode cX11_count 174 = .ok (.getfield 236, 3) := by decide +kernel
theorem dX11_count_177 : decode cX11_count 177 = .ok (.ireturn, 1) := by decide +kernel
theorem dX11_count_178 : decode cX11_count 178 = .ok (.aload_n 0, 1) := by decide +kernel
theorem dX11_count_179 : decode cX11_count 179 = .ok (.getfield 27, 3) := by decide +kernel
theorem dX11_count_182 : decode cX11_count 182 = .ok (.getfield 88, 3) := by decide +kernel
theorem dX11_count_185 : decode cX11_count 185 = .ok (.invokevirtual 385, 3) := by decide +kernel
theorem dX11_count_188 : decode cX11_count 188 = .ok (.ireturn, 1) := by decide +kernel
theorem dX11_keep_0 : decode cX11_keep 0 = .ok (.iload_n 1, 1) := by decide +kernel
theorem dX11_keep_1 : decode cX11_keep 1 = .ok (.ifCond .lt 8, 3) := by decide +kernel
theorem dX11_keep_9 : decode cX11_keep 9 = .ok (.bipush (-2), 2) := by decide +kernel
theorem dX11_keep_11 : decode cX11_keep 11 = .ok (.ireturn, 1) := by decide +kernel
theorem dX11_keep_4 : decode cX11_keep 4 = .ok (.iload_n 1, 1) := by decide +kernel
theorem dX11_keep_5 : decode cX11_keep 5 = .ok (.iconst 3, 1) := by decide +kernel
theorem dX11_keep_6 : decode cX11_keep 6 = .ok (.if_icmp .lt 6, 3) := by decide +kernel
theorem dX11_keep_12 : decode cX11_keep 12 = .ok (.aload_n 0, 1) := by decide +kernel
theorem dX11_keep_13 : decode cX11_keep 13 = .ok (.getfield 31, 3) := by decide +kernel
theorem dX11_keep_16 : decode cX11_keep 16 = .ok (.iload_n 1, 1) := by decide +kernel
theorem dX11_keep_17 : decode cX11_keep 17 = .ok (.aaload, 1) := by decide +kernel
theorem dX11_keep_18 : decode cX11_keep 18 = .ok (.aload_n 0, 1) := by decide +kernel
theorem dX11_keep_19 : decode cX11_keep 19 = .ok (.getfield 27, 3) := by decide +kernel
theorem dX11_keep_22 : decode cX11_keep 22 = .ok (.invokevirtual 388, 3) := by decide +kernel
theorem dX11_keep_25 : decode cX11_keep 25 = .ok (.aload_n 0, 1) := by decide +kernel
theorem dX11_keep_26 : decode cX11_keep 26 = .ok (.getfield 31, 3) := by decide +kernel
theorem dX11_keep_29 : decode cX11_keep 29 = .ok (.iload_n 1, 1) := by decide +kernel
theorem dX11_keep_30 : decode cX11_keep 30 = .ok (.aaload, 1) := by decide +kernel
theorem dX11_keep_31 : decode cX11_keep 31 = .ok (.iconst 1, 1) := by decide +kernel
theorem dX11_keep_32 : decode cX11_keep 32 = .ok (.putfield 392, 3) := by decide +kernel
theorem dX11_keep_35 : decode cX11_keep 35 = .ok (.iconst 0, 1) := by decide +kernel
theorem dX11_keep_36 : decode cX11_keep 36 = .ok (.ireturn, 1) := by decide +kernel
theorem dX11_back_0 : decode cX11_back 0 = .ok (.iload_n 1, 1) := by decide +kernel
theorem dX11_back_1 : decode cX11_back 1 = .ok (.ifCond .lt 8, 3) := by decide +kernel
theorem dX11_back_9 : decode cX11_back 9 = .ok (.bipush (-2), 2) := by decide +kernel
theorem dX11_back_11 : decode cX11_back 11 = .ok (.ireturn, 1) := by decide +kernel
theorem dX11_back_4 : decode cX11_back 4 = .ok (.iload_n 1, 1) := by decide +kernel
theorem dX11_back_5 : decode cX11_back 5 = .ok (.iconst 3, 1) := by decide +kernel
theorem dX11_back_6 : decode cX11_back 6 = .ok (.if_icmp .lt 6, 3) := by decide +kernel
theorem dX11_back_12 : decode cX11_back 12 = .ok (.aload_n 0, 1) := by decide +kernel
theorem dX11_back_13 : decode cX11_back 13 = .ok (.getfield 31, 3) := by decide +kernel
theorem dX11_back_16 : decode cX11_back 16 = .ok (.iload_n 1, 1) := by decide +kernel
theorem dX11_back_17 : decode cX11_back 17 = .ok (.aaload, 1) := by decide +kernel
theorem dX11_back_18 : decode cX11_back 18 = .ok (.getfield 392, 3) := by decide +kernel
theorem dX11_back_21 : decode cX11_back 21 = .ok (.ifCond .ne 6, 3) := by decide +kernel
theorem dX11_back_27 : decode cX11_back 27 = .ok (.aload_n 0, 1) := by decide +kernel
theorem dX11_back_28 : decode cX11_back 28 = .ok (.getfield 27, 3) := by decide +kernel
theorem dX11_back_31 : decode cX11_back 31 = .ok (.aload_n 0, 1) := by decide +kernel
theorem dX11_back_32 : decode cX11_back 32 = .ok (.getfield 31, 3) := by decide +kernel
theorem dX11_back_35 : decode cX11_back 35 = .ok (.iload_n 1, 1) := by decide +kernel
theorem dX11_back_36 : decode cX11_back 36 = .ok (.aaload, 1) := by decide +kernel
theorem dX11_back_37 : decode cX11_back 37 = .ok (.invokevirtual 388, 3) := by decide +kernel
theorem dX11_back_40 : decode cX11_back 40 = .ok (.iconst 0, 1) := by decide +kernel
theorem dX11_back_41 : decode cX11_back 41 = .ok (.ireturn, 1) := by decide +kernel
theorem dX11_back_24 : decode cX11_back 24 = .ok (.bipush (-6), 2) := by decide +kernel
theorem dX11_back_26 : decode cX11_back 26 = .ok (.ireturn, 1) := by decide +kernel
theorem dX11_row_0 : decode cX11_row 0 = .ok (.iload_n 1, 1) := by decide +kernel
theorem dX11_row_1 : decode cX11_row 1 = .ok (.invokestatic 137, 3) := by decide +kernel
theorem dX11_row_4 : decode cX11_row 4 = .ok (.ifCond .eq 18, 3) := by decide +kernel
theorem dX11_row_22 : decode cX11_row 22 = .ok (.bipush (-2), 2) := by decide +kernel
theorem dX11_row_24 : decode cX11_row 24 = .ok (.ireturn, 1) := by decide +kernel
theorem dX11_row_7 : decode cX11_row 7 = .ok (.iload_n 2, 1) := by decide +kernel
theorem dX11_row_8 : decode cX11_row 8 = .ok (.ifCond .lt 14, 3) := by decide +kernel
theorem dX11_row_11 : decode cX11_row 11 = .ok (.iload_n 2, 1) := by decide +kernel
theorem dX11_row_12 : decode cX11_row 12 = .ok (.iconst 4, 1) := by decide +kernel
theorem dX11_row_13 : decode cX11_row 13 = .ok (.if_icmp .ge 9, 3) := by decide +kernel
theorem dX11_row_16 : decode cX11_row 16 = .ok (.iload_n 3, 1) := by decide +kernel
theorem dX11_row_17 : decode cX11_row 17 = .ok (.bipush 60, 2) := by decide +kernel
theorem dX11_row_19 : decode cX11_row 19 = .ok (.if_icmp .le 6, 3) := by decide +kernel
theorem dX11_row_25 : decode cX11_row 25 = .ok (.iload_n 3, 1) := by decide +kernel
theorem dX11_row_26 : decode cX11_row 26 = .ok (.ifCond .ge 6, 3) := by decide +kernel
theorem dX11_row_32 : decode cX11_row 32 = .ok (.aload_n 0, 1) := by decide +kernel
theorem dX11_row_33 : decode cX11_row 33 = .ok (.getfield 37, 3) := by decide +kernel
theorem dX11_row_36 : decode cX11_row 36 = .ok (.iload_n 1, 1) := by decide +kernel
theorem dX11_row_37 : decode cX11_row 37 = .ok (.aaload, 1) := by decide +kernel
theorem dX11_row_38 : decode cX11_row 38 = .ok (.iload_n 2, 1) := by decide +kernel
theorem dX11_row_39 : decode cX11_row 39 = .ok (.iload_n 3, 1) := by decide +kernel
theorem dX11_row_40 : decode cX11_row 40 = .ok (.invokevirtual 396, 3) := by decide +kernel
theorem dX11_row_43 : decode cX11_row 43 = .ok (.iconst 0, 1) := by decide +kernel
theorem dX11_row_44 : decode cX11_row 44 = .ok (.ireturn, 1) := by decide +kernel
theorem dX11_row_29 : decode cX11_row 29 = .ok (.bipush (-3), 2) := by decide +kernel
theorem dX11_row_31 : decode cX11_row 31 = .ok (.ireturn, 1) := by decide +kernel
theorem dX11_paste_0 : decode cX11_paste 0 = .ok (.iload_n 1, 1) := by decide +kernel
theorem dX11_paste_1 : decode cX11_paste 1 = .ok (.invokestatic 137, 3) := by decide +kernel
theorem dX11_paste_4 : decode cX11_paste 4 = .ok (.ifCond .eq 10, 3) := by decide +kernel
theorem dX11_paste_14 : decode cX11_paste 14 = .ok (.bipush (-2), 2) := by decide +kernel
theorem dX11_paste_16 : decode cX11_paste 16 = .ok (.ireturn, 1) := by decide +kernel
theorem dX11_paste_7 : decode cX11_paste 7 = .ok (.iload_n 3, 1) := by decide +kernel
theorem dX11_paste_8 : decode cX11_paste 8 = .ok (.invokestatic 137, 3) := by decide +kernel
theorem dX11_paste_11 : decode cX11_paste 11 = .ok (.ifCond .ne 6, 3) := by decide +kernel
theorem dX11_paste_17 : decode cX11_paste 17 = .ok (.aload_n 0, 1) := by decide +kernel
theorem dX11_paste_18 : decode cX11_paste 18 = .ok (.getfield 37, 3) := by decide +kernel
theorem dX11_paste_21 : decode cX11_paste 21 = .ok (.iload_n 1, 1) := by decide +kernel
theorem dX11_paste_22 : decode cX11_paste 22 = .ok (.aaload, 1) := by decide +kernel
theorem dX11_paste_23 : decode cX11_paste 23 = .ok (.astore 6, 2) := by decide +kernel
theorem dX11_paste_25 : decode cX11_paste 25 = .ok (.aload_n 0, 1) := by decide +kernel
theorem dX11_paste_26 : decode cX11_paste 26 = .ok (.getfield 37, 3) := by decide +kernel
theorem dX11_paste_29 : decode cX11_paste 29 = .ok (.iload_n 3, 1) := by decide +kernel
theorem dX11_paste_30 : decode cX11_paste 30 = .ok (.aaload, 1) := by decide +kernel
theorem dX11_paste_31 : decode cX11_paste 31 = .ok (.astore 7, 2) := by decide +kernel
theorem dX11_paste_33 : decode cX11_paste 33 = .ok (.aload 6, 2) := by decide +kernel
theorem dX11_paste_35 : decode cX11_paste 35 = .ok (.invokevirtual 140, 3) := by decide +kernel
theorem dX11_paste_38 : decode cX11_paste 38 = .ok (.ifCond .eq 11, 3) := by decide +kernel
theorem dX11_paste_49 : decode cX11_paste 49 = .ok (.bipush (-6), 2) := by decide +kernel
theorem dX11_paste_51 : decode cX11_paste 51 = .ok (.ireturn, 1) := by decide +kernel
theorem dX11_paste_41 : decode cX11_paste 41 = .ok (.aload 7, 2) := by decide +kernel
theorem dX11_paste_43 : decode cX11_paste 43 = .ok (.invokevirtual 140, 3) := by decide +kernel
theorem dX11_paste_46 : decode cX11_paste 46 = .ok (.ifCond .ne 6, 3) := by decide +kernel
theorem dX11_paste_52 : decode cX11_paste 52 = .ok (.aload 6, 2) := by decide +kernel
theorem dX11_paste_54 : decode cX11_paste 54 = .ok (.getfield 404, 3) := by decide +kernel
theorem dX11_paste_57 : decode cX11_paste 57 = .ok (.aload 7, 2) := by decide +kernel
theorem dX11_paste_59 : decode cX11_paste 59 = .ok (.getfield 404, 3) := by decide +kernel
theorem dX11_paste_62 : decode cX11_paste 62 = .ok (.if_icmp .eq 6, 3) := by decide +kernel
theorem dX11_paste_68 : decode cX11_paste 68 = .ok (.aload 6, 2) := by decide +kernel
theorem dX11_paste_70 : decode cX11_paste 70 = .ok (.iload_n 2, 1) := by decide +kernel
theorem dX11_paste_71 : decode cX11_paste 71 = .ok (.iload 5, 2) := by decide +kernel
theorem dX11_paste_73 : decode cX11_paste 73 = .ok (.invokevirtual 407, 3) := by decide +kernel
theorem dX11_paste_76 : decode cX11_paste 76 = .ok (.ifCond .eq 15, 3) := by decide +kernel
theorem dX11_paste_91 : decode cX11_paste 91 = .ok (.bipush (-7), 2) := by decide +kernel
theorem dX11_paste_93 : decode cX11_paste 93 = .ok (.ireturn, 1) := by decide +kernel
theorem dX11_paste_79 : decode cX11_paste 79 = .ok (.aload 7, 2) := by decide +kernel
theorem dX11_paste_81 : decode cX11_paste 81 = .ok (.iload 4, 2) := by decide +kernel
theorem dX11_paste_83 : decode cX11_paste 83 = .ok (.iload 5, 2) := by decide +kernel
theorem dX11_paste_85 : decode cX11_paste 85 = .ok (.invokevirtual 407, 3) := by decide +kernel
theorem dX11_paste_88 : decode cX11_paste 88 = .ok (.ifCond .ne 6, 3) := by decide +kernel
theorem dX11_paste_94 : decode cX11_paste 94 = .ok (.aload 6, 2) := by decide +kernel
theorem dX11_paste_96 : decode cX11_paste 96 = .ok (.getfield 156, 3) := by decide +kernel
theorem dX11_paste_99 : decode cX11_paste 99 = .ok (.iload_n 2, 1) := by decide +kernel
theorem dX11_paste_100 : decode cX11_paste 100 = .ok (.aload 7, 2) := by decide +kernel
theorem dX11_paste_102 : decode cX11_paste 102 = .ok (.getfield 156, 3) := by decide +kernel
theorem dX11_paste_105 : decode cX11_paste 105 = .ok (.iload 4, 2) := by decide +kernel
theorem dX11_paste_107 : decode cX11_paste 107 = .ok (.iload 5, 2) := by decide +kernel
theorem dX11_paste_109 : decode cX11_paste 109 = .ok (.invokestatic 315, 3) := by decide +kernel
theorem dX11_paste_112 : decode cX11_paste 112 = .ok (.iconst 0, 1) := by decide +kernel
theorem dX11_paste_113 : decode cX11_paste 113 = .ok (.ireturn, 1) := by decide +kernel
theorem dX11_paste_65 : decode cX11_paste 65 = .ok (.bipush (-8), 2) := by decide +kernel
theorem dX11_paste_67 : decode cX11_paste 67 = .ok (.ireturn, 1) := by decide +kernel
theorem dX11_write_0 : decode cX11_write 0 = .ok (.iload_n 1, 1) := by decide +kernel
theorem dX11_write_1 : decode cX11_write 1 = .ok (.invokestatic 137, 3) := by decide +kernel
theorem dX11_write_4 : decode cX11_write 4 = .ok (.ifCond .ne 6, 3) := by decide +kernel
theorem dX11_write_7 : decode cX11_write 7 = .ok (.bipush (-2), 2) := by decide +kernel
theorem dX11_write_9 : decode cX11_write 9 = .ok (.ireturn, 1) := by decide +kernel
theorem dX11_write_10 : decode cX11_write 10 = .ok (.aload_n 0, 1) := by decide +kernel
theorem dX11_write_11 : decode cX11_write 11 = .ok (.getfield 37, 3) := by decide +kernel
theorem dX11_write_14 : decode cX11_write 14 = .ok (.iload_n 1, 1) := by decide +kernel
theorem dX11_write_15 : decode cX11_write 15 = .ok (.aaload, 1) := by decide +kernel
theorem dX11_write_16 : decode cX11_write 16 = .ok (.astore 5, 2) := by decide +kernel
theorem dX11_write_18 : decode cX11_write 18 = .ok (.aload 5, 2) := by decide +kernel
theorem dX11_write_20 : decode cX11_write 20 = .ok (.invokevirtual 140, 3) := by decide +kernel
theorem dX11_write_23 : decode cX11_write 23 = .ok (.ifCond .ne 6, 3) := by decide +kernel
theorem dX11_write_26 : decode cX11_write 26 = .ok (.bipush (-6), 2) := by decide +kernel
theorem dX11_write_28 : decode cX11_write 28 = .ok (.ireturn, 1) := by decide +kernel
theorem dX11_write_29 : decode cX11_write 29 = .ok (.iload_n 2, 1) := by decide +kernel
theorem dX11_write_30 : decode cX11_write 30 = .ok (.ifCond .lt 12, 3) := by decide +kernel
theorem dX11_write_42 : decode cX11_write 42 = .ok (.bipush (-7), 2) := by decide +kernel
theorem dX11_write_44 : decode cX11_write 44 = .ok (.ireturn, 1) := by decide +kernel
theorem dX11_write_33 : decode cX11_write 33 = .ok (.iload_n 2, 1) := by decide +kernel
theorem dX11_write_34 : decode cX11_write 34 = .ok (.aload 5, 2) := by decide +kernel
theorem dX11_write_36 : decode cX11_write 36 = .ok (.getfield 144, 3) := by decide +kernel
theorem dX11_write_39 : decode cX11_write 39 = .ok (.if_icmp .lt 6, 3) := by decide +kernel
theorem dX11_write_45 : decode cX11_write 45 = .ok (.aload 5, 2) := by decide +kernel
theorem dX11_write_47 : decode cX11_write 47 = .ok (.getfield 156, 3) := by decide +kernel
theorem dX11_write_50 : decode cX11_write 50 = .ok (.iload_n 2, 1) := by decide +kernel
theorem dX11_write_51 : decode cX11_write 51 = .ok (.aload 5, 2) := by decide +kernel
theorem dX11_write_53 : decode cX11_write 53 = .ok (.lload_n 3, 1) := by decide +kernel
theorem dX11_write_54 : decode cX11_write 54 = .ok (.invokevirtual 400, 3) := by decide +kernel
theorem dX11_write_57 : decode cX11_write 57 = .ok (.lastore, 1) := by decide +kernel
theorem dX11_write_58 : decode cX11_write 58 = .ok (.iconst 0, 1) := by decide +kernel
theorem dX11_write_59 : decode cX11_write 59 = .ok (.ireturn, 1) := by decide +kernel
theorem mw_322 : Cond.fieldLink RX11 9 "OneWays" "tape" "[B" ∈ bW := bW_at 500 (by decide +kernel) (by decide +kernel)
theorem mw_323 : Cond.fieldLink RX11 13 "OneWays" "tapeSize" "I" ∈ bW := bW_at 501 (by decide +kernel) (by decide +kernel)
theorem mw_324 : Cond.code yX11_appendBytes cX11_appendBytes 3 none ∈ bW := bW_at 553 (by decide +kernel) (by decide +kernel)
theorem mw_325 : Cond.methodLink RX11 96 yX11_appendBytes ∈ bW := bW_at 550 (by decide +kernel) (by decide +kernel)
theorem mw_326 : Cond.instanceMethod yX11_appendBytes ∈ bW := bW_at 552 (by decide +kernel) (by decide +kernel)
theorem mw_327 : Cond.selects RX11 yX11_appendBytes yX11_appendBytes ∈ bW := bW_at 3 (by decide +kernel) (by decide +kernel)
theorem mw_328 : Cond.initialized RX11 ∈ bW := bW_at 103 (by decide +kernel) (by decide +kernel)
theorem mw_329 : Cond.fieldLink RX11 20 "OneWays" "reader" "LOneWays$TownReader;" ∈ bW := bW_at 502 (by decide +kernel) (by decide +kernel)
theorem mw_330 : Cond.fieldLink RX11 119 "OneWays$TownReader" "place" "I" ∈ bW := bW_at 329 (by decide +kernel) (by decide +kernel)
theorem mw_331 : Cond.fieldLink RX11 116 "OneWays$TownReader" "fault" "I" ∈ bW := bW_at 327 (by decide +kernel) (by decide +kernel)
theorem mw_332 : Cond.fieldLink RX11 27 "OneWays" "now" "LOneWays$State;" ∈ bW := bW_at 503 (by decide +kernel) (by decide +kernel)
theorem mw_333 : Cond.fieldLink RX11 88 "OneWays$State" "town" "LOneWays$Town;" ∈ bW := bW_at 350 (by decide +kernel) (by decide +kernel)
theorem mw_334 : Cond.fieldLink RX11 147 "OneWays$Town" "alleys" "I" ∈ bW := bW_at 242 (by decide +kernel) (by decide +kernel)
theorem mw_335 : Cond.code yX11_isGiving cX11_isGiving 1 (some .boolean) ∈ bW := bW_at 748 (by decide +kernel) (by decide +kernel)
theorem mw_336 : Cond.methodLink RX11 122 yX11_isGiving ∈ bW := bW_at 746 (by decide +kernel) (by decide +kernel)
theorem mw_337 : Cond.static yX11_isGiving ∈ bW := bW_at 747 (by decide +kernel) (by decide +kernel)
theorem mw_338 : Cond.code yX11_isAlley cX11_isAlley 2 (some .boolean) ∈ bW := bW_at 752 (by decide +kernel) (by decide +kernel)
theorem mw_339 : Cond.methodLink RX11 126 yX11_isAlley ∈ bW := bW_at 749 (by decide +kernel) (by decide +kernel)
theorem mw_340 : Cond.instanceMethod yX11_isAlley ∈ bW := bW_at 751 (by decide +kernel) (by decide +kernel)
theorem mw_341 : Cond.selects RX11 yX11_isAlley yX11_isAlley ∈ bW := bW_at 17 (by decide +kernel) (by decide +kernel)
theorem mw_342 : Cond.code yX8_mayGive cX8_mayGive 4 (some .boolean) ∈ bW := bW_at 756 (by decide +kernel) (by decide +kernel)
theorem mw_343 : Cond.methodLink RX11 129 yX8_mayGive ∈ bW := bW_at 753 (by decide +kernel) (by decide +kernel)
theorem mw_344 : Cond.instanceMethod yX8_mayGive ∈ bW := bW_at 754 (by decide +kernel) (by decide +kernel)
theorem mw_345 : Cond.selects RX8 yX8_mayGive yX8_mayGive ∈ bW := bW_at 755 (by decide +kernel) (by decide +kernel)
theorem mw_346 : Cond.fieldLink RX11 133 "OneWays$State" "ways" "[[I" ∈ bW := bW_at 352 (by decide +kernel) (by decide +kernel)
theorem mw_347 : Cond.code yX11_isSlot cX11_isSlot 1 (some .boolean) ∈ bW := bW_at 769 (by decide +kernel) (by decide +kernel)
theorem mw_348 : Cond.methodLink RX11 137 yX11_isSlot ∈ bW := bW_at 767 (by decide +kernel) (by decide +kernel)
theorem mw_349 : Cond.static yX11_isSlot ∈ bW := bW_at 768 (by decide +kernel) (by decide +kernel)
theorem mw_350 : Cond.fieldLink RX11 37 "OneWays" "slots" "[LOneWays$Slot;" ∈ bW := bW_at 505 (by decide +kernel) (by decide +kernel)
theorem mw_351 : Cond.code yX4_isThere cX4_isThere 1 (some .boolean) ∈ bW := bW_at 773 (by decide +kernel) (by decide +kernel)
theorem mw_352 : Cond.methodLink RX11 140 yX4_isThere ∈ bW := bW_at 770 (by decide +kernel) (by decide +kernel)
theorem mw_353 : Cond.instanceMethod yX4_isThere ∈ bW := bW_at 771 (by decide +kernel) (by decide +kernel)
theorem mw_354 : Cond.selects RX4 yX4_isThere yX4_isThere ∈ bW := bW_at 772 (by decide +kernel) (by decide +kernel)
theorem mw_355 : Cond.initialized RX4 ∈ bW := bW_at 114 (by decide +kernel) (by decide +kernel)
theorem mw_356 : Cond.fieldLink RX11 144 "OneWays$Slot" "size" "I" ∈ bW := bW_at 445 (by decide +kernel) (by decide +kernel)
theorem mw_357 : Cond.methodLink RX11 150 Lib.Math.min.name ∈ bW := bW_at 774 (by decide +kernel) (by decide +kernel)
theorem mw_358 : Cond.fieldLink RX11 156 "OneWays$Slot" "numbers" "[J" ∈ bW := bW_at 447 (by decide +kernel) (by decide +kernel)
theorem mw_359 : Cond.code yX5_openAll cX5_openAll 4 (some .int) ∈ bW := bW_at 733 (by decide +kernel) (by decide +kernel)
theorem mw_360 : Cond.methodLink RX11 107 yX5_openAll ∈ bW := bW_at 730 (by decide +kernel) (by decide +kernel)
theorem mw_361 : Cond.instanceMethod yX5_openAll ∈ bW := bW_at 731 (by decide +kernel) (by decide +kernel)
theorem mw_362 : Cond.selects RX5 yX5_openAll yX5_openAll ∈ bW := bW_at 732 (by decide +kernel) (by decide +kernel)
theorem mw_363 : Cond.initialized RX5 ∈ bW := bW_at 109 (by decide +kernel) (by decide +kernel)
theorem mw_364 : Cond.fieldLink RX11 44 "OneWays" "paths" "LOneWays$Paths;" ∈ bW := bW_at 506 (by decide +kernel) (by decide +kernel)
theorem mw_365 : Cond.methodLink RX11 160 yX2_isWhole ∈ bW := bW_at 787 (by decide +kernel) (by decide +kernel)
theorem mw_366 : Cond.fieldLink RX11 53 "OneWays" "endings" "LOneWays$Endings;" ∈ bW := bW_at 507 (by decide +kernel) (by decide +kernel)
theorem mw_367 : Cond.methodLink RX11 164 yX0_canEnd ∈ bW := bW_at 795 (by decide +kernel) (by decide +kernel)
theorem mw_368 : Cond.code yX0_barring cX0_barring 5 (some .int) ∈ bW := bW_at 811 (by decide +kernel) (by decide +kernel)
theorem mw_369 : Cond.methodLink RX11 167 yX0_barring ∈ bW := bW_at 808 (by decide +kernel) (by decide +kernel)
theorem mw_370 : Cond.instanceMethod yX0_barring ∈ bW := bW_at 809 (by decide +kernel) (by decide +kernel)
theorem mw_371 : Cond.selects RX0 yX0_barring yX0_barring ∈ bW := bW_at 810 (by decide +kernel) (by decide +kernel)
theorem mw_372 : Cond.methodLink RX11 171 yX8_allCorners ∈ bW := bW_at 816 (by decide +kernel) (by decide +kernel)
theorem mw_373 : Cond.fieldLink RX11 175 "OneWays$Town" "corners" "I" ∈ bW := bW_at 234 (by decide +kernel) (by decide +kernel)
theorem mw_374 : Cond.code yX2_reachedFrom cX2_reachedFrom 4 (some .int) ∈ bW := bW_at 820 (by decide +kernel) (by decide +kernel)
theorem mw_375 : Cond.methodLink RX11 178 yX2_reachedFrom ∈ bW := bW_at 817 (by decide +kernel) (by decide +kernel)
theorem mw_376 : Cond.instanceMethod yX2_reachedFrom ∈ bW := bW_at 818 (by decide +kernel) (by decide +kernel)
theorem mw_377 : Cond.selects RX2 yX2_reachedFrom yX2_reachedFrom ∈ bW := bW_at 819 (by decide +kernel) (by decide +kernel)
theorem mw_378 : Cond.code yX0_endAsShown cX0_endAsShown 5 (some .int) ∈ bW := bW_at 828 (by decide +kernel) (by decide +kernel)
theorem mw_379 : Cond.methodLink RX11 182 yX0_endAsShown ∈ bW := bW_at 825 (by decide +kernel) (by decide +kernel)
theorem mw_380 : Cond.instanceMethod yX0_endAsShown ∈ bW := bW_at 826 (by decide +kernel) (by decide +kernel)
theorem mw_381 : Cond.selects RX0 yX0_endAsShown yX0_endAsShown ∈ bW := bW_at 827 (by decide +kernel) (by decide +kernel)
theorem mw_382 : Cond.code yX0_forcedAlleys cX0_forcedAlleys 5 (some .int) ∈ bW := bW_at 841 (by decide +kernel) (by decide +kernel)
theorem mw_383 : Cond.methodLink RX11 185 yX0_forcedAlleys ∈ bW := bW_at 838 (by decide +kernel) (by decide +kernel)
theorem mw_384 : Cond.instanceMethod yX0_forcedAlleys ∈ bW := bW_at 839 (by decide +kernel) (by decide +kernel)
theorem mw_385 : Cond.selects RX0 yX0_forcedAlleys yX0_forcedAlleys ∈ bW := bW_at 840 (by decide +kernel) (by decide +kernel)
theorem mw_386 : Cond.methodLink RX11 188 yX0_onlyWay ∈ bW := bW_at 850 (by decide +kernel) (by decide +kernel)
theorem mw_387 : Cond.constant RX11 411 1000000 ∈ bW := bW_at 866 (by decide +kernel) (by decide +kernel)
theorem mw_388 : Cond.code yX11_isCorner cX11_isCorner 2 (some .boolean) ∈ bW := bW_at 858 (by decide +kernel) (by decide +kernel)
theorem mw_389 : Cond.methodLink RX11 191 yX11_isCorner ∈ bW := bW_at 855 (by decide +kernel) (by decide +kernel)
theorem mw_390 : Cond.instanceMethod yX11_isCorner ∈ bW := bW_at 857 (by decide +kernel) (by decide +kernel)
theorem mw_391 : Cond.selects RX11 yX11_isCorner yX11_isCorner ∈ bW := bW_at 19 (by decide +kernel) (by decide +kernel)
theorem mw_392 : Cond.methodLink RX11 194 yX2_between ∈ bW := bW_at 859 (by decide +kernel) (by decide +kernel)
theorem mw_393 : Cond.code yX11_orNone cX11_orNone 1 (some .int) ∈ bW := bW_at 865 (by decide +kernel) (by decide +kernel)
theorem mw_394 : Cond.methodLink RX11 198 yX11_orNone ∈ bW := bW_at 863 (by decide +kernel) (by decide +kernel)
theorem mw_395 : Cond.static yX11_orNone ∈ bW := bW_at 864 (by decide +kernel) (by decide +kernel)
theorem mw_396 : Cond.fieldLink RX11 287 "OneWays$Town" "journeys" "LOneWays$Journeys;" ∈ bW := bW_at 272 (by decide +kernel) (by decide +kernel)
theorem mw_397 : Cond.fieldLink RX11 381 "OneWays$Journeys" "size" "I" ∈ bW := bW_at 183 (by decide +kernel) (by decide +kernel)
theorem mw_398 : Cond.code yX11_isJourney cX11_isJourney 2 (some .boolean) ∈ bW := bW_at 874 (by decide +kernel) (by decide +kernel)
theorem mw_399 : Cond.methodLink RX11 201 yX11_isJourney ∈ bW := bW_at 871 (by decide +kernel) (by decide +kernel)
theorem mw_400 : Cond.instanceMethod yX11_isJourney ∈ bW := bW_at 873 (by decide +kernel) (by decide +kernel)
theorem mw_401 : Cond.selects RX11 yX11_isJourney yX11_isJourney ∈ bW := bW_at 20 (by decide +kernel) (by decide +kernel)
theorem mw_402 : Cond.methodLink RX11 204 yX2_roundOf ∈ bW := bW_at 875 (by decide +kernel) (by decide +kernel)
theorem mw_403 : Cond.constant RX11 207 1000000000 ∈ bW := bW_at 887 (by decide +kernel) (by decide +kernel)
theorem mw_404 : Cond.methodLink RX11 208 yX2_sumOf ∈ bW := bW_at 888 (by decide +kernel) (by decide +kernel)
theorem mw_405 : Cond.methodLink RX11 212 yX2_worstOf ∈ bW := bW_at 896 (by decide +kernel) (by decide +kernel)
theorem mw_406 : Cond.code yX5_openOnes cX5_openOnes 2 (some .int) ∈ bW := bW_at 911 (by decide +kernel) (by decide +kernel)
theorem mw_407 : Cond.methodLink RX11 215 yX5_openOnes ∈ bW := bW_at 908 (by decide +kernel) (by decide +kernel)
theorem mw_408 : Cond.instanceMethod yX5_openOnes ∈ bW := bW_at 909 (by decide +kernel) (by decide +kernel)
theorem mw_409 : Cond.selects RX5 yX5_openOnes yX5_openOnes ∈ bW := bW_at 910 (by decide +kernel) (by decide +kernel)
theorem mw_410 : Cond.code yX0_endAsBest cX0_endAsBest 9 (some .int) ∈ bW := bW_at 922 (by decide +kernel) (by decide +kernel)
theorem mw_411 : Cond.methodLink RX11 218 yX0_endAsBest ∈ bW := bW_at 919 (by decide +kernel) (by decide +kernel)
theorem mw_412 : Cond.instanceMethod yX0_endAsBest ∈ bW := bW_at 920 (by decide +kernel) (by decide +kernel)
theorem mw_413 : Cond.selects RX0 yX0_endAsBest yX0_endAsBest ∈ bW := bW_at 921 (by decide +kernel) (by decide +kernel)
theorem mw_414 : Cond.code yX11_isComplete cX11_isComplete 2 (some .boolean) ∈ bW := bW_at 945 (by decide +kernel) (by decide +kernel)
theorem mw_415 : Cond.methodLink RX11 222 yX11_isComplete ∈ bW := bW_at 942 (by decide +kernel) (by decide +kernel)
theorem mw_416 : Cond.instanceMethod yX11_isComplete ∈ bW := bW_at 944 (by decide +kernel) (by decide +kernel)
theorem mw_417 : Cond.selects RX11 yX11_isComplete yX11_isComplete ∈ bW := bW_at 25 (by decide +kernel) (by decide +kernel)
theorem mw_418 : Cond.fieldLink RX11 60 "OneWays" "turnings" "LOneWays$Turnings;" ∈ bW := bW_at 508 (by decide +kernel) (by decide +kernel)
theorem mw_419 : Cond.code yX10_firstTurning cX10_firstTurning 6 (some .int) ∈ bW := bW_at 949 (by decide +kernel) (by decide +kernel)
theorem mw_420 : Cond.methodLink RX11 225 yX10_firstTurning ∈ bW := bW_at 946 (by decide +kernel) (by decide +kernel)
theorem mw_421 : Cond.instanceMethod yX10_firstTurning ∈ bW := bW_at 947 (by decide +kernel) (by decide +kernel)
theorem mw_422 : Cond.selects RX10 yX10_firstTurning yX10_firstTurning ∈ bW := bW_at 948 (by decide +kernel) (by decide +kernel)
theorem mw_423 : Cond.methodLink RX11 228 yX10_turn ∈ bW := bW_at 997 (by decide +kernel) (by decide +kernel)
theorem mw_424 : Cond.fieldLink RX11 232 "OneWays$Town" "streets" "LOneWays$Streets;" ∈ bW := bW_at 275 (by decide +kernel) (by decide +kernel)
theorem mw_425 : Cond.fieldLink RX11 236 "OneWays$Streets" "size" "I" ∈ bW := bW_at 211 (by decide +kernel) (by decide +kernel)
theorem mw_426 : Cond.code yX6_isAlike cX6_isAlike 5 (some .boolean) ∈ bW := bW_at 1005 (by decide +kernel) (by decide +kernel)
theorem mw_427 : Cond.methodLink RX11 239 yX6_isAlike ∈ bW := bW_at 1002 (by decide +kernel) (by decide +kernel)
theorem mw_428 : Cond.instanceMethod yX6_isAlike ∈ bW := bW_at 1003 (by decide +kernel) (by decide +kernel)
theorem mw_429 : Cond.selects RX6 yX6_isAlike yX6_isAlike ∈ bW := bW_at 1004 (by decide +kernel) (by decide +kernel)
theorem mw_430 : Cond.fieldLink RX11 243 "OneWays$Town" "gridWide" "I" ∈ bW := bW_at 248 (by decide +kernel) (by decide +kernel)
theorem mw_431 : Cond.code yX8_goByTurns cX8_goByTurns 5 (some .int) ∈ bW := bW_at 1013 (by decide +kernel) (by decide +kernel)
theorem mw_432 : Cond.methodLink RX11 246 yX8_goByTurns ∈ bW := bW_at 1010 (by decide +kernel) (by decide +kernel)
theorem mw_433 : Cond.instanceMethod yX8_goByTurns ∈ bW := bW_at 1011 (by decide +kernel) (by decide +kernel)
theorem mw_434 : Cond.selects RX8 yX8_goByTurns yX8_goByTurns ∈ bW := bW_at 1012 (by decide +kernel) (by decide +kernel)
theorem mw_435 : Cond.code yX2_ringMinutes cX2_ringMinutes 5 (some .int) ∈ bW := bW_at 1021 (by decide +kernel) (by decide +kernel)
theorem mw_436 : Cond.methodLink RX11 250 yX2_ringMinutes ∈ bW := bW_at 1018 (by decide +kernel) (by decide +kernel)
theorem mw_437 : Cond.instanceMethod yX2_ringMinutes ∈ bW := bW_at 1019 (by decide +kernel) (by decide +kernel)
theorem mw_438 : Cond.selects RX2 yX2_ringMinutes yX2_ringMinutes ∈ bW := bW_at 1020 (by decide +kernel) (by decide +kernel)
theorem mw_439 : Cond.fieldLink RX11 253 "OneWays$Paths" "all" "[I" ∈ bW := bW_at 373 (by decide +kernel) (by decide +kernel)
theorem mw_440 : Cond.methodLink RX11 256 yX2_measureAll ∈ bW := bW_at 1031 (by decide +kernel) (by decide +kernel)
theorem mw_441 : Cond.fieldLink RX11 260 "OneWays$Town" "apart" "[I" ∈ bW := bW_at 282 (by decide +kernel) (by decide +kernel)
theorem mw_442 : Cond.fieldLink RX11 75 "OneWays" "pairFrom" "I" ∈ bW := bW_at 511 (by decide +kernel) (by decide +kernel)
theorem mw_443 : Cond.fieldLink RX11 78 "OneWays" "pairTo" "I" ∈ bW := bW_at 512 (by decide +kernel) (by decide +kernel)
theorem mw_444 : Cond.methodLink RX11 263 Lib.Math.max.name ∈ bW := bW_at 1040 (by decide +kernel) (by decide +kernel)
theorem mw_445 : Cond.code yX11_isCoin cX11_isCoin 1 (some .boolean) ∈ bW := bW_at 1047 (by decide +kernel) (by decide +kernel)
theorem mw_446 : Cond.methodLink RX11 266 yX11_isCoin ∈ bW := bW_at 1045 (by decide +kernel) (by decide +kernel)
theorem mw_447 : Cond.static yX11_isCoin ∈ bW := bW_at 1046 (by decide +kernel) (by decide +kernel)
theorem mw_448 : Cond.fieldLink RX11 67 "OneWays" "purse" "LOneWays$Purse;" ∈ bW := bW_at 509 (by decide +kernel) (by decide +kernel)
theorem mw_449 : Cond.code yX3_spend cX3_spend 7 (some .int) ∈ bW := bW_at 1051 (by decide +kernel) (by decide +kernel)
theorem mw_450 : Cond.methodLink RX11 269 yX3_spend ∈ bW := bW_at 1048 (by decide +kernel) (by decide +kernel)
theorem mw_451 : Cond.instanceMethod yX3_spend ∈ bW := bW_at 1049 (by decide +kernel) (by decide +kernel)
theorem mw_452 : Cond.selects RX3 yX3_spend yX3_spend ∈ bW := bW_at 1050 (by decide +kernel) (by decide +kernel)
theorem mw_453 : Cond.code yX3_nextCoin cX3_nextCoin 8 (some .int) ∈ bW := bW_at 1085 (by decide +kernel) (by decide +kernel)
theorem mw_454 : Cond.methodLink RX11 272 yX3_nextCoin ∈ bW := bW_at 1082 (by decide +kernel) (by decide +kernel)
theorem mw_455 : Cond.instanceMethod yX3_nextCoin ∈ bW := bW_at 1083 (by decide +kernel) (by decide +kernel)
theorem mw_456 : Cond.selects RX3 yX3_nextCoin yX3_nextCoin ∈ bW := bW_at 1084 (by decide +kernel) (by decide +kernel)
theorem mw_457 : Cond.code yX8_pricesOfBoth cX8_pricesOfBoth 4 (some .int) ∈ bW := bW_at 1094 (by decide +kernel) (by decide +kernel)
theorem mw_458 : Cond.methodLink RX11 275 yX8_pricesOfBoth ∈ bW := bW_at 1091 (by decide +kernel) (by decide +kernel)
theorem mw_459 : Cond.instanceMethod yX8_pricesOfBoth ∈ bW := bW_at 1092 (by decide +kernel) (by decide +kernel)
theorem mw_460 : Cond.selects RX8 yX8_pricesOfBoth yX8_pricesOfBoth ∈ bW := bW_at 1093 (by decide +kernel) (by decide +kernel)
theorem mw_461 : Cond.fieldLink RX11 278 "OneWays$Town" "house" "I" ∈ bW := bW_at 246 (by decide +kernel) (by decide +kernel)
theorem mw_462 : Cond.code yX2_engineTo cX2_engineTo 4 (some .int) ∈ bW := bW_at 1102 (by decide +kernel) (by decide +kernel)
theorem mw_463 : Cond.methodLink RX11 281 yX2_engineTo ∈ bW := bW_at 1099 (by decide +kernel) (by decide +kernel)
theorem mw_464 : Cond.instanceMethod yX2_engineTo ∈ bW := bW_at 1100 (by decide +kernel) (by decide +kernel)
theorem mw_465 : Cond.selects RX2 yX2_engineTo yX2_engineTo ∈ bW := bW_at 1101 (by decide +kernel) (by decide +kernel)
theorem mw_466 : Cond.code yX11_isMinuteOfDay cX11_isMinuteOfDay 1 (some .boolean) ∈ bW := bW_at 1113 (by decide +kernel) (by decide +kernel)
theorem mw_467 : Cond.methodLink RX11 284 yX11_isMinuteOfDay ∈ bW := bW_at 1111 (by decide +kernel) (by decide +kernel)
theorem mw_468 : Cond.static yX11_isMinuteOfDay ∈ bW := bW_at 1112 (by decide +kernel) (by decide +kernel)
theorem mw_469 : Cond.fieldLink RX11 291 "OneWays$Journeys" "from" "[I" ∈ bW := bW_at 186 (by decide +kernel) (by decide +kernel)
theorem mw_470 : Cond.fieldLink RX11 296 "OneWays$Journeys" "to" "[I" ∈ bW := bW_at 189 (by decide +kernel) (by decide +kernel)
theorem mw_471 : Cond.methodLink RX11 299 yX2_goToward ∈ bW := bW_at 1114 (by decide +kernel) (by decide +kernel)
theorem mw_472 : Cond.methodLink RX11 303 yX2_firstAlleyOn ∈ bW := bW_at 1115 (by decide +kernel) (by decide +kernel)
theorem mw_473 : Cond.fieldLink RX11 306 "OneWays$Town" "minutes" "[I" ∈ bW := bW_at 258 (by decide +kernel) (by decide +kernel)
theorem mw_474 : Cond.methodLink RX11 309 yX8_otherEnd ∈ bW := bW_at 1116 (by decide +kernel) (by decide +kernel)
theorem mw_475 : Cond.code yX10_bestAfternoon cX10_bestAfternoon 11 (some .int) ∈ bW := bW_at 1128 (by decide +kernel) (by decide +kernel)
theorem mw_476 : Cond.methodLink RX11 312 yX10_bestAfternoon ∈ bW := bW_at 1125 (by decide +kernel) (by decide +kernel)
theorem mw_477 : Cond.instanceMethod yX10_bestAfternoon ∈ bW := bW_at 1126 (by decide +kernel) (by decide +kernel)
theorem mw_478 : Cond.selects RX10 yX10_bestAfternoon yX10_bestAfternoon ∈ bW := bW_at 1127 (by decide +kernel) (by decide +kernel)
theorem mw_479 : Cond.methodLink RX11 315 arraycopyName ∈ bW := bW_at 1133 (by decide +kernel) (by decide +kernel)
theorem mw_480 : Cond.methodLink RX11 321 yJ6_bitCount_0f7a4 ∈ bW := bW_at 1136 (by decide +kernel) (by decide +kernel)
theorem mw_481 : Cond.code yX2_strollFrom cX2_strollFrom 8 (some .int) ∈ bW := bW_at 1148 (by decide +kernel) (by decide +kernel)
theorem mw_482 : Cond.methodLink RX11 326 yX2_strollFrom ∈ bW := bW_at 1145 (by decide +kernel) (by decide +kernel)
theorem mw_483 : Cond.instanceMethod yX2_strollFrom ∈ bW := bW_at 1146 (by decide +kernel) (by decide +kernel)
theorem mw_484 : Cond.selects RX2 yX2_strollFrom yX2_strollFrom ∈ bW := bW_at 1147 (by decide +kernel) (by decide +kernel)
theorem mw_485 : Cond.code yX11_differing cX11_differing 5 (some .int) ∈ bW := bW_at 1156 (by decide +kernel) (by decide +kernel)
theorem mw_486 : Cond.methodLink RX11 329 yX11_differing ∈ bW := bW_at 1153 (by decide +kernel) (by decide +kernel)
theorem mw_487 : Cond.instanceMethod yX11_differing ∈ bW := bW_at 1155 (by decide +kernel) (by decide +kernel)
theorem mw_488 : Cond.selects RX11 yX11_differing yX11_differing ∈ bW := bW_at 39 (by decide +kernel) (by decide +kernel)
theorem mw_489 : Cond.code yX8_signsFor cX8_signsFor 7 (some .int) ∈ bW := bW_at 1164 (by decide +kernel) (by decide +kernel)
theorem mw_490 : Cond.methodLink RX11 333 yX8_signsFor ∈ bW := bW_at 1161 (by decide +kernel) (by decide +kernel)
theorem mw_491 : Cond.instanceMethod yX8_signsFor ∈ bW := bW_at 1162 (by decide +kernel) (by decide +kernel)
theorem mw_492 : Cond.selects RX8 yX8_signsFor yX8_signsFor ∈ bW := bW_at 1163 (by decide +kernel) (by decide +kernel)
theorem mw_493 : Cond.code yX2_alleyOfJourney cX2_alleyOfJourney 8 (some .int) ∈ bW := bW_at 1173 (by decide +kernel) (by decide +kernel)
theorem mw_494 : Cond.methodLink RX11 336 yX2_alleyOfJourney ∈ bW := bW_at 1170 (by decide +kernel) (by decide +kernel)
theorem mw_495 : Cond.instanceMethod yX2_alleyOfJourney ∈ bW := bW_at 1171 (by decide +kernel) (by decide +kernel)
theorem mw_496 : Cond.selects RX2 yX2_alleyOfJourney yX2_alleyOfJourney ∈ bW := bW_at 1172 (by decide +kernel) (by decide +kernel)
theorem mw_497 : Cond.code yX2_carryAll cX2_carryAll 6 none ∈ bW := bW_at 1181 (by decide +kernel) (by decide +kernel)
theorem mw_498 : Cond.methodLink RX11 339 yX2_carryAll ∈ bW := bW_at 1178 (by decide +kernel) (by decide +kernel)
theorem mw_499 : Cond.instanceMethod yX2_carryAll ∈ bW := bW_at 1179 (by decide +kernel) (by decide +kernel)
theorem mw_500 : Cond.selects RX2 yX2_carryAll yX2_carryAll ∈ bW := bW_at 1180 (by decide +kernel) (by decide +kernel)
theorem mw_501 : Cond.fieldLink RX11 343 "OneWays$Paths" "carried" "[I" ∈ bW := bW_at 375 (by decide +kernel) (by decide +kernel)
theorem mw_502 : Cond.code yX8_mayStand cX8_mayStand 4 (some .boolean) ∈ bW := bW_at 1197 (by decide +kernel) (by decide +kernel)
theorem mw_503 : Cond.methodLink RX11 353 yX8_mayStand ∈ bW := bW_at 1194 (by decide +kernel) (by decide +kernel)
theorem mw_504 : Cond.instanceMethod yX8_mayStand ∈ bW := bW_at 1195 (by decide +kernel) (by decide +kernel)
theorem mw_505 : Cond.selects RX8 yX8_mayStand yX8_mayStand ∈ bW := bW_at 1196 (by decide +kernel) (by decide +kernel)
theorem mw_506 : Cond.fieldLink RX11 71 "OneWays" "judged" "[I" ∈ bW := bW_at 510 (by decide +kernel) (by decide +kernel)
theorem mw_507 : Cond.code yX11_takeAsWays cX11_takeAsWays 3 (some .boolean) ∈ bW := bW_at 1193 (by decide +kernel) (by decide +kernel)
theorem mw_508 : Cond.methodLink RX11 346 yX11_takeAsWays ∈ bW := bW_at 1190 (by decide +kernel) (by decide +kernel)
theorem mw_509 : Cond.instanceMethod yX11_takeAsWays ∈ bW := bW_at 1192 (by decide +kernel) (by decide +kernel)
theorem mw_510 : Cond.selects RX11 yX11_takeAsWays yX11_takeAsWays ∈ bW := bW_at 40 (by decide +kernel) (by decide +kernel)
theorem mw_511 : Cond.code yX11_judgeWays cX11_judgeWays 2 (some .int) ∈ bW := bW_at 1201 (by decide +kernel) (by decide +kernel)
theorem mw_512 : Cond.methodLink RX11 350 yX11_judgeWays ∈ bW := bW_at 1198 (by decide +kernel) (by decide +kernel)
theorem mw_513 : Cond.instanceMethod yX11_judgeWays ∈ bW := bW_at 1200 (by decide +kernel) (by decide +kernel)
theorem mw_514 : Cond.selects RX11 yX11_judgeWays yX11_judgeWays ∈ bW := bW_at 41 (by decide +kernel) (by decide +kernel)
theorem mw_515 : Cond.code yX2_sparedBy cX2_sparedBy 12 (some .int) ∈ bW := bW_at 1209 (by decide +kernel) (by decide +kernel)
theorem mw_516 : Cond.methodLink RX11 356 yX2_sparedBy ∈ bW := bW_at 1206 (by decide +kernel) (by decide +kernel)
theorem mw_517 : Cond.instanceMethod yX2_sparedBy ∈ bW := bW_at 1207 (by decide +kernel) (by decide +kernel)
theorem mw_518 : Cond.selects RX2 yX2_sparedBy yX2_sparedBy ∈ bW := bW_at 1208 (by decide +kernel) (by decide +kernel)
theorem mw_519 : Cond.fieldLink RX11 81 "OneWays" "spareFrom" "I" ∈ bW := bW_at 513 (by decide +kernel) (by decide +kernel)
theorem mw_520 : Cond.fieldLink RX11 84 "OneWays" "spareTo" "I" ∈ bW := bW_at 514 (by decide +kernel) (by decide +kernel)
theorem mw_521 : Cond.constant RX11 360 (-2000000000) ∈ bW := bW_at 1219 (by decide +kernel) (by decide +kernel)
theorem mw_522 : Cond.fieldLink RX11 361 "OneWays$Town" "from" "[I" ∈ bW := bW_at 252 (by decide +kernel) (by decide +kernel)
theorem mw_523 : Cond.fieldLink RX11 362 "OneWays$Town" "to" "[I" ∈ bW := bW_at 255 (by decide +kernel) (by decide +kernel)
theorem mw_524 : Cond.fieldLink RX11 363 "OneWays$Town" "price" "[I" ∈ bW := bW_at 261 (by decide +kernel) (by decide +kernel)
theorem mw_525 : Cond.fieldLink RX11 366 "OneWays$Town" "told" "I" ∈ bW := bW_at 264 (by decide +kernel) (by decide +kernel)
theorem mw_526 : Cond.fieldLink RX11 369 "OneWays$Town" "against" "I" ∈ bW := bW_at 268 (by decide +kernel) (by decide +kernel)
theorem mw_527 : Cond.fieldLink RX11 372 "OneWays$Streets" "sizes" "[I" ∈ bW := bW_at 216 (by decide +kernel) (by decide +kernel)
theorem mw_528 : Cond.fieldLink RX11 375 "OneWays$Streets" "members" "[I" ∈ bW := bW_at 218 (by decide +kernel) (by decide +kernel)
theorem mw_529 : Cond.fieldLink RX11 378 "OneWays$Journeys" "carts" "[I" ∈ bW := bW_at 192 (by decide +kernel) (by decide +kernel)
theorem mw_530 : Cond.fieldLink RX11 111 "OneWays$Town" "lines" "I" ∈ bW := bW_at 230 (by decide +kernel) (by decide +kernel)
theorem mw_531 : Cond.code yX11_filledSlots cX11_filledSlots 3 (some .int) ∈ bW := bW_at 1235 (by decide +kernel) (by decide +kernel)
theorem mw_532 : Cond.methodLink RX11 382 yX11_filledSlots ∈ bW := bW_at 1232 (by decide +kernel) (by decide +kernel)
theorem mw_533 : Cond.instanceMethod yX11_filledSlots ∈ bW := bW_at 1234 (by decide +kernel) (by decide +kernel)
theorem mw_534 : Cond.selects RX11 yX11_filledSlots yX11_filledSlots ∈ bW := bW_at 42 (by decide +kernel) (by decide +kernel)
theorem mw_535 : Cond.code yX8_gridAlleys cX8_gridAlleys 1 (some .int) ∈ bW := bW_at 1239 (by decide +kernel) (by decide +kernel)
theorem mw_536 : Cond.methodLink RX11 385 yX8_gridAlleys ∈ bW := bW_at 1236 (by decide +kernel) (by decide +kernel)
theorem mw_537 : Cond.instanceMethod yX8_gridAlleys ∈ bW := bW_at 1237 (by decide +kernel) (by decide +kernel)
theorem mw_538 : Cond.selects RX8 yX8_gridAlleys yX8_gridAlleys ∈ bW := bW_at 1238 (by decide +kernel) (by decide +kernel)
theorem mw_539 : Cond.fieldLink RX11 31 "OneWays" "images" "[LOneWays$State;" ∈ bW := bW_at 504 (by decide +kernel) (by decide +kernel)
theorem mw_540 : Cond.code yX5_takeFrom cX5_takeFrom 3 none ∈ bW := bW_at 1247 (by decide +kernel) (by decide +kernel)
theorem mw_541 : Cond.methodLink RX11 388 yX5_takeFrom ∈ bW := bW_at 1244 (by decide +kernel) (by decide +kernel)
theorem mw_542 : Cond.instanceMethod yX5_takeFrom ∈ bW := bW_at 1245 (by decide +kernel) (by decide +kernel)
theorem mw_543 : Cond.selects RX5 yX5_takeFrom yX5_takeFrom ∈ bW := bW_at 1246 (by decide +kernel) (by decide +kernel)
theorem mw_544 : Cond.fieldLink RX11 392 "OneWays$State" "isKept" "Z" ∈ bW := bW_at 354 (by decide +kernel) (by decide +kernel)
theorem mw_545 : Cond.code yX4_makeRow cX4_makeRow 3 none ∈ bW := bW_at 1275 (by decide +kernel) (by decide +kernel)
theorem mw_546 : Cond.methodLink RX11 396 yX4_makeRow ∈ bW := bW_at 1272 (by decide +kernel) (by decide +kernel)
theorem mw_547 : Cond.instanceMethod yX4_makeRow ∈ bW := bW_at 1273 (by decide +kernel) (by decide +kernel)
theorem mw_548 : Cond.selects RX4 yX4_makeRow yX4_makeRow ∈ bW := bW_at 1274 (by decide +kernel) (by decide +kernel)
theorem mw_549 : Cond.fieldLink RX11 404 "OneWays$Slot" "width" "I" ∈ bW := bW_at 443 (by decide +kernel) (by decide +kernel)
theorem mw_550 : Cond.code yX4_hasPart cX4_hasPart 3 (some .boolean) ∈ bW := bW_at 1294 (by decide +kernel) (by decide +kernel)
theorem mw_551 : Cond.methodLink RX11 407 yX4_hasPart ∈ bW := bW_at 1291 (by decide +kernel) (by decide +kernel)
theorem mw_552 : Cond.instanceMethod yX4_hasPart ∈ bW := bW_at 1292 (by decide +kernel) (by decide +kernel)
theorem mw_553 : Cond.selects RX4 yX4_hasPart yX4_hasPart ∈ bW := bW_at 1293 (by decide +kernel) (by decide +kernel)
theorem mw_554 : Cond.code yX4_cutToWidth cX4_cutToWidth 3 (some .long) ∈ bW := bW_at 1286 (by decide +kernel) (by decide +kernel)
theorem mw_555 : Cond.methodLink RX11 400 yX4_cutToWidth ∈ bW := bW_at 1283 (by decide +kernel) (by decide +kernel)
theorem mw_556 : Cond.instanceMethod yX4_cutToWidth ∈ bW := bW_at 1284 (by decide +kernel) (by decide +kernel)
theorem mw_557 : Cond.selects RX4 yX4_cutToWidth yX4_cutToWidth ∈ bW := bW_at 1285 (by decide +kernel) (by decide +kernel)
