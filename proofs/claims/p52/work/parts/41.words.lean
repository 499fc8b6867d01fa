theorem dX2_nearestOf_0 : decode cX2_nearestOf 0 = .ok (.iconst 0, 1) := by decide +kernel
theorem dX2_nearestOf_1 : decode cX2_nearestOf 1 = .ok (.istore_n 3, 1) := by decide +kernel
theorem dX2_nearestOf_2 : decode cX2_nearestOf 2 = .ok (.ldc 76, 2) := by decide +kernel
theorem dX2_nearestOf_4 : decode cX2_nearestOf 4 = .ok (.istore 4, 2) := by decide +kernel
theorem dX2_nearestOf_6 : decode cX2_nearestOf 6 = .ok (.iconst 0, 1) := by decide +kernel
theorem dX2_nearestOf_7 : decode cX2_nearestOf 7 = .ok (.istore 5, 2) := by decide +kernel
theorem dX2_nearestOf_9 : decode cX2_nearestOf 9 = .ok (.iload 5, 2) := by decide +kernel
theorem dX2_nearestOf_11 : decode cX2_nearestOf 11 = .ok (.aload_n 1, 1) := by decide +kernel
theorem dX2_nearestOf_12 : decode cX2_nearestOf 12 = .ok (.getfield 73, 3) := by decide +kernel
theorem dX2_nearestOf_15 : decode cX2_nearestOf 15 = .ok (.if_icmp .ge 42, 3) := by decide +kernel
theorem dX2_nearestOf_18 : decode cX2_nearestOf 18 = .ok (.iload_n 2, 1) := by decide +kernel
theorem dX2_nearestOf_19 : decode cX2_nearestOf 19 = .ok (.iload 5, 2) := by decide +kernel
theorem dX2_nearestOf_21 : decode cX2_nearestOf 21 = .ok (.ishr, 1) := by decide +kernel
theorem dX2_nearestOf_22 : decode cX2_nearestOf 22 = .ok (.iconst 1, 1) := by decide +kernel
theorem dX2_nearestOf_23 : decode cX2_nearestOf 23 = .ok (.iand, 1) := by decide +kernel
theorem dX2_nearestOf_24 : decode cX2_nearestOf 24 = .ok (.ifCond .eq 27, 3) := by decide +kernel
theorem dX2_nearestOf_51 : decode cX2_nearestOf 51 = .ok (.iinc 5 1, 3) := by decide +kernel
theorem dX2_nearestOf_54 : decode cX2_nearestOf 54 = .ok (.goto (-45), 3) := by decide +kernel
theorem dX2_nearestOf_27 : decode cX2_nearestOf 27 = .ok (.aload_n 0, 1) := by decide +kernel
theorem dX2_nearestOf_28 : decode cX2_nearestOf 28 = .ok (.getfield 9, 3) := by decide +kernel
theorem dX2_nearestOf_31 : decode cX2_nearestOf 31 = .ok (.iload 5, 2) := by decide +kernel
theorem dX2_nearestOf_33 : decode cX2_nearestOf 33 = .ok (.iaload, 1) := by decide +kernel
theorem dX2_nearestOf_34 : decode cX2_nearestOf 34 = .ok (.iload 4, 2) := by decide +kernel
theorem dX2_nearestOf_36 : decode cX2_nearestOf 36 = .ok (.if_icmp .ge 15, 3) := by decide +kernel
theorem dX2_nearestOf_39 : decode cX2_nearestOf 39 = .ok (.aload_n 0, 1) := by decide +kernel
theorem dX2_nearestOf_40 : decode cX2_nearestOf 40 = .ok (.getfield 9, 3) := by decide +kernel
theorem dX2_nearestOf_43 : decode cX2_nearestOf 43 = .ok (.iload 5, 2) := by decide +kernel
theorem dX2_nearestOf_45 : decode cX2_nearestOf 45 = .ok (.iaload, 1) := by decide +kernel
theorem dX2_nearestOf_46 : decode cX2_nearestOf 46 = .ok (.istore 4, 2) := by decide +kernel
theorem dX2_nearestOf_48 : decode cX2_nearestOf 48 = .ok (.iload 5, 2) := by decide +kernel
theorem dX2_nearestOf_50 : decode cX2_nearestOf 50 = .ok (.istore_n 3, 1) := by decide +kernel
theorem dX2_nearestOf_57 : decode cX2_nearestOf 57 = .ok (.iload_n 3, 1) := by decide +kernel
theorem dX2_nearestOf_58 : decode cX2_nearestOf 58 = .ok (.ireturn, 1) := by decide +kernel
theorem dX2_spread_0 : decode cX2_spread 0 = .ok (.iconst 1, 1) := by decide +kernel
theorem dX2_spread_1 : decode cX2_spread 1 = .ok (.iload_n 3, 1) := by decide +kernel
theorem dX2_spread_2 : decode cX2_spread 2 = .ok (.ishl, 1) := by decide +kernel
theorem dX2_spread_3 : decode cX2_spread 3 = .ok (.istore 4, 2) := by decide +kernel
theorem dX2_spread_5 : decode cX2_spread 5 = .ok (.iconst 0, 1) := by decide +kernel
theorem dX2_spread_6 : decode cX2_spread 6 = .ok (.istore 5, 2) := by decide +kernel
theorem dX2_spread_8 : decode cX2_spread 8 = .ok (.iload 5, 2) := by decide +kernel
theorem dX2_spread_10 : decode cX2_spread 10 = .ok (.aload_n 1, 1) := by decide +kernel
theorem dX2_spread_11 : decode cX2_spread 11 = .ok (.getfield 73, 3) := by decide +kernel
theorem dX2_spread_14 : decode cX2_spread 14 = .ok (.if_icmp .ge 60, 3) := by decide +kernel
theorem dX2_spread_17 : decode cX2_spread 17 = .ok (.iload 4, 2) := by decide +kernel
theorem dX2_spread_19 : decode cX2_spread 19 = .ok (.istore 6, 2) := by decide +kernel
theorem dX2_spread_21 : decode cX2_spread 21 = .ok (.iconst 0, 1) := by decide +kernel
theorem dX2_spread_22 : decode cX2_spread 22 = .ok (.istore 7, 2) := by decide +kernel
theorem dX2_spread_24 : decode cX2_spread 24 = .ok (.iload 7, 2) := by decide +kernel
theorem dX2_spread_26 : decode cX2_spread 26 = .ok (.aload_n 1, 1) := by decide +kernel
theorem dX2_spread_27 : decode cX2_spread 27 = .ok (.getfield 73, 3) := by decide +kernel
theorem dX2_spread_30 : decode cX2_spread 30 = .ok (.if_icmp .ge 28, 3) := by decide +kernel
theorem dX2_spread_33 : decode cX2_spread 33 = .ok (.iload 4, 2) := by decide +kernel
theorem dX2_spread_35 : decode cX2_spread 35 = .ok (.iload 7, 2) := by decide +kernel
theorem dX2_spread_37 : decode cX2_spread 37 = .ok (.ishr, 1) := by decide +kernel
theorem dX2_spread_38 : decode cX2_spread 38 = .ok (.iconst 1, 1) := by decide +kernel
theorem dX2_spread_39 : decode cX2_spread 39 = .ok (.iand, 1) := by decide +kernel
theorem dX2_spread_40 : decode cX2_spread 40 = .ok (.ifCond .eq 12, 3) := by decide +kernel
theorem dX2_spread_52 : decode cX2_spread 52 = .ok (.iinc 7 1, 3) := by decide +kernel
theorem dX2_spread_55 : decode cX2_spread 55 = .ok (.goto (-31), 3) := by decide +kernel
theorem dX2_spread_43 : decode cX2_spread 43 = .ok (.iload 4, 2) := by decide +kernel
theorem dX2_spread_45 : decode cX2_spread 45 = .ok (.aload_n 2, 1) := by decide +kernel
theorem dX2_spread_46 : decode cX2_spread 46 = .ok (.iload 7, 2) := by decide +kernel
theorem dX2_spread_48 : decode cX2_spread 48 = .ok (.iaload, 1) := by decide +kernel
theorem dX2_spread_49 : decode cX2_spread 49 = .ok (.ior, 1) := by decide +kernel
theorem dX2_spread_50 : decode cX2_spread 50 = .ok (.istore 4, 2) := by decide +kernel
theorem dX2_spread_58 : decode cX2_spread 58 = .ok (.iload 4, 2) := by decide +kernel
theorem dX2_spread_60 : decode cX2_spread 60 = .ok (.iload 6, 2) := by decide +kernel
theorem dX2_spread_62 : decode cX2_spread 62 = .ok (.if_icmp .ne 6, 3) := by decide +kernel
theorem dX2_spread_68 : decode cX2_spread 68 = .ok (.iinc 5 1, 3) := by decide +kernel
theorem dX2_spread_71 : decode cX2_spread 71 = .ok (.goto (-63), 3) := by decide +kernel
theorem dX2_spread_65 : decode cX2_spread 65 = .ok (.iload 4, 2) := by decide +kernel
theorem dX2_spread_67 : decode cX2_spread 67 = .ok (.ireturn, 1) := by decide +kernel
theorem dX2_spread_74 : decode cX2_spread 74 = .ok (.iload 4, 2) := by decide +kernel
theorem dX2_spread_76 : decode cX2_spread 76 = .ok (.ireturn, 1) := by decide +kernel
theorem dX8_openAlleys_0 : decode cX8_openAlleys 0 = .ok (.iconst 0, 1) := by decide +kernel
theorem dX8_openAlleys_1 : decode cX8_openAlleys 1 = .ok (.istore_n 2, 1) := by decide +kernel
theorem dX8_openAlleys_2 : decode cX8_openAlleys 2 = .ok (.iconst 0, 1) := by decide +kernel
theorem dX8_openAlleys_3 : decode cX8_openAlleys 3 = .ok (.istore_n 3, 1) := by decide +kernel
theorem dX8_openAlleys_4 : decode cX8_openAlleys 4 = .ok (.iload_n 3, 1) := by decide +kernel
theorem dX8_openAlleys_5 : decode cX8_openAlleys 5 = .ok (.aload_n 0, 1) := by decide +kernel
theorem dX8_openAlleys_6 : decode cX8_openAlleys 6 = .ok (.getfield 18, 3) := by decide +kernel
theorem dX8_openAlleys_9 : decode cX8_openAlleys 9 = .ok (.if_icmp .ge 21, 3) := by decide +kernel
theorem dX8_openAlleys_12 : decode cX8_openAlleys 12 = .ok (.aload_n 1, 1) := by decide +kernel
theorem dX8_openAlleys_13 : decode cX8_openAlleys 13 = .ok (.iload_n 3, 1) := by decide +kernel
theorem dX8_openAlleys_14 : decode cX8_openAlleys 14 = .ok (.iaload, 1) := by decide +kernel
theorem dX8_openAlleys_15 : decode cX8_openAlleys 15 = .ok (.ifCond .ne 9, 3) := by decide +kernel
theorem dX8_openAlleys_24 : decode cX8_openAlleys 24 = .ok (.iinc 3 1, 3) := by decide +kernel
theorem dX8_openAlleys_27 : decode cX8_openAlleys 27 = .ok (.goto (-23), 3) := by decide +kernel
theorem dX8_openAlleys_18 : decode cX8_openAlleys 18 = .ok (.iload_n 2, 1) := by decide +kernel
theorem dX8_openAlleys_19 : decode cX8_openAlleys 19 = .ok (.iconst 1, 1) := by decide +kernel
theorem dX8_openAlleys_20 : decode cX8_openAlleys 20 = .ok (.iload_n 3, 1) := by decide +kernel
theorem dX8_openAlleys_21 : decode cX8_openAlleys 21 = .ok (.ishl, 1) := by decide +kernel
theorem dX8_openAlleys_22 : decode cX8_openAlleys 22 = .ok (.ior, 1) := by decide +kernel
theorem dX8_openAlleys_23 : decode cX8_openAlleys 23 = .ok (.istore_n 2, 1) := by decide +kernel
theorem dX8_openAlleys_30 : decode cX8_openAlleys 30 = .ok (.iload_n 2, 1) := by decide +kernel
theorem dX8_openAlleys_31 : decode cX8_openAlleys 31 = .ok (.ireturn, 1) := by decide +kernel
theorem dX8_pricesOfBoth_0 : decode cX8_pricesOfBoth 0 = .ok (.iconst 0, 1) := by decide +kernel
theorem dX8_pricesOfBoth_1 : decode cX8_pricesOfBoth 1 = .ok (.istore_n 2, 1) := by decide +kernel
theorem dX8_pricesOfBoth_2 : decode cX8_pricesOfBoth 2 = .ok (.iconst 0, 1) := by decide +kernel
theorem dX8_pricesOfBoth_3 : decode cX8_pricesOfBoth 3 = .ok (.istore_n 3, 1) := by decide +kernel
theorem dX8_pricesOfBoth_4 : decode cX8_pricesOfBoth 4 = .ok (.iload_n 3, 1) := by decide +kernel
theorem dX8_pricesOfBoth_5 : decode cX8_pricesOfBoth 5 = .ok (.aload_n 0, 1) := by decide +kernel
theorem dX8_pricesOfBoth_6 : decode cX8_pricesOfBoth 6 = .ok (.getfield 18, 3) := by decide +kernel
theorem dX8_pricesOfBoth_9 : decode cX8_pricesOfBoth 9 = .ok (.if_icmp .ge 25, 3) := by decide +kernel
theorem dX8_pricesOfBoth_12 : decode cX8_pricesOfBoth 12 = .ok (.aload_n 1, 1) := by decide +kernel
theorem dX8_pricesOfBoth_13 : decode cX8_pricesOfBoth 13 = .ok (.iload_n 3, 1) := by decide +kernel
theorem dX8_pricesOfBoth_14 : decode cX8_pricesOfBoth 14 = .ok (.iaload, 1) := by decide +kernel
theorem dX8_pricesOfBoth_15 : decode cX8_pricesOfBoth 15 = .ok (.iconst 3, 1) := by decide +kernel
theorem dX8_pricesOfBoth_16 : decode cX8_pricesOfBoth 16 = .ok (.if_icmp .ne 12, 3) := by decide +kernel
theorem dX8_pricesOfBoth_28 : decode cX8_pricesOfBoth 28 = .ok (.iinc 3 1, 3) := by decide +kernel
theorem dX8_pricesOfBoth_31 : decode cX8_pricesOfBoth 31 = .ok (.goto (-27), 3) := by decide +kernel
theorem dX8_pricesOfBoth_19 : decode cX8_pricesOfBoth 19 = .ok (.iload_n 2, 1) := by decide +kernel
theorem dX8_pricesOfBoth_20 : decode cX8_pricesOfBoth 20 = .ok (.aload_n 0, 1) := by decide +kernel
theorem dX8_pricesOfBoth_21 : decode cX8_pricesOfBoth 21 = .ok (.getfield 40, 3) := by decide +kernel
theorem dX8_pricesOfBoth_24 : decode cX8_pricesOfBoth 24 = .ok (.iload_n 3, 1) := by decide +kernel
theorem dX8_pricesOfBoth_25 : decode cX8_pricesOfBoth 25 = .ok (.iaload, 1) := by decide +kernel
theorem dX8_pricesOfBoth_26 : decode cX8_pricesOfBoth 26 = .ok (.iadd, 1) := by decide +kernel
theorem dX8_pricesOfBoth_27 : decode cX8_pricesOfBoth 27 = .ok (.istore_n 2, 1) := by decide +kernel
theorem dX8_pricesOfBoth_34 : decode cX8_pricesOfBoth 34 = .ok (.iload_n 2, 1) := by decide +kernel
theorem dX8_pricesOfBoth_35 : decode cX8_pricesOfBoth 35 = .ok (.ireturn, 1) := by decide +kernel
theorem dX8_otherEnd_0 : decode cX8_otherEnd 0 = .ok (.aload_n 0, 1) := by decide +kernel
theorem dX8_otherEnd_1 : decode cX8_otherEnd 1 = .ok (.getfield 30, 3) := by decide +kernel
theorem dX8_otherEnd_4 : decode cX8_otherEnd 4 = .ok (.iload_n 1, 1) := by decide +kernel
theorem dX8_otherEnd_5 : decode cX8_otherEnd 5 = .ok (.iaload, 1) := by decide +kernel
theorem dX8_otherEnd_6 : decode cX8_otherEnd 6 = .ok (.iload_n 2, 1) := by decide +kernel
theorem dX8_otherEnd_7 : decode cX8_otherEnd 7 = .ok (.if_icmp .ne 12, 3) := by decide +kernel
theorem dX8_otherEnd_19 : decode cX8_otherEnd 19 = .ok (.aload_n 0, 1) := by decide +kernel
theorem dX8_otherEnd_20 : decode cX8_otherEnd 20 = .ok (.getfield 30, 3) := by decide +kernel
theorem dX8_otherEnd_23 : decode cX8_otherEnd 23 = .ok (.iload_n 1, 1) := by decide +kernel
theorem dX8_otherEnd_24 : decode cX8_otherEnd 24 = .ok (.iaload, 1) := by decide +kernel
theorem dX8_otherEnd_25 : decode cX8_otherEnd 25 = .ok (.ireturn, 1) := by decide +kernel
theorem dX8_otherEnd_10 : decode cX8_otherEnd 10 = .ok (.aload_n 0, 1) := by decide +kernel
theorem dX8_otherEnd_11 : decode cX8_otherEnd 11 = .ok (.getfield 34, 3) := by decide +kernel
theorem dX8_otherEnd_14 : decode cX8_otherEnd 14 = .ok (.iload_n 1, 1) := by decide +kernel
theorem dX8_otherEnd_15 : decode cX8_otherEnd 15 = .ok (.iaload, 1) := by decide +kernel
theorem dX8_otherEnd_16 : decode cX8_otherEnd 16 = .ok (.goto 9, 3) := by decide +kernel
theorem dX8_mayEnter_0 : decode cX8_mayEnter 0 = .ok (.aload_n 1, 1) := by decide +kernel
theorem dX8_mayEnter_1 : decode cX8_mayEnter 1 = .ok (.iload_n 2, 1) := by decide +kernel
theorem dX8_mayEnter_2 : decode cX8_mayEnter 2 = .ok (.iaload, 1) := by decide +kernel
theorem dX8_mayEnter_3 : decode cX8_mayEnter 3 = .ok (.aload_n 0, 1) := by decide +kernel
theorem dX8_mayEnter_4 : decode cX8_mayEnter 4 = .ok (.getfield 30, 3) := by decide +kernel
theorem dX8_mayEnter_7 : decode cX8_mayEnter 7 = .ok (.iload_n 2, 1) := by decide +kernel
theorem dX8_mayEnter_8 : decode cX8_mayEnter 8 = .ok (.iaload, 1) := by decide +kernel
theorem dX8_mayEnter_9 : decode cX8_mayEnter 9 = .ok (.iload_n 3, 1) := by decide +kernel
theorem dX8_mayEnter_10 : decode cX8_mayEnter 10 = .ok (.if_icmp .ne 7, 3) := by decide +kernel
theorem dX8_mayEnter_17 : decode cX8_mayEnter 17 = .ok (.iconst 1, 1) := by decide +kernel
theorem dX8_mayEnter_18 : decode cX8_mayEnter 18 = .ok (.if_icmp .eq 7, 3) := by decide +kernel
theorem dX8_mayEnter_25 : decode cX8_mayEnter 25 = .ok (.iconst 0, 1) := by decide +kernel
theorem dX8_mayEnter_26 : decode cX8_mayEnter 26 = .ok (.ireturn, 1) := by decide +kernel
theorem dX8_mayEnter_21 : decode cX8_mayEnter 21 = .ok (.iconst 1, 1) := by decide +kernel
theorem dX8_mayEnter_22 : decode cX8_mayEnter 22 = .ok (.goto 4, 3) := by decide +kernel
theorem dX8_mayEnter_13 : decode cX8_mayEnter 13 = .ok (.iconst 2, 1) := by decide +kernel
theorem dX8_mayEnter_14 : decode cX8_mayEnter 14 = .ok (.goto 4, 3) := by decide +kernel
theorem dX8_isTold_0 : decode cX8_isTold 0 = .ok (.aload_n 0, 1) := by decide +kernel
theorem dX8_isTold_1 : decode cX8_isTold 1 = .ok (.getfield 43, 3) := by decide +kernel
theorem dX8_isTold_4 : decode cX8_isTold 4 = .ok (.iload_n 1, 1) := by decide +kernel
theorem dX8_isTold_5 : decode cX8_isTold 5 = .ok (.ishr, 1) := by decide +kernel
theorem dX8_isTold_6 : decode cX8_isTold 6 = .ok (.iconst 1, 1) := by decide +kernel
theorem dX8_isTold_7 : decode cX8_isTold 7 = .ok (.iand, 1) := by decide +kernel
theorem dX8_isTold_8 : decode cX8_isTold 8 = .ok (.ifCond .eq 7, 3) := by decide +kernel
theorem dX8_isTold_15 : decode cX8_isTold 15 = .ok (.iconst 0, 1) := by decide +kernel
theorem dX8_isTold_16 : decode cX8_isTold 16 = .ok (.ireturn, 1) := by decide +kernel
theorem dX8_isTold_11 : decode cX8_isTold 11 = .ok (.iconst 1, 1) := by decide +kernel
theorem dX8_isTold_12 : decode cX8_isTold 12 = .ok (.goto 4, 3) := by decide +kernel
theorem dX8_allCorners_0 : decode cX8_allCorners 0 = .ok (.iconst 1, 1) := by decide +kernel
theorem dX8_allCorners_1 : decode cX8_allCorners 1 = .ok (.aload_n 0, 1) := by decide +kernel
theorem dX8_allCorners_2 : decode cX8_allCorners 2 = .ok (.getfield 15, 3) := by decide +kernel
theorem dX8_allCorners_5 : decode cX8_allCorners 5 = .ok (.ishl, 1) := by decide +kernel
theorem dX8_allCorners_6 : decode cX8_allCorners 6 = .ok (.iconst 1, 1) := by decide +kernel
theorem dX8_allCorners_7 : decode cX8_allCorners 7 = .ok (.isub, 1) := by decide +kernel
theorem dX8_allCorners_8 : decode cX8_allCorners 8 = .ok (.ireturn, 1) := by decide +kernel
theorem dX8_gridAlleys_0 : decode cX8_gridAlleys 0 = .ok (.aload_n 0, 1) := by decide +kernel
theorem dX8_gridAlleys_1 : decode cX8_gridAlleys 1 = .ok (.getfield 24, 3) := by decide +kernel
theorem dX8_gridAlleys_4 : decode cX8_gridAlleys 4 = .ok (.ifCond .ne 7, 3) := by decide +kernel
theorem dX8_gridAlleys_11 : decode cX8_gridAlleys 11 = .ok (.aload_n 0, 1) := by decide +kernel
theorem dX8_gridAlleys_12 : decode cX8_gridAlleys 12 = .ok (.getfield 24, 3) := by decide +kernel
theorem dX8_gridAlleys_15 : decode cX8_gridAlleys 15 = .ok (.iconst 1, 1) := by decide +kernel
theorem dX8_gridAlleys_16 : decode cX8_gridAlleys 16 = .ok (.isub, 1) := by decide +kernel
theorem dX8_gridAlleys_17 : decode cX8_gridAlleys 17 = .ok (.aload_n 0, 1) := by decide +kernel
theorem dX8_gridAlleys_18 : decode cX8_gridAlleys 18 = .ok (.getfield 27, 3) := by decide +kernel
theorem dX8_gridAlleys_21 : decode cX8_gridAlleys 21 = .ok (.imul, 1) := by decide +kernel
theorem dX8_gridAlleys_22 : decode cX8_gridAlleys 22 = .ok (.aload_n 0, 1) := by decide +kernel
theorem dX8_gridAlleys_23 : decode cX8_gridAlleys 23 = .ok (.getfield 24, 3) := by decide +kernel
theorem dX8_gridAlleys_26 : decode cX8_gridAlleys 26 = .ok (.aload_n 0, 1) := by decide +kernel
theorem dX8_gridAlleys_27 : decode cX8_gridAlleys 27 = .ok (.getfield 27, 3) := by decide +kernel
theorem dX8_gridAlleys_30 : decode cX8_gridAlleys 30 = .ok (.iconst 1, 1) := by decide +kernel
theorem dX8_gridAlleys_31 : decode cX8_gridAlleys 31 = .ok (.isub, 1) := by decide +kernel
theorem dX8_gridAlleys_32 : decode cX8_gridAlleys 32 = .ok (.imul, 1) := by decide +kernel
theorem dX8_gridAlleys_33 : decode cX8_gridAlleys 33 = .ok (.iadd, 1) := by decide +kernel
theorem dX8_gridAlleys_34 : decode cX8_gridAlleys 34 = .ok (.ireturn, 1) := by decide +kernel
theorem dX8_gridAlleys_7 : decode cX8_gridAlleys 7 = .ok (.iconst 0, 1) := by decide +kernel
theorem dX8_gridAlleys_8 : decode cX8_gridAlleys 8 = .ok (.goto 26, 3) := by decide +kernel
theorem dX8_listEnds_0 : decode cX8_listEnds 0 = .ok (.iconst 0, 1) := by decide +kernel
theorem dX8_listEnds_1 : decode cX8_listEnds 1 = .ok (.istore_n 1, 1) := by decide +kernel
theorem dX8_listEnds_2 : decode cX8_listEnds 2 = .ok (.iconst 0, 1) := by decide +kernel
theorem dX8_listEnds_3 : decode cX8_listEnds 3 = .ok (.istore_n 2, 1) := by decide +kernel
theorem dX8_listEnds_4 : decode cX8_listEnds 4 = .ok (.iload_n 2, 1) := by decide +kernel
theorem dX8_listEnds_5 : decode cX8_listEnds 5 = .ok (.aload_n 0, 1) := by decide +kernel
theorem dX8_listEnds_6 : decode cX8_listEnds 6 = .ok (.getfield 15, 3) := by decide +kernel
theorem dX8_listEnds_9 : decode cX8_listEnds 9 = .ok (.if_icmp .ge 62, 3) := by decide +kernel
theorem dX8_listEnds_12 : decode cX8_listEnds 12 = .ok (.aload_n 0, 1) := by decide +kernel
theorem dX8_listEnds_13 : decode cX8_listEnds 13 = .ok (.getfield 63, 3) := by decide +kernel
theorem dX8_listEnds_16 : decode cX8_listEnds 16 = .ok (.iload_n 2, 1) := by decide +kernel
theorem dX8_listEnds_17 : decode cX8_listEnds 17 = .ok (.iload_n 1, 1) := by decide +kernel
theorem dX8_listEnds_18 : decode cX8_listEnds 18 = .ok (.iastore, 1) := by decide +kernel
theorem dX8_listEnds_19 : decode cX8_listEnds 19 = .ok (.iconst 0, 1) := by decide +kernel
theorem dX8_listEnds_20 : decode cX8_listEnds 20 = .ok (.istore_n 3, 1) := by decide +kernel
theorem dX8_listEnds_21 : decode cX8_listEnds 21 = .ok (.iload_n 3, 1) := by decide +kernel
theorem dX8_listEnds_22 : decode cX8_listEnds 22 = .ok (.aload_n 0, 1) := by decide +kernel
theorem dX8_listEnds_23 : decode cX8_listEnds 23 = .ok (.getfield 18, 3) := by decide +kernel
theorem dX8_listEnds_26 : decode cX8_listEnds 26 = .ok (.if_icmp .ge 39, 3) := by decide +kernel
theorem dX8_listEnds_29 : decode cX8_listEnds 29 = .ok (.aload_n 0, 1) := by decide +kernel
theorem dX8_listEnds_30 : decode cX8_listEnds 30 = .ok (.getfield 30, 3) := by decide +kernel
theorem dX8_listEnds_33 : decode cX8_listEnds 33 = .ok (.iload_n 3, 1) := by decide +kernel
theorem dX8_listEnds_34 : decode cX8_listEnds 34 = .ok (.iaload, 1) := by decide +kernel
theorem dX8_listEnds_35 : decode cX8_listEnds 35 = .ok (.iload_n 2, 1) := by decide +kernel
theorem dX8_listEnds_36 : decode cX8_listEnds 36 = .ok (.if_icmp .eq 13, 3) := by decide +kernel
theorem dX8_listEnds_49 : decode cX8_listEnds 49 = .ok (.aload_n 0, 1) := by decide +kernel
theorem dX8_listEnds_50 : decode cX8_listEnds 50 = .ok (.getfield 66, 3) := by decide +kernel
theorem dX8_listEnds_53 : decode cX8_listEnds 53 = .ok (.iload_n 1, 1) := by decide +kernel
theorem dX8_listEnds_54 : decode cX8_listEnds 54 = .ok (.iload_n 3, 1) := by decide +kernel
theorem dX8_listEnds_55 : decode cX8_listEnds 55 = .ok (.iastore, 1) := by decide +kernel
theorem dX8_listEnds_56 : decode cX8_listEnds 56 = .ok (.iinc 1 1, 3) := by decide +kernel
theorem dX8_listEnds_59 : decode cX8_listEnds 59 = .ok (.iinc 3 1, 3) := by decide +kernel
theorem dX8_listEnds_62 : decode cX8_listEnds 62 = .ok (.goto (-41), 3) := by decide +kernel
theorem dX8_listEnds_39 : decode cX8_listEnds 39 = .ok (.aload_n 0, 1) := by decide +kernel
theorem dX8_listEnds_40 : decode cX8_listEnds 40 = .ok (.getfield 34, 3) := by decide +kernel
theorem dX8_listEnds_43 : decode cX8_listEnds 43 = .ok (.iload_n 3, 1) := by decide +kernel
theorem dX8_listEnds_44 : decode cX8_listEnds 44 = .ok (.iaload, 1) := by decide +kernel
theorem dX8_listEnds_45 : decode cX8_listEnds 45 = .ok (.iload_n 2, 1) := by decide +kernel
theorem dX8_listEnds_46 : decode cX8_listEnds 46 = .ok (.if_icmp .ne 13, 3) := by decide +kernel
theorem dX8_listEnds_65 : decode cX8_listEnds 65 = .ok (.iinc 2 1, 3) := by decide +kernel
theorem dX8_listEnds_68 : decode cX8_listEnds 68 = .ok (.goto (-64), 3) := by decide +kernel
theorem dX8_listEnds_71 : decode cX8_listEnds 71 = .ok (.aload_n 0, 1) := by decide +kernel
theorem dX8_listEnds_72 : decode cX8_listEnds 72 = .ok (.getfield 63, 3) := by decide +kernel
theorem dX8_listEnds_75 : decode cX8_listEnds 75 = .ok (.aload_n 0, 1) := by decide +kernel
theorem dX8_listEnds_76 : decode cX8_listEnds 76 = .ok (.getfield 15, 3) := by decide +kernel
theorem dX8_listEnds_79 : decode cX8_listEnds 79 = .ok (.iload_n 1, 1) := by decide +kernel
theorem dX8_listEnds_80 : decode cX8_listEnds 80 = .ok (.iastore, 1) := by decide +kernel
theorem dX8_listEnds_81 : decode cX8_listEnds 81 = .ok (.return_, 1) := by decide +kernel
theorem dX8_goByTurns_0 : decode cX8_goByTurns 0 = .ok (.iconst 0, 1) := by decide +kernel
theorem dX8_goByTurns_1 : decode cX8_goByTurns 1 = .ok (.istore_n 2, 1) := by decide +kernel
theorem dX8_goByTurns_2 : decode cX8_goByTurns 2 = .ok (.iconst 0, 1) := by decide +kernel
theorem dX8_goByTurns_3 : decode cX8_goByTurns 3 = .ok (.istore_n 3, 1) := by decide +kernel
theorem dX8_goByTurns_4 : decode cX8_goByTurns 4 = .ok (.iload_n 3, 1) := by decide +kernel
theorem dX8_goByTurns_5 : decode cX8_goByTurns 5 = .ok (.aload_n 0, 1) := by decide +kernel
theorem dX8_goByTurns_6 : decode cX8_goByTurns 6 = .ok (.getfield 27, 3) := by decide +kernel
theorem dX8_goByTurns_9 : decode cX8_goByTurns 9 = .ok (.if_icmp .ge 46, 3) := by decide +kernel
theorem dX8_goByTurns_12 : decode cX8_goByTurns 12 = .ok (.iconst 0, 1) := by decide +kernel
theorem dX8_goByTurns_13 : decode cX8_goByTurns 13 = .ok (.istore 4, 2) := by decide +kernel
theorem dX8_goByTurns_15 : decode cX8_goByTurns 15 = .ok (.iload 4, 2) := by decide +kernel
theorem dX8_goByTurns_17 : decode cX8_goByTurns 17 = .ok (.iconst 1, 1) := by decide +kernel
theorem dX8_goByTurns_18 : decode cX8_goByTurns 18 = .ok (.iadd, 1) := by decide +kernel
theorem dX8_goByTurns_19 : decode cX8_goByTurns 19 = .ok (.aload_n 0, 1) := by decide +kernel
theorem dX8_goByTurns_20 : decode cX8_goByTurns 20 = .ok (.getfield 24, 3) := by decide +kernel
theorem dX8_goByTurns_23 : decode cX8_goByTurns 23 = .ok (.if_icmp .ge 26, 3) := by decide +kernel
theorem dX8_goByTurns_26 : decode cX8_goByTurns 26 = .ok (.aload_n 1, 1) := by decide +kernel
theorem dX8_goByTurns_27 : decode cX8_goByTurns 27 = .ok (.iload_n 2, 1) := by decide +kernel
theorem dX8_goByTurns_28 : decode cX8_goByTurns 28 = .ok (.iload_n 3, 1) := by decide +kernel
theorem dX8_goByTurns_29 : decode cX8_goByTurns 29 = .ok (.iconst 2, 1) := by decide +kernel
theorem dX8_goByTurns_30 : decode cX8_goByTurns 30 = .ok (.irem, 1) := by decide +kernel
theorem dX8_goByTurns_31 : decode cX8_goByTurns 31 = .ok (.ifCond .ne 7, 3) := by decide +kernel
theorem dX8_goByTurns_38 : decode cX8_goByTurns 38 = .ok (.iconst 2, 1) := by decide +kernel
theorem dX8_goByTurns_39 : decode cX8_goByTurns 39 = .ok (.iastore, 1) := by decide +kernel
theorem dX8_goByTurns_40 : decode cX8_goByTurns 40 = .ok (.iinc 2 1, 3) := by decide +kernel
theorem dX8_goByTurns_43 : decode cX8_goByTurns 43 = .ok (.iinc 4 1, 3) := by decide +kernel
theorem dX8_goByTurns_46 : decode cX8_goByTurns 46 = .ok (.goto (-31), 3) := by decide +kernel
theorem dX8_goByTurns_34 : decode cX8_goByTurns 34 = .ok (.iconst 1, 1) := by decide +kernel
theorem dX8_goByTurns_35 : decode cX8_goByTurns 35 = .ok (.goto 4, 3) := by decide +kernel
theorem dX8_goByTurns_49 : decode cX8_goByTurns 49 = .ok (.iinc 3 1, 3) := by decide +kernel
theorem dX8_goByTurns_52 : decode cX8_goByTurns 52 = .ok (.goto (-48), 3) := by decide +kernel
theorem dX8_goByTurns_55 : decode cX8_goByTurns 55 = .ok (.iconst 0, 1) := by decide +kernel
theorem dX8_goByTurns_56 : decode cX8_goByTurns 56 = .ok (.istore_n 3, 1) := by decide +kernel
theorem dX8_goByTurns_57 : decode cX8_goByTurns 57 = .ok (.iload_n 3, 1) := by decide +kernel
theorem dX8_goByTurns_58 : decode cX8_goByTurns 58 = .ok (.aload_n 0, 1) := by decide +kernel
theorem dX8_goByTurns_59 : decode cX8_goByTurns 59 = .ok (.getfield 24, 3) := by decide +kernel
theorem dX8_goByTurns_62 : decode cX8_goByTurns 62 = .ok (.if_icmp .ge 46, 3) := by decide +kernel
theorem dX8_goByTurns_65 : decode cX8_goByTurns 65 = .ok (.iconst 0, 1) := by decide +kernel
theorem dX8_goByTurns_66 : decode cX8_goByTurns 66 = .ok (.istore 4, 2) := by decide +kernel
theorem dX8_goByTurns_68 : decode cX8_goByTurns 68 = .ok (.iload 4, 2) := by decide +kernel
theorem dX8_goByTurns_70 : decode cX8_goByTurns 70 = .ok (.iconst 1, 1) := by decide +kernel
theorem dX8_goByTurns_71 : decode cX8_goByTurns 71 = .ok (.iadd, 1) := by decide +kernel
theorem dX8_goByTurns_72 : decode cX8_goByTurns 72 = .ok (.aload_n 0, 1) := by decide +kernel
theorem dX8_goByTurns_73 : decode cX8_goByTurns 73 = .ok (.getfield 27, 3) := by decide +kernel
theorem dX8_goByTurns_76 : decode cX8_goByTurns 76 = .ok (.if_icmp .ge 26, 3) := by decide +kernel
theorem dX8_goByTurns_79 : decode cX8_goByTurns 79 = .ok (.aload_n 1, 1) := by decide +kernel
theorem dX8_goByTurns_80 : decode cX8_goByTurns 80 = .ok (.iload_n 2, 1) := by decide +kernel
theorem dX8_goByTurns_81 : decode cX8_goByTurns 81 = .ok (.iload_n 3, 1) := by decide +kernel
theorem dX8_goByTurns_82 : decode cX8_goByTurns 82 = .ok (.iconst 2, 1) := by decide +kernel
theorem dX8_goByTurns_83 : decode cX8_goByTurns 83 = .ok (.irem, 1) := by decide +kernel
theorem dX8_goByTurns_84 : decode cX8_goByTurns 84 = .ok (.ifCond .ne 7, 3) := by decide +kernel
theorem dX8_goByTurns_91 : decode cX8_goByTurns 91 = .ok (.iconst 2, 1) := by decide +kernel
theorem dX8_goByTurns_92 : decode cX8_goByTurns 92 = .ok (.iastore, 1) := by decide +kernel
theorem dX8_goByTurns_93 : decode cX8_goByTurns 93 = .ok (.iinc 2 1, 3) := by decide +kernel
theorem dX8_goByTurns_96 : decode cX8_goByTurns 96 = .ok (.iinc 4 1, 3) := by decide +kernel
theorem dX8_goByTurns_99 : decode cX8_goByTurns 99 = .ok (.goto (-31), 3) := by decide +kernel
theorem dX8_goByTurns_87 : decode cX8_goByTurns 87 = .ok (.iconst 1, 1) := by decide +kernel
theorem dX8_goByTurns_88 : decode cX8_goByTurns 88 = .ok (.goto 4, 3) := by decide +kernel
theorem dX8_goByTurns_102 : decode cX8_goByTurns 102 = .ok (.iinc 3 1, 3) := by decide +kernel
theorem dX8_goByTurns_105 : decode cX8_goByTurns 105 = .ok (.goto (-48), 3) := by decide +kernel
theorem dX8_goByTurns_108 : decode cX8_goByTurns 108 = .ok (.iload_n 2, 1) := by decide +kernel
theorem dX8_goByTurns_109 : decode cX8_goByTurns 109 = .ok (.ireturn, 1) := by decide +kernel
theorem dX6_isAlike_0 : decode cX6_isAlike 0 = .ok (.aload_n 2, 1) := by decide +kernel
theorem dX6_isAlike_1 : decode cX6_isAlike 1 = .ok (.aload_n 0, 1) := by decide +kernel
theorem dX6_isAlike_2 : decode cX6_isAlike 2 = .ok (.getfield 22, 3) := by decide +kernel
theorem dX6_isAlike_5 : decode cX6_isAlike 5 = .ok (.iload_n 1, 1) := by decide +kernel
theorem dX6_isAlike_6 : decode cX6_isAlike 6 = .ok (.bipush 6, 2) := by decide +kernel
theorem dX6_isAlike_8 : decode cX6_isAlike 8 = .ok (.imul, 1) := by decide +kernel
theorem dX6_isAlike_9 : decode cX6_isAlike 9 = .ok (.iaload, 1) := by decide +kernel
theorem dX6_isAlike_10 : decode cX6_isAlike 10 = .ok (.iaload, 1) := by decide +kernel
theorem dX6_isAlike_11 : decode cX6_isAlike 11 = .ok (.istore_n 3, 1) := by decide +kernel
theorem dX6_isAlike_12 : decode cX6_isAlike 12 = .ok (.iconst 1, 1) := by decide +kernel
theorem dX6_isAlike_13 : decode cX6_isAlike 13 = .ok (.istore 4, 2) := by decide +kernel
theorem dX6_isAlike_15 : decode cX6_isAlike 15 = .ok (.iload 4, 2) := by decide +kernel
theorem dX6_isAlike_17 : decode cX6_isAlike 17 = .ok (.aload_n 0, 1) := by decide +kernel
theorem dX6_isAlike_18 : decode cX6_isAlike 18 = .ok (.getfield 18, 3) := by decide +kernel
theorem dX6_isAlike_21 : decode cX6_isAlike 21 = .ok (.iload_n 1, 1) := by decide +kernel
theorem dX6_isAlike_22 : decode cX6_isAlike 22 = .ok (.iaload, 1) := by decide +kernel
theorem dX6_isAlike_23 : decode cX6_isAlike 23 = .ok (.if_icmp .ge 29, 3) := by decide +kernel
theorem dX6_isAlike_26 : decode cX6_isAlike 26 = .ok (.aload_n 2, 1) := by decide +kernel
theorem dX6_isAlike_27 : decode cX6_isAlike 27 = .ok (.aload_n 0, 1) := by decide +kernel
theorem dX6_isAlike_28 : decode cX6_isAlike 28 = .ok (.getfield 22, 3) := by decide +kernel
theorem dX6_isAlike_31 : decode cX6_isAlike 31 = .ok (.iload_n 1, 1) := by decide +kernel
theorem dX6_isAlike_32 : decode cX6_isAlike 32 = .ok (.bipush 6, 2) := by decide +kernel
theorem dX6_isAlike_34 : decode cX6_isAlike 34 = .ok (.imul, 1) := by decide +kernel
theorem dX6_isAlike_35 : decode cX6_isAlike 35 = .ok (.iload 4, 2) := by decide +kernel
theorem dX6_isAlike_37 : decode cX6_isAlike 37 = .ok (.iadd, 1) := by decide +kernel
theorem dX6_isAlike_38 : decode cX6_isAlike 38 = .ok (.iaload, 1) := by decide +kernel
theorem dX6_isAlike_39 : decode cX6_isAlike 39 = .ok (.iaload, 1) := by decide +kernel
theorem dX6_isAlike_40 : decode cX6_isAlike 40 = .ok (.iload_n 3, 1) := by decide +kernel
theorem dX6_isAlike_41 : decode cX6_isAlike 41 = .ok (.if_icmp .eq 5, 3) := by decide +kernel
theorem dX6_isAlike_46 : decode cX6_isAlike 46 = .ok (.iinc 4 1, 3) := by decide +kernel
theorem dX6_isAlike_49 : decode cX6_isAlike 49 = .ok (.goto (-34), 3) := by decide +kernel
theorem dX6_isAlike_44 : decode cX6_isAlike 44 = .ok (.iconst 0, 1) := by decide +kernel
theorem dX6_isAlike_45 : decode cX6_isAlike 45 = .ok (.ireturn, 1) := by decide +kernel
theorem dX6_isAlike_52 : decode cX6_isAlike 52 = .ok (.iconst 1, 1) := by decide +kernel
theorem dX6_isAlike_53 : decode cX6_isAlike 53 = .ok (.ireturn, 1) := by decide +kernel
theorem dX2_detour_0 : decode cX2_detour 0 = .ok (.aload_n 0, 1) := by decide +kernel
theorem dX2_detour_1 : decode cX2_detour 1 = .ok (.getfield 9, 3) := by decide +kernel
theorem dX2_detour_4 : decode cX2_detour 4 = .ok (.iload_n 2, 1) := by decide +kernel
theorem dX2_detour_5 : decode cX2_detour 5 = .ok (.iaload, 1) := by decide +kernel
theorem dX2_detour_6 : decode cX2_detour 6 = .ok (.ldc 76, 2) := by decide +kernel
theorem dX2_detour_8 : decode cX2_detour 8 = .ok (.if_icmp .lt 7, 3) := by decide +kernel
theorem dX2_detour_15 : decode cX2_detour 15 = .ok (.aload_n 0, 1) := by decide +kernel
theorem dX2_detour_16 : decode cX2_detour 16 = .ok (.getfield 9, 3) := by decide +kernel
theorem dX2_detour_19 : decode cX2_detour 19 = .ok (.iload_n 2, 1) := by decide +kernel
theorem dX2_detour_20 : decode cX2_detour 20 = .ok (.iaload, 1) := by decide +kernel
theorem dX2_detour_21 : decode cX2_detour 21 = .ok (.aload_n 1, 1) := by decide +kernel
theorem dX2_detour_22 : decode cX2_detour 22 = .ok (.getfield 35, 3) := by decide +kernel
theorem dX2_detour_25 : decode cX2_detour 25 = .ok (.iload_n 2, 1) := by decide +kernel
theorem dX2_detour_26 : decode cX2_detour 26 = .ok (.bipush 16, 2) := by decide +kernel
theorem dX2_detour_28 : decode cX2_detour 28 = .ok (.imul, 1) := by decide +kernel
theorem dX2_detour_29 : decode cX2_detour 29 = .ok (.iload_n 3, 1) := by decide +kernel
theorem dX2_detour_30 : decode cX2_detour 30 = .ok (.iadd, 1) := by decide +kernel
theorem dX2_detour_31 : decode cX2_detour 31 = .ok (.iaload, 1) := by decide +kernel
theorem dX2_detour_32 : decode cX2_detour 32 = .ok (.isub, 1) := by decide +kernel
theorem dX2_detour_33 : decode cX2_detour 33 = .ok (.ireturn, 1) := by decide +kernel
theorem dX2_detour_11 : decode cX2_detour 11 = .ok (.iconst (-1), 1) := by decide +kernel
theorem dX2_detour_12 : decode cX2_detour 12 = .ok (.goto 21, 3) := by decide +kernel
theorem dX4_isThere_0 : decode cX4_isThere 0 = .ok (.aload_n 0, 1) := by decide +kernel
theorem dX4_isThere_1 : decode cX4_isThere 1 = .ok (.getfield 9, 3) := by decide +kernel
theorem dX4_isThere_4 : decode cX4_isThere 4 = .ok (.iconst (-1), 1) := by decide +kernel
theorem dX4_isThere_5 : decode cX4_isThere 5 = .ok (.if_icmp .eq 7, 3) := by decide +kernel
theorem dX4_isThere_12 : decode cX4_isThere 12 = .ok (.iconst 0, 1) := by decide +kernel
theorem dX4_isThere_13 : decode cX4_isThere 13 = .ok (.ireturn, 1) := by decide +kernel
theorem dX4_isThere_8 : decode cX4_isThere 8 = .ok (.iconst 1, 1) := by decide +kernel
theorem dX4_isThere_9 : decode cX4_isThere 9 = .ok (.goto 4, 3) := by decide +kernel
theorem dX4_hasPart_0 : decode cX4_hasPart 0 = .ok (.iload_n 1, 1) := by decide +kernel
theorem dX4_hasPart_1 : decode cX4_hasPart 1 = .ok (.ifCond .lt 29, 3) := by decide +kernel
theorem dX4_hasPart_30 : decode cX4_hasPart 30 = .ok (.iconst 0, 1) := by decide +kernel
theorem dX4_hasPart_31 : decode cX4_hasPart 31 = .ok (.ireturn, 1) := by decide +kernel
theorem dX4_hasPart_4 : decode cX4_hasPart 4 = .ok (.iload_n 2, 1) := by decide +kernel
theorem dX4_hasPart_5 : decode cX4_hasPart 5 = .ok (.ifCond .lt 25, 3) := by decide +kernel
theorem dX4_hasPart_8 : decode cX4_hasPart 8 = .ok (.iload_n 2, 1) := by decide +kernel
theorem dX4_hasPart_9 : decode cX4_hasPart 9 = .ok (.aload_n 0, 1) := by decide +kernel
theorem dX4_hasPart_10 : decode cX4_hasPart 10 = .ok (.getfield 15, 3) := by decide +kernel
theorem dX4_hasPart_13 : decode cX4_hasPart 13 = .ok (.if_icmp .gt 17, 3) := by decide +kernel
theorem dX4_hasPart_16 : decode cX4_hasPart 16 = .ok (.iload_n 1, 1) := by decide +kernel
theorem dX4_hasPart_17 : decode cX4_hasPart 17 = .ok (.aload_n 0, 1) := by decide +kernel
theorem dX4_hasPart_18 : decode cX4_hasPart 18 = .ok (.getfield 15, 3) := by decide +kernel
theorem dX4_hasPart_21 : decode cX4_hasPart 21 = .ok (.iload_n 2, 1) := by decide +kernel
theorem dX4_hasPart_22 : decode cX4_hasPart 22 = .ok (.isub, 1) := by decide +kernel
theorem dX4_hasPart_23 : decode cX4_hasPart 23 = .ok (.if_icmp .gt 7, 3) := by decide +kernel
theorem dX4_hasPart_26 : decode cX4_hasPart 26 = .ok (.iconst 1, 1) := by decide +kernel
theorem dX4_hasPart_27 : decode cX4_hasPart 27 = .ok (.goto 4, 3) := by decide +kernel
theorem dX3_priceOf_0 : decode cX3_priceOf 0 = .ok (.iconst 0, 1) := by decide +kernel
theorem dX3_priceOf_1 : decode cX3_priceOf 1 = .ok (.istore 4, 2) := by decide +kernel
theorem dX3_priceOf_3 : decode cX3_priceOf 3 = .ok (.iconst 0, 1) := by decide +kernel
theorem dX3_priceOf_4 : decode cX3_priceOf 4 = .ok (.istore 5, 2) := by decide +kernel
theorem dX3_priceOf_6 : decode cX3_priceOf 6 = .ok (.iload 5, 2) := by decide +kernel
theorem dX3_priceOf_8 : decode cX3_priceOf 8 = .ok (.iload_n 2, 1) := by decide +kernel
theorem dX3_priceOf_9 : decode cX3_priceOf 9 = .ok (.if_icmp .ge 33, 3) := by decide +kernel
theorem dX3_priceOf_12 : decode cX3_priceOf 12 = .ok (.iload 4, 2) := by decide +kernel
theorem dX3_priceOf_14 : decode cX3_priceOf 14 = .ok (.iload_n 3, 1) := by decide +kernel
theorem dX3_priceOf_15 : decode cX3_priceOf 15 = .ok (.iload 5, 2) := by decide +kernel
theorem dX3_priceOf_17 : decode cX3_priceOf 17 = .ok (.ishr, 1) := by decide +kernel
theorem dX3_priceOf_18 : decode cX3_priceOf 18 = .ok (.iconst 1, 1) := by decide +kernel
theorem dX3_priceOf_19 : decode cX3_priceOf 19 = .ok (.iand, 1) := by decide +kernel
theorem dX3_priceOf_20 : decode cX3_priceOf 20 = .ok (.aload_n 1, 1) := by decide +kernel
theorem dX3_priceOf_21 : decode cX3_priceOf 21 = .ok (.getfield 57, 3) := by decide +kernel
theorem dX3_priceOf_24 : decode cX3_priceOf 24 = .ok (.aload_n 0, 1) := by decide +kernel
theorem dX3_priceOf_25 : decode cX3_priceOf 25 = .ok (.getfield 9, 3) := by decide +kernel
theorem dX3_priceOf_28 : decode cX3_priceOf 28 = .ok (.iload 5, 2) := by decide +kernel
theorem dX3_priceOf_30 : decode cX3_priceOf 30 = .ok (.iaload, 1) := by decide +kernel
theorem dX3_priceOf_31 : decode cX3_priceOf 31 = .ok (.iaload, 1) := by decide +kernel
theorem dX3_priceOf_32 : decode cX3_priceOf 32 = .ok (.imul, 1) := by decide +kernel
theorem dX3_priceOf_33 : decode cX3_priceOf 33 = .ok (.iadd, 1) := by decide +kernel
theorem dX3_priceOf_34 : decode cX3_priceOf 34 = .ok (.istore 4, 2) := by decide +kernel
theorem dX3_priceOf_36 : decode cX3_priceOf 36 = .ok (.iinc 5 1, 3) := by decide +kernel
theorem dX3_priceOf_39 : decode cX3_priceOf 39 = .ok (.goto (-33), 3) := by decide +kernel
theorem dX3_priceOf_42 : decode cX3_priceOf 42 = .ok (.iload 4, 2) := by decide +kernel
theorem dX3_priceOf_44 : decode cX3_priceOf 44 = .ok (.ireturn, 1) := by decide +kernel
theorem dX3_makeBoth_0 : decode cX3_makeBoth 0 = .ok (.iconst 0, 1) := by decide +kernel
theorem dX3_makeBoth_1 : decode cX3_makeBoth 1 = .ok (.istore 4, 2) := by decide +kernel
theorem dX3_makeBoth_3 : decode cX3_makeBoth 3 = .ok (.iload 4, 2) := by decide +kernel
theorem dX3_makeBoth_5 : decode cX3_makeBoth 5 = .ok (.iload_n 2, 1) := by decide +kernel
theorem dX3_makeBoth_6 : decode cX3_makeBoth 6 = .ok (.if_icmp .ge 38, 3) := by decide +kernel
theorem dX3_makeBoth_9 : decode cX3_makeBoth 9 = .ok (.aload_n 1, 1) := by decide +kernel
theorem dX3_makeBoth_10 : decode cX3_makeBoth 10 = .ok (.aload_n 0, 1) := by decide +kernel
theorem dX3_makeBoth_11 : decode cX3_makeBoth 11 = .ok (.getfield 9, 3) := by decide +kernel
theorem dX3_makeBoth_14 : decode cX3_makeBoth 14 = .ok (.iload 4, 2) := by decide +kernel
theorem dX3_makeBoth_16 : decode cX3_makeBoth 16 = .ok (.iaload, 1) := by decide +kernel
theorem dX3_makeBoth_17 : decode cX3_makeBoth 17 = .ok (.iload_n 3, 1) := by decide +kernel
theorem dX3_makeBoth_18 : decode cX3_makeBoth 18 = .ok (.iload 4, 2) := by decide +kernel
theorem dX3_makeBoth_20 : decode cX3_makeBoth 20 = .ok (.ishr, 1) := by decide +kernel
theorem dX3_makeBoth_21 : decode cX3_makeBoth 21 = .ok (.iconst 1, 1) := by decide +kernel
theorem dX3_makeBoth_22 : decode cX3_makeBoth 22 = .ok (.iand, 1) := by decide +kernel
theorem dX3_makeBoth_23 : decode cX3_makeBoth 23 = .ok (.ifCond .ne 13, 3) := by decide +kernel
theorem dX3_makeBoth_36 : decode cX3_makeBoth 36 = .ok (.iconst 3, 1) := by decide +kernel
theorem dX3_makeBoth_37 : decode cX3_makeBoth 37 = .ok (.iastore, 1) := by decide +kernel
theorem dX3_makeBoth_38 : decode cX3_makeBoth 38 = .ok (.iinc 4 1, 3) := by decide +kernel
theorem dX3_makeBoth_41 : decode cX3_makeBoth 41 = .ok (.goto (-38), 3) := by decide +kernel
theorem dX3_makeBoth_26 : decode cX3_makeBoth 26 = .ok (.aload_n 0, 1) := by decide +kernel
theorem dX3_makeBoth_27 : decode cX3_makeBoth 27 = .ok (.getfield 15, 3) := by decide +kernel
theorem dX3_makeBoth_30 : decode cX3_makeBoth 30 = .ok (.iload 4, 2) := by decide +kernel
theorem dX3_makeBoth_32 : decode cX3_makeBoth 32 = .ok (.iaload, 1) := by decide +kernel
theorem dX3_makeBoth_33 : decode cX3_makeBoth 33 = .ok (.goto 4, 3) := by decide +kernel
theorem dX3_makeBoth_44 : decode cX3_makeBoth 44 = .ok (.return_, 1) := by decide +kernel
theorem dX0_listOpen_0 : decode cX0_listOpen 0 = .ok (.iconst 0, 1) := by decide +kernel
theorem dX0_listOpen_1 : decode cX0_listOpen 1 = .ok (.istore_n 3, 1) := by decide +kernel
theorem dX0_listOpen_2 : decode cX0_listOpen 2 = .ok (.iconst 0, 1) := by decide +kernel
theorem dX0_listOpen_3 : decode cX0_listOpen 3 = .ok (.istore 4, 2) := by decide +kernel
theorem dX0_listOpen_5 : decode cX0_listOpen 5 = .ok (.iload 4, 2) := by decide +kernel
theorem dX0_listOpen_7 : decode cX0_listOpen 7 = .ok (.aload_n 1, 1) := by decide +kernel
theorem dX0_listOpen_8 : decode cX0_listOpen 8 = .ok (.getfield 35, 3) := by decide +kernel
theorem dX0_listOpen_11 : decode cX0_listOpen 11 = .ok (.if_icmp .ge 33, 3) := by decide +kernel
theorem dX0_listOpen_14 : decode cX0_listOpen 14 = .ok (.iload_n 3, 1) := by decide +kernel
theorem dX0_listOpen_15 : decode cX0_listOpen 15 = .ok (.bipush 10, 2) := by decide +kernel
theorem dX0_listOpen_17 : decode cX0_listOpen 17 = .ok (.if_icmp .ge 27, 3) := by decide +kernel
theorem dX0_listOpen_20 : decode cX0_listOpen 20 = .ok (.aload_n 2, 1) := by decide +kernel
theorem dX0_listOpen_21 : decode cX0_listOpen 21 = .ok (.iload 4, 2) := by decide +kernel
theorem dX0_listOpen_23 : decode cX0_listOpen 23 = .ok (.iaload, 1) := by decide +kernel
theorem dX0_listOpen_24 : decode cX0_listOpen 24 = .ok (.ifCond .ne 14, 3) := by decide +kernel
theorem dX0_listOpen_38 : decode cX0_listOpen 38 = .ok (.iinc 4 1, 3) := by decide +kernel
theorem dX0_listOpen_41 : decode cX0_listOpen 41 = .ok (.goto (-36), 3) := by decide +kernel
theorem dX0_listOpen_27 : decode cX0_listOpen 27 = .ok (.aload_n 0, 1) := by decide +kernel
theorem dX0_listOpen_28 : decode cX0_listOpen 28 = .ok (.getfield 9, 3) := by decide +kernel
theorem dX0_listOpen_31 : decode cX0_listOpen 31 = .ok (.iload_n 3, 1) := by decide +kernel
theorem dX0_listOpen_32 : decode cX0_listOpen 32 = .ok (.iload 4, 2) := by decide +kernel
theorem dX0_listOpen_34 : decode cX0_listOpen 34 = .ok (.iastore, 1) := by decide +kernel
theorem dX0_listOpen_35 : decode cX0_listOpen 35 = .ok (.iinc 3 1, 3) := by decide +kernel
theorem dX0_listOpen_44 : decode cX0_listOpen 44 = .ok (.iload_n 3, 1) := by decide +kernel
theorem dX0_listOpen_45 : decode cX0_listOpen 45 = .ok (.ireturn, 1) := by decide +kernel
theorem dX0_giveTrial_0 : decode cX0_giveTrial 0 = .ok (.iconst 0, 1) := by decide +kernel
theorem dX0_giveTrial_1 : decode cX0_giveTrial 1 = .ok (.istore 4, 2) := by decide +kernel
theorem dX0_giveTrial_3 : decode cX0_giveTrial 3 = .ok (.iload 4, 2) := by decide +kernel
theorem dX0_giveTrial_5 : decode cX0_giveTrial 5 = .ok (.iload_n 2, 1) := by decide +kernel
theorem dX0_giveTrial_6 : decode cX0_giveTrial 6 = .ok (.if_icmp .ge 36, 3) := by decide +kernel
theorem dX0_giveTrial_9 : decode cX0_giveTrial 9 = .ok (.aload_n 1, 1) := by decide +kernel
theorem dX0_giveTrial_10 : decode cX0_giveTrial 10 = .ok (.aload_n 0, 1) := by decide +kernel
theorem dX0_giveTrial_11 : decode cX0_giveTrial 11 = .ok (.getfield 9, 3) := by decide +kernel
theorem dX0_giveTrial_14 : decode cX0_giveTrial 14 = .ok (.iload 4, 2) := by decide +kernel
theorem dX0_giveTrial_16 : decode cX0_giveTrial 16 = .ok (.iaload, 1) := by decide +kernel
theorem dX0_giveTrial_17 : decode cX0_giveTrial 17 = .ok (.iload_n 3, 1) := by decide +kernel
theorem dX0_giveTrial_18 : decode cX0_giveTrial 18 = .ok (.iload_n 2, 1) := by decide +kernel
theorem dX0_giveTrial_19 : decode cX0_giveTrial 19 = .ok (.iconst 1, 1) := by decide +kernel
theorem dX0_giveTrial_20 : decode cX0_giveTrial 20 = .ok (.isub, 1) := by decide +kernel
theorem dX0_giveTrial_21 : decode cX0_giveTrial 21 = .ok (.iload 4, 2) := by decide +kernel
theorem dX0_giveTrial_23 : decode cX0_giveTrial 23 = .ok (.isub, 1) := by decide +kernel
theorem dX0_giveTrial_24 : decode cX0_giveTrial 24 = .ok (.ishr, 1) := by decide +kernel
theorem dX0_giveTrial_25 : decode cX0_giveTrial 25 = .ok (.iconst 1, 1) := by decide +kernel
theorem dX0_giveTrial_26 : decode cX0_giveTrial 26 = .ok (.iand, 1) := by decide +kernel
theorem dX0_giveTrial_27 : decode cX0_giveTrial 27 = .ok (.ifCond .ne 7, 3) := by decide +kernel
theorem dX0_giveTrial_34 : decode cX0_giveTrial 34 = .ok (.iconst 2, 1) := by decide +kernel
theorem dX0_giveTrial_35 : decode cX0_giveTrial 35 = .ok (.iastore, 1) := by decide +kernel
theorem dX0_giveTrial_36 : decode cX0_giveTrial 36 = .ok (.iinc 4 1, 3) := by decide +kernel
theorem dX0_giveTrial_39 : decode cX0_giveTrial 39 = .ok (.goto (-36), 3) := by decide +kernel
theorem dX0_giveTrial_30 : decode cX0_giveTrial 30 = .ok (.iconst 1, 1) := by decide +kernel
theorem dX0_giveTrial_31 : decode cX0_giveTrial 31 = .ok (.goto 4, 3) := by decide +kernel
theorem dX0_giveTrial_42 : decode cX0_giveTrial 42 = .ok (.return_, 1) := by decide +kernel
theorem dX10_turn_0 : decode cX10_turn 0 = .ok (.iconst 0, 1) := by decide +kernel
theorem dX10_turn_1 : decode cX10_turn 1 = .ok (.istore 4, 2) := by decide +kernel
theorem dX10_turn_3 : decode cX10_turn 3 = .ok (.iload 4, 2) := by decide +kernel
theorem dX10_turn_5 : decode cX10_turn 5 = .ok (.aload_n 1, 1) := by decide +kernel
theorem dX10_turn_6 : decode cX10_turn 6 = .ok (.getfield 15, 3) := by decide +kernel
theorem dX10_turn_9 : decode cX10_turn 9 = .ok (.if_icmp .ge 28, 3) := by decide +kernel
theorem dX10_turn_12 : decode cX10_turn 12 = .ok (.iload_n 3, 1) := by decide +kernel
theorem dX10_turn_13 : decode cX10_turn 13 = .ok (.iload 4, 2) := by decide +kernel
theorem dX10_turn_15 : decode cX10_turn 15 = .ok (.ishr, 1) := by decide +kernel
theorem dX10_turn_16 : decode cX10_turn 16 = .ok (.iconst 1, 1) := by decide +kernel
theorem dX10_turn_17 : decode cX10_turn 17 = .ok (.iand, 1) := by decide +kernel
theorem dX10_turn_18 : decode cX10_turn 18 = .ok (.ifCond .eq 13, 3) := by decide +kernel
theorem dX10_turn_31 : decode cX10_turn 31 = .ok (.iinc 4 1, 3) := by decide +kernel
theorem dX10_turn_34 : decode cX10_turn 34 = .ok (.goto (-31), 3) := by decide +kernel
theorem dX10_turn_21 : decode cX10_turn 21 = .ok (.aload_n 2, 1) := by decide +kernel
theorem dX10_turn_22 : decode cX10_turn 22 = .ok (.iload 4, 2) := by decide +kernel
theorem dX10_turn_24 : decode cX10_turn 24 = .ok (.iconst 3, 1) := by decide +kernel
theorem dX10_turn_25 : decode cX10_turn 25 = .ok (.aload_n 2, 1) := by decide +kernel
theorem dX10_turn_26 : decode cX10_turn 26 = .ok (.iload 4, 2) := by decide +kernel
theorem dX10_turn_28 : decode cX10_turn 28 = .ok (.iaload, 1) := by decide +kernel
theorem dX10_turn_29 : decode cX10_turn 29 = .ok (.isub, 1) := by decide +kernel
theorem dX10_turn_30 : decode cX10_turn 30 = .ok (.iastore, 1) := by decide +kernel
theorem dX10_turn_37 : decode cX10_turn 37 = .ok (.return_, 1) := by decide +kernel
theorem dX8_addAlley_0 : decode cX8_addAlley 0 = .ok (.aload_n 0, 1) := by decide +kernel
theorem dX8_addAlley_1 : decode cX8_addAlley 1 = .ok (.getfield 30, 3) := by decide +kernel
theorem dX8_addAlley_4 : decode cX8_addAlley 4 = .ok (.aload_n 0, 1) := by decide +kernel
theorem dX8_addAlley_5 : decode cX8_addAlley 5 = .ok (.getfield 18, 3) := by decide +kernel
theorem dX8_addAlley_8 : decode cX8_addAlley 8 = .ok (.iload_n 1, 1) := by decide +kernel
theorem dX8_addAlley_9 : decode cX8_addAlley 9 = .ok (.iastore, 1) := by decide +kernel
theorem dX8_addAlley_10 : decode cX8_addAlley 10 = .ok (.aload_n 0, 1) := by decide +kernel
theorem dX8_addAlley_11 : decode cX8_addAlley 11 = .ok (.getfield 34, 3) := by decide +kernel
theorem dX8_addAlley_14 : decode cX8_addAlley 14 = .ok (.aload_n 0, 1) := by decide +kernel
theorem dX8_addAlley_15 : decode cX8_addAlley 15 = .ok (.getfield 18, 3) := by decide +kernel
theorem dX8_addAlley_18 : decode cX8_addAlley 18 = .ok (.iload_n 2, 1) := by decide +kernel
theorem dX8_addAlley_19 : decode cX8_addAlley 19 = .ok (.iastore, 1) := by decide +kernel
theorem dX8_addAlley_20 : decode cX8_addAlley 20 = .ok (.aload_n 0, 1) := by decide +kernel
theorem dX8_addAlley_21 : decode cX8_addAlley 21 = .ok (.getfield 37, 3) := by decide +kernel
theorem dX8_addAlley_24 : decode cX8_addAlley 24 = .ok (.aload_n 0, 1) := by decide +kernel
theorem dX8_addAlley_25 : decode cX8_addAlley 25 = .ok (.getfield 18, 3) := by decide +kernel
theorem dX8_addAlley_28 : decode cX8_addAlley 28 = .ok (.iload_n 3, 1) := by decide +kernel
theorem dX8_addAlley_29 : decode cX8_addAlley 29 = .ok (.iastore, 1) := by decide +kernel
theorem dX8_addAlley_30 : decode cX8_addAlley 30 = .ok (.aload_n 0, 1) := by decide +kernel
theorem dX8_addAlley_31 : decode cX8_addAlley 31 = .ok (.getfield 40, 3) := by decide +kernel
theorem dX8_addAlley_34 : decode cX8_addAlley 34 = .ok (.aload_n 0, 1) := by decide +kernel
theorem dX8_addAlley_35 : decode cX8_addAlley 35 = .ok (.getfield 18, 3) := by decide +kernel
theorem dX8_addAlley_38 : decode cX8_addAlley 38 = .ok (.iload 4, 2) := by decide +kernel
theorem dX8_addAlley_40 : decode cX8_addAlley 40 = .ok (.iastore, 1) := by decide +kernel
theorem dX8_addAlley_41 : decode cX8_addAlley 41 = .ok (.aload_n 0, 1) := by decide +kernel
theorem dX8_addAlley_42 : decode cX8_addAlley 42 = .ok (.dup, 1) := by decide +kernel
theorem dX8_addAlley_43 : decode cX8_addAlley 43 = .ok (.getfield 18, 3) := by decide +kernel
theorem dX8_addAlley_46 : decode cX8_addAlley 46 = .ok (.iconst 1, 1) := by decide +kernel
theorem dX8_addAlley_47 : decode cX8_addAlley 47 = .ok (.iadd, 1) := by decide +kernel
theorem dX8_addAlley_48 : decode cX8_addAlley 48 = .ok (.putfield 18, 3) := by decide +kernel
theorem dX8_addAlley_51 : decode cX8_addAlley 51 = .ok (.return_, 1) := by decide +kernel
theorem dX1_add_0 : decode cX1_add 0 = .ok (.aload_n 0, 1) := by decide +kernel
theorem dX1_add_1 : decode cX1_add 1 = .ok (.getfield 15, 3) := by decide +kernel
theorem dX1_add_4 : decode cX1_add 4 = .ok (.aload_n 0, 1) := by decide +kernel
theorem dX1_add_5 : decode cX1_add 5 = .ok (.getfield 9, 3) := by decide +kernel
theorem dX1_add_8 : decode cX1_add 8 = .ok (.iload_n 1, 1) := by decide +kernel
theorem dX1_add_9 : decode cX1_add 9 = .ok (.iastore, 1) := by decide +kernel
theorem dX1_add_10 : decode cX1_add 10 = .ok (.aload_n 0, 1) := by decide +kernel
theorem dX1_add_11 : decode cX1_add 11 = .ok (.getfield 19, 3) := by decide +kernel
theorem dX1_add_14 : decode cX1_add 14 = .ok (.aload_n 0, 1) := by decide +kernel
theorem dX1_add_15 : decode cX1_add 15 = .ok (.getfield 9, 3) := by decide +kernel
theorem dX1_add_18 : decode cX1_add 18 = .ok (.iload_n 2, 1) := by decide +kernel
theorem dX1_add_19 : decode cX1_add 19 = .ok (.iastore, 1) := by decide +kernel
theorem dX1_add_20 : decode cX1_add 20 = .ok (.aload_n 0, 1) := by decide +kernel
theorem dX1_add_21 : decode cX1_add 21 = .ok (.getfield 22, 3) := by decide +kernel
theorem dX1_add_24 : decode cX1_add 24 = .ok (.aload_n 0, 1) := by decide +kernel
theorem dX1_add_25 : decode cX1_add 25 = .ok (.getfield 9, 3) := by decide +kernel
theorem dX1_add_28 : decode cX1_add 28 = .ok (.iload_n 3, 1) := by decide +kernel
theorem dX1_add_29 : decode cX1_add 29 = .ok (.iastore, 1) := by decide +kernel
theorem dX1_add_30 : decode cX1_add 30 = .ok (.aload_n 0, 1) := by decide +kernel
theorem dX1_add_31 : decode cX1_add 31 = .ok (.dup, 1) := by decide +kernel
theorem dX1_add_32 : decode cX1_add 32 = .ok (.getfield 9, 3) := by decide +kernel
theorem dX1_add_35 : decode cX1_add 35 = .ok (.iconst 1, 1) := by decide +kernel
theorem dX1_add_36 : decode cX1_add 36 = .ok (.iadd, 1) := by decide +kernel
theorem dX1_add_37 : decode cX1_add 37 = .ok (.putfield 9, 3) := by decide +kernel
theorem dX1_add_40 : decode cX1_add 40 = .ok (.return_, 1) := by decide +kernel
theorem bW_at {w : Cond} (i : Nat) (h : lw_tbl[i]? = some w) (hg : goodWord w = true) : w ∈ bW := List.mem_filter.mpr ⟨List.mem_of_getElem? h, hg⟩
theorem mw_0 : Cond.constant RX2 76 1000000 ∈ bW := bW_at 472 (by decide +kernel) (by decide +kernel)
theorem mw_1 : Cond.fieldLink RX2 73 "OneWays$Town" "corners" "I" ∈ bW := bW_at 232 (by decide +kernel) (by decide +kernel)
theorem mw_2 : Cond.fieldLink RX2 9 "OneWays$Paths" "toGo" "[I" ∈ bW := bW_at 371 (by decide +kernel) (by decide +kernel)
theorem mw_3 : Cond.fieldLink RX8 18 "OneWays$Town" "alleys" "I" ∈ bW := bW_at 235 (by decide +kernel) (by decide +kernel)
theorem mw_4 : Cond.fieldLink RX8 40 "OneWays$Town" "price" "[I" ∈ bW := bW_at 259 (by decide +kernel) (by decide +kernel)
theorem mw_5 : Cond.fieldLink RX8 30 "OneWays$Town" "from" "[I" ∈ bW := bW_at 250 (by decide +kernel) (by decide +kernel)
theorem mw_6 : Cond.fieldLink RX8 34 "OneWays$Town" "to" "[I" ∈ bW := bW_at 253 (by decide +kernel) (by decide +kernel)
theorem mw_7 : Cond.fieldLink RX8 43 "OneWays$Town" "told" "I" ∈ bW := bW_at 262 (by decide +kernel) (by decide +kernel)
theorem mw_8 : Cond.fieldLink RX8 15 "OneWays$Town" "corners" "I" ∈ bW := bW_at 231 (by decide +kernel) (by decide +kernel)
theorem mw_9 : Cond.fieldLink RX8 24 "OneWays$Town" "gridWide" "I" ∈ bW := bW_at 247 (by decide +kernel) (by decide +kernel)
theorem mw_10 : Cond.fieldLink RX8 27 "OneWays$Town" "gridHigh" "I" ∈ bW := bW_at 249 (by decide +kernel) (by decide +kernel)
theorem mw_11 : Cond.fieldLink RX8 63 "OneWays$Town" "firstEnd" "[I" ∈ bW := bW_at 276 (by decide +kernel) (by decide +kernel)
theorem mw_12 : Cond.fieldLink RX8 66 "OneWays$Town" "ends" "[I" ∈ bW := bW_at 278 (by decide +kernel) (by decide +kernel)
theorem mw_13 : Cond.fieldLink RX6 22 "OneWays$Streets" "members" "[I" ∈ bW := bW_at 217 (by decide +kernel) (by decide +kernel)
theorem mw_14 : Cond.fieldLink RX6 18 "OneWays$Streets" "sizes" "[I" ∈ bW := bW_at 214 (by decide +kernel) (by decide +kernel)
theorem mw_15 : Cond.fieldLink RX2 35 "OneWays$Town" "apart" "[I" ∈ bW := bW_at 281 (by decide +kernel) (by decide +kernel)
theorem mw_16 : Cond.fieldLink RX4 9 "OneWays$Slot" "width" "I" ∈ bW := bW_at 442 (by decide +kernel) (by decide +kernel)
theorem mw_17 : Cond.fieldLink RX4 15 "OneWays$Slot" "size" "I" ∈ bW := bW_at 444 (by decide +kernel) (by decide +kernel)
theorem mw_18 : Cond.fieldLink RX3 57 "OneWays$Town" "price" "[I" ∈ bW := bW_at 260 (by decide +kernel) (by decide +kernel)
theorem mw_19 : Cond.fieldLink RX3 9 "OneWays$Purse" "payable" "[I" ∈ bW := bW_at 422 (by decide +kernel) (by decide +kernel)
theorem mw_20 : Cond.fieldLink RX3 15 "OneWays$Purse" "ownWay" "[I" ∈ bW := bW_at 423 (by decide +kernel) (by decide +kernel)
theorem mw_21 : Cond.fieldLink RX0 35 "OneWays$Town" "alleys" "I" ∈ bW := bW_at 238 (by decide +kernel) (by decide +kernel)
theorem mw_22 : Cond.fieldLink RX0 9 "OneWays$Endings" "openOnes" "[I" ∈ bW := bW_at 399 (by decide +kernel) (by decide +kernel)
theorem mw_23 : Cond.fieldLink RX10 15 "OneWays$Town" "alleys" "I" ∈ bW := bW_at 237 (by decide +kernel) (by decide +kernel)
theorem mw_24 : Cond.fieldLink RX8 37 "OneWays$Town" "minutes" "[I" ∈ bW := bW_at 256 (by decide +kernel) (by decide +kernel)
theorem mw_25 : Cond.fieldLink RX1 15 "OneWays$Journeys" "from" "[I" ∈ bW := bW_at 184 (by decide +kernel) (by decide +kernel)
theorem mw_26 : Cond.fieldLink RX1 9 "OneWays$Journeys" "size" "I" ∈ bW := bW_at 179 (by decide +kernel) (by decide +kernel)
theorem mw_27 : Cond.fieldLink RX1 19 "OneWays$Journeys" "to" "[I" ∈ bW := bW_at 187 (by decide +kernel) (by decide +kernel)
theorem mw_28 : Cond.fieldLink RX1 22 "OneWays$Journeys" "carts" "[I" ∈ bW := bW_at 190 (by decide +kernel) (by decide +kernel)
