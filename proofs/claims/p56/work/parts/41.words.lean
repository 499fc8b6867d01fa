theorem dX2_nearestOf_0 : decode cX2_nearestOf 0 = .ok (.iconst 0, 1) := by decide +kernel
theorem dX2_nearestOf_1 : decode cX2_nearestOf 1 = .ok (.istore_n 3, 1) := by decide +kernel
theorem dX2_nearestOf_2 : decode cX2_nearestOf 2 = .ok (.ldc 76, 2) := by decide +kernel
theorem dX2_nearestOf_4 : decode cX2_nearestOf 4 = .ok (.istore 4, 2) := by decide +kernel
theorem dX2_nearestOf_6 : decode cX2_nearestOf 6 = .ok (.iconst 0, 1) := by decide +kernel
theorem dX2_nearestOf_7 : decode cX2_nearestOf 7 = .ok (.istore 5, 2) := by decide +kernel
theorem dX2_nearestOf_9 : decode cX2_nearestOf 9 = .ok (.iload 5, 2) := by decide +kernel
theorem dX2_nearestOf_11 : decode cX2_nearestOf 11 = .ok (.aload_n 1, 1) := by decide +kernel
theorem dX2_nearestOf_12 : decode cX2_nearestOf 12 = .ok (.getfield 73, 3) := by decide +kernel
theorem dX2_nearestOf_15 : decode cX2_nearestOf 15 = .ok (.if_icmp .ge 42, 3) := by decide +kernel
theorem dX2_nearestOf_18 : decode cX2_nearestOf 18 = .ok (.iload_n 2, 1) := by decide +kernel
theorem dX2_nearestOf_19 : decode cX2_nearestOf 19 = .ok (.iload 5, 2) := by decide +kernel
theorem dX2_nearestOf_21 : decode cX2_nearestOf 21 = .ok (.ishr, 1) := by decide +kernel
theorem dX2_nearestOf_22 : decode cX2_nearestOf 22 = .ok (.iconst 1, 1) := by decide +kernel
theorem dX2_nearestOf_23 : decode cX2_nearestOf 23 = .ok (.iand, 1) := by decide +kernel
theorem dX2_nearestOf_24 : decode cX2_nearestOf 24 = .ok (.ifCond .eq 27, 3) := by decide +kernel
theorem dX2_nearestOf_51 : decode cX2_nearestOf 51 = .ok (.iinc 5 1, 3) := by decide +kernel
theorem dX2_nearestOf_54 : decode cX2_nearestOf 54 = .ok (.goto (-45), 3) := by decide +kernel
theorem dX2_nearestOf_27 : decode cX2_nearestOf 27 = .ok (.aload_n 0, 1) := by decide +kernel
theorem dX2_nearestOf_28 : decode cX2_nearestOf 28 = .ok (.getfield 9, 3) := by decide +kernel
theorem dX2_nearestOf_31 : decode cX2_nearestOf 31 = .ok (.iload 5, 2) := by decide +kernel
theorem dX2_nearestOf_33 : decode cX2_nearestOf 33 = .ok (.iaload, 1) := by decide +kernel
theorem dX2_nearestOf_34 : decode cX2_nearestOf 34 = .ok (.iload 4, 2) := by decide +kernel
theorem dX2_nearestOf_36 : decode cX2_nearestOf 36 = .ok (.if_icmp .ge 15, 3) := by decide +kernel
theorem dX2_nearestOf_39 : decode cX2_nearestOf 39 = .ok (.aload_n 0, 1) := by decide +kernel
theorem dX2_nearestOf_40 : decode cX2_nearestOf 40 = .ok (.getfield 9, 3) := by decide +kernel
theorem dX2_nearestOf_43 : decode cX2_nearestOf 43 = .ok (.iload 5, 2) := by decide +kernel
theorem dX2_nearestOf_45 : decode cX2_nearestOf 45 = .ok (.iaload, 1) := by decide +kernel
theorem dX2_nearestOf_46 : decode cX2_nearestOf 46 = .ok (.istore 4, 2) := by decide +kernel
theorem dX2_nearestOf_48 : decode cX2_nearestOf 48 = .ok (.iload 5, 2) := by decide +kernel
theorem dX2_nearestOf_50 : decode cX2_nearestOf 50 = .ok (.istore_n 3, 1) := by decide +kernel
theorem dX2_nearestOf_57 : decode cX2_nearestOf 57 = .ok (.iload_n 3, 1) := by decide +kernel
theorem dX2_nearestOf_58 : decode cX2_nearestOf 58 = .ok (.ireturn, 1) := by decide +kernel
theorem dX2_spread_0 : decode cX2_spread 0 = .ok (.iconst 1, 1) := by decide +kernel
theorem dX2_spread_1 : decode cX2_spread 1 = .ok (.iload_n 3, 1) := by decide +kernel
theorem dX2_spread_2 : decode cX2_spread 2 = .ok (.ishl, 1) := by decide +kernel
theorem dX2_spread_3 : decode cX2_spread 3 = .ok (.istore 4, 2) := by decide +kernel
theorem dX2_spread_5 : decode cX2_spread 5 = .ok (.iconst 0, 1) := by decide +kernel
theorem dX2_spread_6 : decode cX2_spread 6 = .ok (.istore 5, 2) := by decide +kernel
theorem dX2_spread_8 : decode cX2_spread 8 = .ok (.iload 5, 2) := by decide +kernel
theorem dX2_spread_10 : decode cX2_spread 10 = .ok (.aload_n 1, 1) := by decide +kernel
theorem dX2_spread_11 : decode cX2_spread 11 = .ok (.getfield 73, 3) := by decide +kernel
theorem dX2_spread_14 : decode cX2_spread 14 = .ok (.if_icmp .ge 60, 3) := by decide +kernel
theorem dX2_spread_17 : decode cX2_spread 17 = .ok (.iload 4, 2) := by decide +kernel
theorem dX2_spread_19 : decode cX2_spread 19 = .ok (.istore 6, 2) := by decide +kernel
theorem dX2_spread_21 : decode cX2_spread 21 = .ok (.iconst 0, 1) := by decide +kernel
theorem dX2_spread_22 : decode cX2_spread 22 = .ok (.istore 7, 2) := by decide +kernel
theorem dX2_spread_24 : decode cX2_spread 24 = .ok (.iload 7, 2) := by decide +kernel
theorem dX2_spread_26 : decode cX2_spread 26 = .ok (.aload_n 1, 1) := by decide +kernel
theorem dX2_spread_27 : decode cX2_spread 27 = .ok (.getfield 73, 3) := by decide +kernel
theorem dX2_spread_30 : decode cX2_spread 30 = .ok (.if_icmp .ge 28, 3) := by decide +kernel
theorem dX2_spread_33 : decode cX2_spread 33 = .ok (.iload 4, 2) := by decide +kernel
theorem dX2_spread_35 : decode cX2_spread 35 = .ok (.iload 7, 2) := by decide +kernel
theorem dX2_spread_37 : decode cX2_spread 37 = .ok (.ishr, 1) := by decide +kernel
theorem dX2_spread_38 : decode cX2_spread 38 = .ok (.iconst 1, 1) := by decide +kernel
theorem dX2_spread_39 : decode cX2_spread 39 = .ok (.iand, 1) := by decide +kernel
theorem dX2_spread_40 : decode cX2_spread 40 = .ok (.ifCond .eq 12, 3) := by decide +kernel
theorem dX2_spread_52 : decode cX2_spread 52 = .ok (.iinc 7 1, 3) := by decide +kernel
theorem dX2_spread_55 : decode cX2_spread 55 = .ok (.goto (-31), 3) := by decide +kernel
theorem dX2_spread_43 : decode cX2_spread 43 = .ok (.iload 4, 2) := by decide +kernel
theorem dX2_spread_45 : decode cX2_spread 45 = .ok (.aload_n 2, 1) := by decide +kernel
theorem dX2_spread_46 : decode cX2_spread 46 = .ok (.iload 7, 2) := by decide +kernel
theorem dX2_spread_48 : decode cX2_spread 48 = .ok (.iaload, 1) := by decide +kernel
theorem dX2_spread_49 : decode cX2_spread 49 = .ok (.ior, 1) := by decide +kernel
theorem dX2_spread_50 : decode cX2_spread 50 = .ok (.istore 4, 2) := by decide +kernel
theorem dX2_spread_58 : decode cX2_spread 58 = .ok (.iload 4, 2) := by decide +kernel
theorem dX2_spread_60 : decode cX2_spread 60 = .ok (.iload 6, 2) := by decide +kernel
theorem dX2_spread_62 : decode cX2_spread 62 = .ok (.if_icmp .ne 6, 3) := by decide +kernel
theorem dX2_spread_68 : decode cX2_spread 68 = .ok (.iinc 5 1, 3) := by decide +kernel
theorem dX2_spread_71 : decode cX2_spread 71 = .ok (.goto (-63), 3) := by decide +kernel
theorem dX2_spread_65 : decode cX2_spread 65 = .ok (.iload 4, 2) := by decide +kernel
theorem dX2_spread_67 : decode cX2_spread 67 = .ok (.ireturn, 1) := by decide +kernel
theorem dX2_spread_74 : decode cX2_spread 74 = .ok (.iload 4, 2) := by decide +kernel
theorem dX2_spread_76 : decode cX2_spread 76 = .ok (.ireturn, 1) := by decide +kernel
theorem dX8_openAlleys_0 : decode cX8_openAlleys 0 = .ok (.iconst 0, 1) := by decide +kernel
theorem dX8_openAlleys_1 : decode cX8_openAlleys 1 = .ok (.istore_n 2, 1) := by decide +kernel
theorem dX8_openAlleys_2 : decode cX8_openAlleys 2 = .ok (.iconst 0, 1) := by decide +kernel
theorem dX8_openAlleys_3 : decode cX8_openAlleys 3 = .ok (.istore_n 3, 1) := by decide +kernel
theorem dX8_openAlleys_4 : decode cX8_openAlleys 4 = .ok (.iload_n 3, 1) := by decide +kernel
theorem dX8_openAlleys_5 : decode cX8_openAlleys 5 = .ok (.aload_n 0, 1) := by decide +kernel
theorem dX8_openAlleys_6 : decode cX8_openAlleys 6 = .ok (.getfield 18, 3) := by decide +kernel
theorem dX8_openAlleys_9 : decode cX8_openAlleys 9 = .ok (.if_icmp .ge 21, 3) := by decide +kernel
theorem dX8_openAlleys_12 : decode cX8_openAlleys 12 = .ok (.aload_n 1, 1) := by decide +kernel
theorem dX8_openAlleys_13 : decode cX8_openAlleys 13 = .ok (.iload_n 3, 1) := by decide +kernel
theorem dX8_openAlleys_14 : decode cX8_openAlleys 14 = .ok (.iaload, 1) := by decide +kernel
theorem dX8_openAlleys_15 : decode cX8_openAlleys 15 = .ok (.ifCond .ne 9, 3) := by decide +kernel
theorem dX8_openAlleys_24 : decode cX8_openAlleys 24 = .ok (.iinc 3 1, 3) := by decide +kernel
theorem dX8_openAlleys_27 : decode cX8_openAlleys 27 = .ok (.goto (-23), 3) := by decide +kernel
theorem dX8_openAlleys_18 : decode cX8_openAlleys 18 = .ok (.iload_n 2, 1) := by decide +kernel
theorem dX8_openAlleys_19 : decode cX8_openAlleys 19 = .ok (.iconst 1, 1) := by decide +kernel
theorem dX8_openAlleys_20 : decode cX8_openAlleys 20 = .ok (.iload_n 3, 1) := by decide +kernel
theorem dX8_openAlleys_21 : decode cX8_openAlleys 21 = .ok (.ishl, 1) := by decide +kernel
theorem dX8_openAlleys_22 : decode cX8_openAlleys 22 = .ok (.ior, 1) := by decide +kernel
theorem dX8_openAlleys_23 : decode cX8_openAlleys 23 = .ok (.istore_n 2, 1) := by decide +kernel
theorem dX8_openAlleys_30 : decode cX8_openAlleys 30 = .ok (.iload_n 2, 1) := by decide +kernel
theorem dX8_openAlleys_31 : decode cX8_openAlleys 31 = .ok (.ireturn, 1) := by decide +kernel
theorem dX8_pricesOfBoth_0 : decode cX8_pricesOfBoth 0 = .ok (.iconst 0, 1) := by decide +kernel
theorem dX8_pricesOfBoth_1 : decode cX8_pricesOfBoth 1 = .ok (.istore_n 2, 1) := by decide +kernel
theorem dX8_pricesOfBoth_2 : decode cX8_pricesOfBoth 2 = .ok (.iconst 0, 1) := by decide +kernel
theorem dX8_pricesOfBoth_3 : decode cX8_pricesOfBoth 3 = .ok (.istore_n 3, 1) := by decide +kernel
theorem dX8_pricesOfBoth_4 : decode cX8_pricesOfBoth 4 = .ok (.iload_n 3, 1) := by decide +kernel
theorem dX8_pricesOfBoth_5 : decode cX8_pricesOfBoth 5 = .ok (.aload_n 0, 1) := by decide +kernel
theorem dX8_pricesOfBoth_6 : decode cX8_pricesOfBoth 6 = .ok (.getfield 18, 3) := by decide +kernel
theorem dX8_pricesOfBoth_9 : decode cX8_pricesOfBoth 9 = .ok (.if_icmp .ge 25, 3) := by decide +kernel
theorem dX8_pricesOfBoth_12 : decode cX8_pricesOfBoth 12 = .ok (.aload_n 1, 1) := by decide +kernel
theorem dX8_pricesOfBoth_13 : decode cX8_pricesOfBoth 13 = .ok (.iload_n 3, 1) := by decide +kernel
theorem dX8_pricesOfBoth_14 : decode cX8_pricesOfBoth 14 = .ok (.iaload, 1) := by decide +kernel
theorem dX8_pricesOfBoth_15 : decode cX8_pricesOfBoth 15 = .ok (.iconst 3, 1) := by decide +kernel
theorem dX8_pricesOfBoth_16 : decode cX8_pricesOfBoth 16 = .ok (.if_icmp .ne 12, 3) := by decide +kernel
theorem dX8_pricesOfBoth_28 : decode cX8_pricesOfBoth 28 = .ok (.iinc 3 1, 3) := by decide +kernel
theorem dX8_pricesOfBoth_31 : decode cX8_pricesOfBoth 31 = .ok (.goto (-27), 3) := by decide +kernel
theorem dX8_pricesOfBoth_19 : decode cX8_pricesOfBoth 19 = .ok (.iload_n 2, 1) := by decide +kernel
theorem dX8_pricesOfBoth_20 : decode cX8_pricesOfBoth 20 = .ok (.aload_n 0, 1) := by decide +kernel
theorem dX8_pricesOfBoth_21 : decode cX8_pricesOfBoth 21 = .ok (.getfield 40, 3) := by decide +kernel
theorem dX8_pricesOfBoth_24 : decode cX8_pricesOfBoth 24 = .ok (.iload_n 3, 1) := by decide +kernel
theorem dX8_pricesOfBoth_25 : decode cX8_pricesOfBoth 25 = .ok (.iaload, 1) := by decide +kernel
theorem dX8_pricesOfBoth_26 : decode cX8_pricesOfBoth 26 = .ok (.iadd, 1) := by decide +kernel
theorem dX8_pricesOfBoth_27 : decode cX8_pricesOfBoth 27 = .ok (.istore_n 2, 1) := by decide +kernel
theorem dX8_pricesOfBoth_34 : decode cX8_pricesOfBoth 34 = .ok (.iload_n 2, 1) := by decide +kernel
theorem dX8_pricesOfBoth_35 : decode cX8_pricesOfBoth 35 = .ok (.ireturn, 1) := by decide +kernel
theorem dX8_otherEnd_0 : decode cX8_otherEnd 0 = .ok (.aload_n 0, 1) := by decide +kernel
theorem dX8_otherEnd_1 : decode cX8_otherEnd 1 = .ok (.getfield 30, 3) := by decide +kernel
theorem dX8_otherEnd_4 : decode cX8_otherEnd 4 = .ok (.iload_n 1, 1) := by decide +kernel
theorem dX8_otherEnd_5 : decode cX8_otherEnd 5 = .ok (.iaload, 1) := by decide +kernel
theorem dX8_otherEnd_6 : decode cX8_otherEnd 6 = .ok (.iload_n 2, 1) := by decide +kernel
theorem dX8_otherEnd_7 : decode cX8_otherEnd 7 = .ok (.if_icmp .ne 12, 3) := by decide +kernel
theorem dX8_otherEnd_19 : decode cX8_otherEnd 19 = .ok (.aload_n 0, 1) := by decide +kernel
theorem dX8_otherEnd_20 : decode cX8_otherEnd 20 = .ok (.getfield 30, 3) := by decide +kernel
theorem dX8_otherEnd_23 : decode cX8_otherEnd 23 = .ok (.iload_n 1, 1) := by decide +kernel
theorem dX8_otherEnd_24 : decode cX8_otherEnd 24 = .ok (.iaload, 1) := by decide +kernel
theorem dX8_otherEnd_25 : decode cX8_otherEnd 25 = .ok (.ireturn, 1) := by decide +kernel
theorem dX8_otherEnd_10 : decode cX8_otherEnd 10 = .ok (.aload_n 0, 1) := by decide +kernel
theorem dX8_otherEnd_11 : decode cX8_otherEnd 11 = .ok (.getfield 34, 3) := by decide +kernel
theorem dX8_otherEnd_14 : decode cX8_otherEnd 14 = .ok (.iload_n 1, 1) := by decide +kernel
theorem dX8_otherEnd_15 : decode cX8_otherEnd 15 = .ok (.iaload, 1) := by decide +kernel
theorem dX8_otherEnd_16 : decode cX8_otherEnd 16 = .ok (.goto 9, 3) := by decide +kernel
theorem dX8_mayEnter_0 : decode cX8_mayEnter 0 = .ok (.aload_n 1, 1) := by decide +kernel
theorem dX8_mayEnter_1 : decode cX8_mayEnter 1 = .ok (.iload_n 2, 1) := by decide +kernel
theorem dX8_mayEnter_2 : decode cX8_mayEnter 2 = .ok (.iaload, 1) := by decide +kernel
theorem dX8_mayEnter_3 : decode cX8_mayEnter 3 = .ok (.aload_n 0, 1) := by decide +kernel
theorem dX8_mayEnter_4 : decode cX8_mayEnter 4 = .ok (.getfield 30, 3) := by decide +kernel
theorem dX8_mayEnter_7 : decode cX8_mayEnter 7 = .ok (.iload_n 2, 1) := by decide +kernel
theorem dX8_mayEnter_8 : decode cX8_mayEnter 8 = .ok (.iaload, 1) := by decide +kernel
theorem dX8_mayEnter_9 : decode cX8_mayEnter 9 = .ok (.iload_n 3, 1) := by decide +kernel
theorem dX8_mayEnter_10 : decode cX8_mayEnter 10 = .ok (.if_icmp .ne 7, 3) := by decide +kernel
theorem dX8_mayEnter_17 : decode cX8_mayEnter 17 = .ok (.iconst 1, 1) := by decide +kernel
theorem dX8_mayEnter_18 : decode cX8_mayEnter 18 = .ok (.if_icmp .eq 7, 3) := by decide +kernel
theorem dX8_mayEnter_25 : decode cX8_mayEnter 25 = .ok (.iconst 0, 1) := by decide +kernel
theorem dX8_mayEnter_26 : decode cX8_mayEnter 26 = .ok (.ireturn, 1) := by decide +kernel
theorem dX8_mayEnter_21 : decode cX8_mayEnter 21 = .ok (.iconst 1, 1) := by decide +kernel
theorem dX8_mayEnter_22 : decode cX8_mayEnter 22 = .ok (.goto 4, 3) := by decide +kernel
theorem dX8_mayEnter_13 : decode cX8_mayEnter 13 = .ok (.iconst 2, 1) := by decide +kernel
theorem dX8_mayEnter_14 : decode cX8_mayEnter 14 = .ok (.goto 4, 3) := by decide +kernel
theorem dX8_isTold_0 : decode cX8_isTold 0 = .ok (.aload_n 0, 1) := by decide +kernel
theorem dX8_isTold_1 : decode cX8_isTold 1 = .ok (.getfield 43, 3) := by decide +kernel
theorem dX8_isTold_4 : decode cX8_isTold 4 = .ok (.iload_n 1, 1) := by decide +kernel
theorem dX8_isTold_5 : decode cX8_isTold 5 = .ok (.ishr, 1) := by decide +kernel
theorem dX8_isTold_6 : decode cX8_isTold 6 = .ok (.iconst 1, 1) := by decide +kernel
theorem dX8_isTold_7 : decode cX8_isTold 7 = .ok (.iand, 1) := by decide +kernel
theorem dX8_isTold_8 : decode cX8_isTold 8 = .ok (.ifCond .eq 7, 3) := by decide +kernel
theorem dX8_isTold_15 : decode cX8_isTold 15 = .ok (.iconst 0, 1) := by decide +kernel
theorem dX8_isTold_16 : decode cX8_isTold 16 = .ok (.ireturn, 1) := by decide +kernel
theorem dX8_isTold_11 : decode cX8_isTold 11 = .ok (.iconst 1, 1) := by decide +kernel
theorem dX8_isTold_12 : decode cX8_isTold 12 = .ok (.goto 4, 3) := by decide +kernel
theorem dX8_allCorners_0 : decode cX8_allCorners 0 = .ok (.iconst 1, 1) := by decide +kernel
theorem dX8_allCorners_1 : decode cX8_allCorners 1 = .ok (.aload_n 0, 1) := by decide +kernel
theorem dX8_allCorners_2 : decode cX8_allCorners 2 = .ok (.getfield 15, 3) := by decide +kernel
theorem dX8_allCorners_5 : decode cX8_allCorners 5 = .ok (.ishl, 1) := by decide +kernel
theorem dX8_allCorners_6 : decode cX8_allCorners 6 = .ok (.iconst 1, 1) := by decide +kernel
theorem dX8_allCorners_7 : decode cX8_allCorners 7 = .ok (.isub, 1) := by decide +kernel
theorem dX8_allCorners_8 : decode cX8_allCorners 8 = .ok (.ireturn, 1) := by decide +kernel
theorem dX8_gridAlleys_0 : decode cX8_gridAlleys 0 = .ok (.aload_n 0, 1) := by decide +kernel
theorem dX8_gridAlleys_1 : decode cX8_gridAlleys 1 = .ok (.getfield 24, 3) := by decide +kernel
theorem dX8_gridAlleys_4 : decode cX8_gridAlleys 4 = .ok (.ifCond .ne 7, 3) := by decide +kernel
theorem dX8_gridAlleys_11 : decode cX8_gridAlleys 11 = .ok (.aload_n 0, 1) := by decide +kernel
theorem dX8_gridAlleys_12 : decode cX8_gridAlleys 12 = .ok (.getfield 24, 3) := by decide +kernel
theorem dX8_gridAlleys_15 : decode cX8_gridAlleys 15 = .ok (.iconst 1, 1) := by decide +kernel
theorem dX8_gridAlleys_16 : decode cX8_gridAlleys 16 = .ok (.isub, 1) := by decide +kernel
theorem dX8_gridAlleys_17 : decode cX8_gridAlleys 17 = .ok (.aload_n 0, 1) := by decide +kernel
theorem dX8_gridAlleys_18 : decode cX8_gridAlleys 18 = .ok (.getfield 27, 3) := by decide +kernel
theorem dX8_gridAlleys_21 : decode cX8_gridAlleys 21 = .ok (.imul, 1) := by decide +kernel
theorem dX8_gridAlleys_22 : decode cX8_gridAlleys 22 = .ok (.aload_n 0, 1) := by decide +kernel
theorem dX8_gridAlleys_23 : decode cX8_gridAlleys 23 = .ok (.getfield 24, 3) := by decide +kernel
theorem dX8_gridAlleys_26 : decode cX8_gridAlleys 26 = .ok (.aload_n 0, 1) := by decide +kernel
theorem dX8_gridAlleys_27 : decode cX8_gridAlleys 27 = .ok (.getfield 27, 3) := by decide +kernel
theorem dX8_gridAlleys_30 : decode cX8_gridAlleys 30 = .ok (.iconst 1, 1) := by decide +kernel
theorem dX8_gridAlleys_31 : decode cX8_gridAlleys 31 = .ok (.isub, 1) := by decide +kernel
theorem dX8_gridAlleys_32 : decode cX8_gridAlleys 32 = .ok (.imul, 1) := by decide +kernel
theorem dX8_gridAlleys_33 : decode cX8_gridAlleys 33 = .ok (.iadd, 1) := by decide +kernel
theorem dX8_gridAlleys_34 : decode cX8_gridAlleys 34 = .ok (.ireturn, 1) := by decide +kernel
theorem dX8_gridAlleys_7 : decode cX8_gridAlleys 7 = .ok (.iconst 0, 1) := by decide +kernel
theorem dX8_gridAlleys_8 : decode cX8_gridAlleys 8 = .ok (.goto 26, 3) := by decide +kernel
theorem dX8_listEnds_0 : decode cX8_listEnds 0 = .ok (.iconst 0, 1) := by decide +kernel
theorem dX8_listEnds_1 : decode cX8_listEnds 1 = .ok (.istore_n 1, 1) := by decide +kernel
theorem dX8_listEnds_2 : decode cX8_listEnds 2 = .ok (.iconst 0, 1) := by decide +kernel
theorem dX8_listEnds_3 : decode cX8_listEnds 3 = .ok (.istore_n 2, 1) := by decide +kernel
theorem dX8_listEnds_4 : decode cX8_listEnds 4 = .ok (.iload_n 2, 1) := by decide +kernel
theorem dX8_listEnds_5 : decode cX8_listEnds 5 = .ok (.aload_n 0, 1) := by decide +kernel
theorem dX8_listEnds_6 : decode cX8_listEnds 6 = .ok (.getfield 15, 3) := by decide +kernel
theorem dX8_listEnds_9 : decode cX8_listEnds 9 = .ok (.if_icmp .ge 62, 3) := by decide +kernel
theorem dX8_listEnds_12 : decode cX8_listEnds 12 = .ok (.aload_n 0, 1) := by decide +kernel
theorem dX8_listEnds_13 : decode cX8_listEnds 13 = .ok (.getfield 63, 3) := by decide +kernel
theorem dX8_listEnds_16 : decode cX8_listEnds 16 = .ok (.iload_n 2, 1) := by decide +kernel
theorem dX8_listEnds_17 : decode cX8_listEnds 17 = .ok (.iload_n 1, 1) := by decide +kernel
theorem dX8_listEnds_18 : decode cX8_listEnds 18 = .ok (.iastore, 1) := by decide +kernel
theorem dX8_listEnds_19 : decode cX8_listEnds 19 = .ok (.iconst 0, 1) := by decide +kernel
theorem dX8_listEnds_20 : decode cX8_listEnds 20 = .ok (.istore_n 3, 1) := by decide +kernel
theorem dX8_listEnds_21 : decode cX8_listEnds 21 = .ok (.iload_n 3, 1) := by decide +kernel
theorem dX8_listEnds_22 : decode cX8_listEnds 22 = .ok (.aload_n 0, 1) := by decide +kernel
theorem dX8_listEnds_23 : decode cX8_listEnds 23 = .ok (.getfield 18, 3) := by decide +kernel
theorem dX8_listEnds_26 : decode cX8_listEnds 26 = .ok (.if_icmp .ge 39, 3) := by decide +kernel
theorem dX8_listEnds_29 : decode cX8_listEnds 29 = .ok (.aload_n 0, 1) := by decide +kernel
theorem dX8_listEnds_30 : decode cX8_listEnds 30 = .ok (.getfield 30, 3) := by decide +kernel
theorem dX8_listEnds_33 : decode cX8_listEnds 33 = .ok (.iload_n 3, 1) := by decide +kernel
theorem dX8_listEnds_34 : decode cX8_listEnds 34 = .ok (.iaload, 1) := by decide +kernel
theorem dX8_listEnds_35 : decode cX8_listEnds 35 = .ok (.iload_n 2, 1) := by decide +kernel
theorem dX8_listEnds_36 : decode cX8_listEnds 36 = .ok (.if_icmp .eq 13, 3) := by decide +kernel
theorem dX8_listEnds_49 : decode cX8_listEnds 49 = .ok (.aload_n 0, 1) := by decide +kernel
theorem dX8_listEnds_50 : decode cX8_listEnds 50 = .ok (.getfield 66, 3) := by decide +kernel
theorem dX8_listEnds_53 : decode cX8_listEnds 53 = .ok (.iload_n 1, 1) := by decide +kernel
theorem dX8_listEnds_54 : decode cX8_listEnds 54 = .ok (.iload_n 3, 1) := by decide +kernel
theorem dX8_listEnds_55 : decode cX8_listEnds 55 = .ok (.iastore, 1) := by decide +kernel
theorem dX8_listEnds_56 : decode cX8_listEnds 56 = .ok (.iinc 1 1, 3) := by decide +kernel
theorem dX8_listEnds_59 : decode cX8_listEnds 59 = .ok (.iinc 3 1, 3) := by decide +kernel
theorem dX8_listEnds_62 : decode cX8_listEnds 62 = .ok (.goto (-41), 3) := by decide +kernel
theorem dX8_listEnds_39 : decode cX8_listEnds 39 = .ok (.aload_n 0, 1) := by decide +kernel
theorem dX8_listEnds_40 : decode cX8_listEnds 40 = .ok (.getfield 34, 3) := by decide +kernel
theorem dX8_listEnds_43 : decode cX8_listEnds 43 = .ok (.iload_n 3, 1) := by decide +kernel
theorem dX8_listEnds_44 : decode cX8_listEnds 44 = .ok (.iaload, 1) := by decide +kernel
theorem dX8_listEnds_45 : decode cX8_listEnds 45 = .ok (.iload_n 2, 1) := by decide +kernel
theorem dX8_listEnds_46 : decode cX8_listEnds 46 = .ok (.if_icmp .ne 13, 3) := by decide +kernel
theorem dX8_listEnds_65 : decode cX8_listEnds 65 = .ok (.iinc 2 1, 3) := by decide +kernel
theorem dX8_listEnds_68 : decode cX8_listEnds 68 = .ok (.goto (-64), 3) := by decide +kernel
theorem dX8_listEnds_71 : decode cX8_listEnds 71 = .ok (.aload_n 0, 1) := by decide +kernel
theorem dX8_listEnds_72 : decode cX8_listEnds 72 = .ok (.getfield 63, 3) := by decide +kernel
theorem dX8_listEnds_75 : decode cX8_listEnds 75 = .ok (.aload_n 0, 1) := by decide +kernel
theorem dX8_listEnds_76 : decode cX8_listEnds 76 = .ok (.getfield 15, 3) := by decide +kernel
theorem dX8_listEnds_79 : decode cX8_listEnds 79 = .ok (.iload_n 1, 1) := by decide +kernel
theorem dX8_listEnds_80 : decode cX8_listEnds 80 = .ok (.iastore, 1) := by decide +kernel
theorem dX8_listEnds_81 : decode cX8_listEnds 81 = .ok (.return_, 1) := by decide +kernel
theorem dX8_goByTurns_0 : decode cX8_goByTurns 0 = .ok (.iconst 0, 1) := by decide +kernel
theorem dX8_goByTurns_1 : decode cX8_goByTurns 1 = .ok (.istore_n 2, 1) := by decide +kernel
theorem dX8_goByTurns_2 : decode cX8_goByTurns 2 = .ok (.iconst 0, 1) := by decide +kernel
theorem dX8_goByTurns_3 : decode cX8_goByTurns 3 = .ok (.istore_n 3, 1) := by decide +kernel
theorem dX8_goByTurns_4 : decode cX8_goByTurns 4 = .ok (.iload_n 3, 1) := by decide +kernel
theorem dX8_goByTurns_5 : decode cX8_goByTurns 5 = .ok (.aload_n 0, 1) := by decide +kernel
theorem dX8_goByTurns_6 : decode cX8_goByTurns 6 = .ok (.getfield 27, 3) := by decide +kernel
theorem dX8_goByTurns_9 : decode cX8_goByTurns 9 = .ok (.if_icmp .ge 46, 3) := by decide +kernel
theorem dX8_goByTurns_12 : decode cX8_goByTurns 12 = .ok (.iconst 0, 1) := by decide +kernel
theorem dX8_goByTurns_13 : decode cX8_goByTurns 13 = .ok (.istore 4, 2) := by decide +kernel
theorem dX8_goByTurns_15 : decode cX8_goByTurns 15 = .ok (.iload 4, 2) := by decide +kernel
theorem dX8_goByTurns_17 : decode cX8_goByTurns 17 = .ok (.iconst 1, 1) := by decide +kernel
theorem dX8_goByTurns_18 : decode cX8_goByTurns 18 = .ok (.iadd, 1) := by decide +kernel
theorem dX8_goByTurns_19 : decode cX8_goByTurns 19 = .ok (.aload_n 0, 1) := by decide +kernel
theorem dX8_goByTurns_20 : decode cX8_goByTurns 20 = .ok (.getfield 24, 3) := by decide +kernel
theorem dX8_goByTurns_23 : decode cX8_goByTurns 23 = .ok (.if_icmp .ge 26, 3) := by decide +kernel
theorem dX8_goByTurns_26 : decode cX8_goByTurns 26 = .ok (.aload_n 1, 1) := by decide +kernel
theorem dX8_goByTurns_27 : decode cX8_goByTurns 27 = .ok (.iload_n 2, 1) := by decide +kernel
theorem dX8_goByTurns_28 : decode cX8_goByTurns 28 = .ok (.iload_n 3, 1) := by decide +kernel
theorem dX8_goByTurns_29 : decode cX8_goByTurns 29 = .ok (.iconst 2, 1) := by decide +kernel
theorem dX8_goByTurns_30 : decode cX8_goByTurns 30 = .ok (.irem, 1) := by decide +kernel
theorem dX8_goByTurns_31 : decode cX8_goByTurns 31 = .ok (.ifCond .ne 7, 3) := by decide +kernel
theorem dX8_goByTurns_38 : decode cX8_goByTurns 38 = .ok (.iconst 2, 1) := by decide +kernel
theorem dX8_goByTurns_39 : decode cX8_goByTurns 39 = .ok (.iastore, 1) := by decide +kernel
theorem dX8_goByTurns_40 : decode cX8_goByTurns 40 = .ok (.iinc 2 1, 3) := by decide +kernel
theorem dX8_goByTurns_43 : decode cX8_goByTurns 43 = .ok (.iinc 4 1, 3) := by decide +kernel
theorem dX8_goByTurns_46 : decode cX8_goByTurns 46 = .ok (.goto (-31), 3) := by decide +kernel
theorem dX8_goByTurns_34 : decode cX8_goByTurns 34 = .ok (.iconst 1, 1) := by decide +kernel
theorem dX8_goByTurns_35 : decode cX8_goByTurns 35 = .ok (.goto 4, 3) := by decide +kernel
theorem dX8_goByTurns_49 : decode cX8_goByTurns 49 = .ok (.iinc 3 1, 3) := by decide +kernel
theorem dX8_goByTurns_52 : decode cX8_goByTurns 52 = .ok (.goto (-48), 3) := by decide +kernel
theorem dX8_goByTurns_55 : decode cX8_goByTurns 55 = .ok (.iconst 0, 1) := by decide +kernel
theorem dX8_goByTurns_56 : decode cX8_goByTurns 56 = .ok (.istore_n 3, 1) := by decide +kernel
theorem dX8_goByTurns_57 : decode cX8_goByTurns 57 = .ok (.iload_n 3, 1) := by decide +kernel
theorem dX8_goByTurns_58 : decode cX8_goByTurns 58 = .ok (.aload_n 0, 1) := by decide +kernel
theorem dX8_goByTurns_59 : decode cX8_goByTurns 59 = .ok (.getfield 24, 3) := by decide +kernel
theorem dX8_goByTurns_62 : decode cX8_goByTurns 62 = .ok (.if_icmp .ge 46, 3) := by decide +kernel
theorem dX8_goByTurns_65 : decode cX8_goByTurns 65 = .ok (.iconst 0, 1) := by decide +kernel
theorem dX8_goByTurns_66 : decode cX8_goByTurns 66 = .ok (.istore 4, 2) := by decide +kernel
theorem dX8_goByTurns_68 : decode cX8_goByTurns 68 = .ok (.iload 4, 2) := by decide +kernel
theorem dX8_goByTurns_70 : decode cX8_goByTurns 70 = .ok (.iconst 1, 1) := by decide +kernel
theorem dX8_goByTurns_71 : decode cX8_goByTurns 71 = .ok (.iadd, 1) := by decide +kernel
theorem dX8_goByTurns_72 : decode cX8_goByTurns 72 = .ok (.aload_n 0, 1) := by decide +kernel
theorem dX8_goByTurns_73 : decode cX8_goByTurns 73 = .ok (.getfield 27, 3) := by decide +kernel
theorem dX8_goByTurns_76 : decode cX8_goByTurns 76 = .ok (.if_icmp .ge 26, 3) := by decide +kernel
theorem dX8_goByTurns_79 : decode cX8_goByTurns 79 = .ok (.aload_n 1, 1) := by decide +kernel
theorem dX8_goByTurns_80 : decode cX8_goByTurns 80 = .ok (.iload_n 2, 1) := by decide +kernel
theorem dX8_goByTurns_81 : decode cX8_goByTurns 81 = .ok (.iload_n 3, 1) := by decide +kernel
theorem dX8_goByTurns_82 : decode cX8_goByTurns 82 = .ok (.iconst 2, 1) := by decide +kernel
theorem dX8_goByTurns_83 : decode cX8_goByTurns 83 = .ok (.irem, 1) := by decide +kernel
theorem dX8_goByTurns_84 : decode cX8_goByTurns 84 = .ok (.ifCond .ne 7, 3) := by decide +kernel
theorem dX8_goByTurns_91 : decode cX8_goByTurns 91 = .ok (.iconst 2, 1) := by decide +kernel
theorem dX8_goByTurns_92 : decode cX8_goByTurns 92 = .ok (.iastore, 1) := by decide +kernel
theorem dX8_goByTurns_93 : decode cX8_goByTurns 93 = .ok (.iinc 2 1, 3) := by decide +kernel
theorem dX8_goByTurns_96 : decode cX8_goByTurns 96 = .ok (.iinc 4 1, 3) := by decide +kernel
theorem dX8_goByTurns_99 : decode cX8_goByTurns 99 = .ok (.goto (-31), 3) := by decide +kernel
theorem dX8_goByTurns_87 : decode cX8_goByTurns 87 = .ok (.iconst 1, 1) := by decide +kernel
theorem dX8_goByTurns_88 : decode cX8_goByTurns 88 = .ok (.goto 4, 3) := by decide +kernel
theorem dX8_goByTurns_102 : decode cX8_goByTurns 102 = .ok (.iinc 3 1, 3) := by decide +kernel
theorem dX8_goByTurns_105 : decode cX8_goByTurns 105 = .ok (.goto (-48), 3) := by decide +kernel
theorem dX8_goByTurns_108 : decode cX8_goByTurns 108 = .ok (.iload_n 2, 1) := by decide +kernel
theorem dX8_goByTurns_109 : decode cX8_goByTurns 109 = .ok (.ireturn, 1) := by decide +kernel
theorem dX6_isAlike_0 : decode cX6_isAlike 0 = .ok (.aload_n 2, 1) := by decide +kernel
theorem dX6_isAlike_1 : decode cX6_isAlike 1 = .ok (.aload_n 0, 1) := by decide +kernel
theorem dX6_isAlike_2 : decode cX6_isAlike 2 = .ok (.getfield 22, 3) := by decide +kernel
theorem dX6_isAlike_5 : decode cX6_isAlike 5 = .ok (.iload_n 1, 1) := by decide +kernel
theorem dX6_isAlike_6 : decode cX6_isAlike 6 = .ok (.bipush 6, 2) := by decide +kernel
theorem dX6_isAlike_8 : decode cX6_isAlike 8 = .ok (.imul, 1) := by decide +kernel
theorem dX6_isAlike_9 : decode cX6_isAlike 9 = .ok (.iaload, 1) := by decide +kernel
theorem dX6_isAlike_10 : decode cX6_isAlike 10 = .ok (.iaload, 1) := by decide +kernel
theorem dX6_isAlike_11 : decode cX6_isAlike 11 = .ok (.istore_n 3, 1) := by decide +kernel
theorem dX6_isAlike_12 : decode cX6_isAlike 12 = .ok (.iconst 1, 1) := by decide +kernel
theorem dX6_isAlike_13 : decode cX6_isAlike 13 = .ok (.istore 4, 2) := by decide +kernel
theorem dX6_isAlike_15 : decode cX6_isAlike 15 = .ok (.iload 4, 2) := by decide +kernel
theorem dX6_isAlike_17 : decode cX6_isAlike 17 = .ok (.aload_n 0, 1) := by decide +kernel
theorem dX6_isAlike_18 : decode cX6_isAlike 18 = .ok (.getfield 18, 3) := by decide +kernel
theorem dX6_isAlike_21 : decode cX6_isAlike 21 = .ok (.iload_n 1, 1) := by decide +kernel
theorem dX6_isAlike_22 : decode cX6_isAlike 22 = .ok (.iaload, 1) := by decide +kernel
theorem dX6_isAlike_23 : decode cX6_isAlike 23 = .ok (.if_icmp .ge 29, 3) := by decide +kernel
theorem dX6_isAlike_26 : decode cX6_isAlike 26 = .ok (.aload_n 2, 1) := by decide +kernel
theorem dX6_isAlike_27 : decode cX6_isAlike 27 = .ok (.aload_n 0, 1) := by decide +kernel
theorem dX6_isAlike_28 : decode cX6_isAlike 28 = .ok (.getfield 22, 3) := by decide +kernel
theorem dX6_isAlike_31 : decode cX6_isAlike 31 = .ok (.iload_n 1, 1) := by decide +kernel
theorem dX6_isAlike_32 : decode cX6_isAlike 32 = .ok (.bipush 6, 2) := by decide +kernel
theorem dX6_isAlike_34 : decode cX6_isAlike 34 = .ok (.imul, 1) := by decide +kernel
theorem dX6_isAlike_35 : decode cX6_isAlike 35 = .ok (.iload 4, 2) := by decide +kernel
theorem dX6_isAlike_37 : decode cX6_isAlike 37 = .ok (.iadd, 1) := by decide +kernel
theorem dX6_isAlike_38 : decode cX6_isAlike 38 = .ok (.iaload, 1) := by decide +kernel
theorem dX6_isAlike_39 : decode cX6_isAlike 39 = .ok (.iaload, 1) := by decide +kernel
theorem dX6_isAlike_40 : decode cX6_isAlike 40 = .ok (.iload_n 3, 1) := by decide +kernel
theorem dX6_isAlike_41 : decode cX6_isAlike 41 = .ok (.if_icmp .eq 5, 3) := by decide +kernel
theorem dX6_isAlike_46 : decode cX6_isAlike 46 = .ok (.iinc 4 1, 3) := by decide +kernel
theorem dX6_isAlike_49 : decode cX6_isAlike 49 = .ok (.goto (-34), 3) := by decide +kernel
theorem dX6_isAlike_44 : decode cX6_isAlike 44 = .ok (.iconst 0, 1) := by decide +kernel
theorem dX6_isAlike_45 : decode cX6_isAlike 45 = .ok (.ireturn, 1) := by decide +kernel
theorem dX6_isAlike_52 : decode cX6_isAlike 52 = .ok (.iconst 1, 1) := by decide +kernel
theorem dX6_isAlike_53 : decode cX6_isAlike 53 = .ok (.ireturn, 1) := by decide +kernel
theorem dX2_sparedBy_0 : decode cX2_sparedBy 0 = .ok (.iconst 0, 1) := by decide +kernel
theorem dX2_sparedBy_1 : decode cX2_sparedBy 1 = .ok (.istore 5, 2) := by decide +kernel
theorem dX2_sparedBy_3 : decode cX2_sparedBy 3 = .ok (.iconst 0, 1) := by decide +kernel
theorem dX2_sparedBy_4 : decode cX2_sparedBy 4 = .ok (.istore 6, 2) := by decide +kernel
theorem dX2_sparedBy_6 : decode cX2_sparedBy 6 = .ok (.iload 6, 2) := by decide +kernel
theorem dX2_sparedBy_8 : decode cX2_sparedBy 8 = .ok (.aload_n 1, 1) := by decide +kernel
theorem dX2_sparedBy_9 : decode cX2_sparedBy 9 = .ok (.getfield 111, 3) := by decide +kernel
theorem dX2_sparedBy_12 : decode cX2_sparedBy 12 = .ok (.getfield 119, 3) := by decide +kernel
theorem dX2_sparedBy_15 : decode cX2_sparedBy 15 = .ok (.if_icmp .ge 132, 3) := by decide +kernel
theorem dX2_sparedBy_18 : decode cX2_sparedBy 18 = .ok (.aload_n 1, 1) := by decide +kernel
theorem dX2_sparedBy_19 : decode cX2_sparedBy 19 = .ok (.getfield 111, 3) := by decide +kernel
theorem dX2_sparedBy_22 : decode cX2_sparedBy 22 = .ok (.getfield 118, 3) := by decide +kernel
theorem dX2_sparedBy_25 : decode cX2_sparedBy 25 = .ok (.iload 6, 2) := by decide +kernel
theorem dX2_sparedBy_27 : decode cX2_sparedBy 27 = .ok (.iaload, 1) := by decide +kernel
theorem dX2_sparedBy_28 : decode cX2_sparedBy 28 = .ok (.bipush 16, 2) := by decide +kernel
theorem dX2_sparedBy_30 : decode cX2_sparedBy 30 = .ok (.imul, 1) := by decide +kernel
theorem dX2_sparedBy_31 : decode cX2_sparedBy 31 = .ok (.istore 7, 2) := by decide +kernel
theorem dX2_sparedBy_33 : decode cX2_sparedBy 33 = .ok (.aload_n 1, 1) := by decide +kernel
theorem dX2_sparedBy_34 : decode cX2_sparedBy 34 = .ok (.getfield 111, 3) := by decide +kernel
theorem dX2_sparedBy_37 : decode cX2_sparedBy 37 = .ok (.getfield 115, 3) := by decide +kernel
theorem dX2_sparedBy_40 : decode cX2_sparedBy 40 = .ok (.iload 6, 2) := by decide +kernel
theorem dX2_sparedBy_42 : decode cX2_sparedBy 42 = .ok (.iaload, 1) := by decide +kernel
theorem dX2_sparedBy_43 : decode cX2_sparedBy 43 = .ok (.istore 8, 2) := by decide +kernel
theorem dX2_sparedBy_45 : decode cX2_sparedBy 45 = .ok (.aload_n 0, 1) := by decide +kernel
theorem dX2_sparedBy_46 : decode cX2_sparedBy 46 = .ok (.getfield 15, 3) := by decide +kernel
theorem dX2_sparedBy_49 : decode cX2_sparedBy 49 = .ok (.iload 7, 2) := by decide +kernel
theorem dX2_sparedBy_51 : decode cX2_sparedBy 51 = .ok (.iload_n 2, 1) := by decide +kernel
theorem dX2_sparedBy_52 : decode cX2_sparedBy 52 = .ok (.iadd, 1) := by decide +kernel
theorem dX2_sparedBy_53 : decode cX2_sparedBy 53 = .ok (.iaload, 1) := by decide +kernel
theorem dX2_sparedBy_54 : decode cX2_sparedBy 54 = .ok (.iload 4, 2) := by decide +kernel
theorem dX2_sparedBy_56 : decode cX2_sparedBy 56 = .ok (.iadd, 1) := by decide +kernel
theorem dX2_sparedBy_57 : decode cX2_sparedBy 57 = .ok (.aload_n 0, 1) := by decide +kernel
theorem dX2_sparedBy_58 : decode cX2_sparedBy 58 = .ok (.getfield 15, 3) := by decide +kernel
theorem dX2_sparedBy_61 : decode cX2_sparedBy 61 = .ok (.iload_n 3, 1) := by decide +kernel
theorem dX2_sparedBy_62 : decode cX2_sparedBy 62 = .ok (.bipush 16, 2) := by decide +kernel
theorem dX2_sparedBy_64 : decode cX2_sparedBy 64 = .ok (.imul, 1) := by decide +kernel
theorem dX2_sparedBy_65 : decode cX2_sparedBy 65 = .ok (.iload 8, 2) := by decide +kernel
theorem dX2_sparedBy_67 : decode cX2_sparedBy 67 = .ok (.iadd, 1) := by decide +kernel
theorem dX2_sparedBy_68 : decode cX2_sparedBy 68 = .ok (.iaload, 1) := by decide +kernel
theorem dX2_sparedBy_69 : decode cX2_sparedBy 69 = .ok (.iadd, 1) := by decide +kernel
theorem dX2_sparedBy_70 : decode cX2_sparedBy 70 = .ok (.istore 9, 2) := by decide +kernel
theorem dX2_sparedBy_72 : decode cX2_sparedBy 72 = .ok (.aload_n 0, 1) := by decide +kernel
theorem dX2_sparedBy_73 : decode cX2_sparedBy 73 = .ok (.getfield 15, 3) := by decide +kernel
theorem dX2_sparedBy_76 : decode cX2_sparedBy 76 = .ok (.iload 7, 2) := by decide +kernel
theorem dX2_sparedBy_78 : decode cX2_sparedBy 78 = .ok (.iload_n 3, 1) := by decide +kernel
theorem dX2_sparedBy_79 : decode cX2_sparedBy 79 = .ok (.iadd, 1) := by decide +kernel
theorem dX2_sparedBy_80 : decode cX2_sparedBy 80 = .ok (.iaload, 1) := by decide +kernel
theorem dX2_sparedBy_81 : decode cX2_sparedBy 81 = .ok (.iload 4, 2) := by decide +kernel
theorem dX2_sparedBy_83 : decode cX2_sparedBy 83 = .ok (.iadd, 1) := by decide +kernel
theorem dX2_sparedBy_84 : decode cX2_sparedBy 84 = .ok (.aload_n 0, 1) := by decide +kernel
theorem dX2_sparedBy_85 : decode cX2_sparedBy 85 = .ok (.getfield 15, 3) := by decide +kernel
theorem dX2_sparedBy_88 : decode cX2_sparedBy 88 = .ok (.iload_n 2, 1) := by decide +kernel
theorem dX2_sparedBy_89 : decode cX2_sparedBy 89 = .ok (.bipush 16, 2) := by decide +kernel
theorem dX2_sparedBy_91 : decode cX2_sparedBy 91 = .ok (.imul, 1) := by decide +kernel
theorem dX2_sparedBy_92 : decode cX2_sparedBy 92 = .ok (.iload 8, 2) := by decide +kernel
theorem dX2_sparedBy_94 : decode cX2_sparedBy 94 = .ok (.iadd, 1) := by decide +kernel
theorem dX2_sparedBy_95 : decode cX2_sparedBy 95 = .ok (.iaload, 1) := by decide +kernel
theorem dX2_sparedBy_96 : decode cX2_sparedBy 96 = .ok (.iadd, 1) := by decide +kernel
theorem dX2_sparedBy_97 : decode cX2_sparedBy 97 = .ok (.istore 10, 2) := by decide +kernel
theorem dX2_sparedBy_99 : decode cX2_sparedBy 99 = .ok (.aload_n 0, 1) := by decide +kernel
theorem dX2_sparedBy_100 : decode cX2_sparedBy 100 = .ok (.getfield 15, 3) := by decide +kernel
theorem dX2_sparedBy_103 : decode cX2_sparedBy 103 = .ok (.iload 7, 2) := by decide +kernel
theorem dX2_sparedBy_105 : decode cX2_sparedBy 105 = .ok (.iload 8, 2) := by decide +kernel
theorem dX2_sparedBy_107 : decode cX2_sparedBy 107 = .ok (.iadd, 1) := by decide +kernel
theorem dX2_sparedBy_108 : decode cX2_sparedBy 108 = .ok (.iaload, 1) := by decide +kernel
theorem dX2_sparedBy_109 : decode cX2_sparedBy 109 = .ok (.iload 9, 2) := by decide +kernel
theorem dX2_sparedBy_111 : decode cX2_sparedBy 111 = .ok (.iload 10, 2) := by decide +kernel
theorem dX2_sparedBy_113 : decode cX2_sparedBy 113 = .ok (.invokestatic 147, 3) := by decide +kernel
theorem dX2_sparedBy_116 : decode cX2_sparedBy 116 = .ok (.isub, 1) := by decide +kernel
theorem dX2_sparedBy_117 : decode cX2_sparedBy 117 = .ok (.istore 11, 2) := by decide +kernel
theorem dX2_sparedBy_119 : decode cX2_sparedBy 119 = .ok (.iload 5, 2) := by decide +kernel
theorem dX2_sparedBy_121 : decode cX2_sparedBy 121 = .ok (.aload_n 1, 1) := by decide +kernel
theorem dX2_sparedBy_122 : decode cX2_sparedBy 122 = .ok (.getfield 111, 3) := by decide +kernel
theorem dX2_sparedBy_125 : decode cX2_sparedBy 125 = .ok (.getfield 125, 3) := by decide +kernel
theorem dX2_sparedBy_128 : decode cX2_sparedBy 128 = .ok (.iload 6, 2) := by decide +kernel
theorem dX2_sparedBy_130 : decode cX2_sparedBy 130 = .ok (.iaload, 1) := by decide +kernel
theorem dX2_sparedBy_131 : decode cX2_sparedBy 131 = .ok (.iload 11, 2) := by decide +kernel
theorem dX2_sparedBy_133 : decode cX2_sparedBy 133 = .ok (.iconst 0, 1) := by decide +kernel
theorem dX2_sparedBy_134 : decode cX2_sparedBy 134 = .ok (.invokestatic 142, 3) := by decide +kernel
theorem dX2_sparedBy_137 : decode cX2_sparedBy 137 = .ok (.imul, 1) := by decide +kernel
theorem dX2_sparedBy_138 : decode cX2_sparedBy 138 = .ok (.iadd, 1) := by decide +kernel
theorem dX2_sparedBy_139 : decode cX2_sparedBy 139 = .ok (.istore 5, 2) := by decide +kernel
theorem dX2_sparedBy_141 : decode cX2_sparedBy 141 = .ok (.iinc 6 1, 3) := by decide +kernel
theorem dX2_sparedBy_144 : decode cX2_sparedBy 144 = .ok (.goto (-138), 3) := by decide +kernel
theorem dX2_sparedBy_147 : decode cX2_sparedBy 147 = .ok (.iload 5, 2) := by decide +kernel
theorem dX2_sparedBy_149 : decode cX2_sparedBy 149 = .ok (.ireturn, 1) := by decide +kernel
theorem dX2_detour_0 : decode cX2_detour 0 = .ok (.aload_n 0, 1) := by decide +kernel
theorem dX2_detour_1 : decode cX2_detour 1 = .ok (.getfield 9, 3) := by decide +kernel
theorem dX2_detour_4 : decode cX2_detour 4 = .ok (.iload_n 2, 1) := by decide +kernel
theorem dX2_detour_5 : decode cX2_detour 5 = .ok (.iaload, 1) := by decide +kernel
theorem dX2_detour_6 : decode cX2_detour 6 = .ok (.ldc 76, 2) := by decide +kernel
theorem dX2_detour_8 : decode cX2_detour 8 = .ok (.if_icmp .lt 7, 3) := by decide +kernel
theorem dX2_detour_15 : decode cX2_detour 15 = .ok (.aload_n 0, 1) := by decide +kernel
theorem dX2_detour_16 : decode cX2_detour 16 = .ok (.getfield 9, 3) := by decide +kernel
theorem dX2_detour_19 : decode cX2_detour 19 = .ok (.iload_n 2, 1) := by decide +kernel
theorem dX2_detour_20 : decode cX2_detour 20 = .ok (.iaload, 1) := by decide +kernel
theorem dX2_detour_21 : decode cX2_detour 21 = .ok (.aload_n 1, 1) := by decide +kernel
theorem dX2_detour_22 : decode cX2_detour 22 = .ok (.getfield 35, 3) := by decide +kernel
theorem dX2_detour_25 : decode cX2_detour 25 = .ok (.iload_n 2, 1) := by decide +kernel
theorem dX2_detour_26 : decode cX2_detour 26 = .ok (.bipush 16, 2) := by decide +kernel
theorem dX2_detour_28 : decode cX2_detour 28 = .ok (.imul, 1) := by decide +kernel
theorem dX2_detour_29 : decode cX2_detour 29 = .ok (.iload_n 3, 1) := by decide +kernel
theorem dX2_detour_30 : decode cX2_detour 30 = .ok (.iadd, 1) := by decide +kernel
theorem dX2_detour_31 : decode cX2_detour 31 = .ok (.iaload, 1) := by decide +kernel
theorem dX2_detour_32 : decode cX2_detour 32 = .ok (.isub, 1) := by decide +kernel
theorem dX2_detour_33 : decode cX2_detour 33 = .ok (.ireturn, 1) := by decide +kernel
theorem dX2_detour_11 : decode cX2_detour 11 = .ok (.iconst (-1), 1) := by decide +kernel
theorem dX2_detour_12 : decode cX2_detour 12 = .ok (.goto 21, 3) := by decide +kernel
theorem dX4_isThere_0 : decode cX4_isThere 0 = .ok (.aload_n 0, 1) := by decide +kernel
theorem dX4_isThere_1 : decode cX4_isThere 1 = .ok (.getfield 9, 3) := by decide +kernel
theorem dX4_isThere_4 : decode cX4_isThere 4 = .ok (.iconst (-1), 1) := by decide +kernel
theorem dX4_isThere_5 : decode cX4_isThere 5 = .ok (.if_icmp .eq 7, 3) := by decide +kernel
theorem dX4_isThere_12 : decode cX4_isThere 12 = .ok (.iconst 0, 1) := by decide +kernel
theorem dX4_isThere_13 : decode cX4_isThere 13 = .ok (.ireturn, 1) := by decide +kernel
theorem dX4_isThere_8 : decode cX4_isThere 8 = .ok (.iconst 1, 1) := by decide +kernel
theorem dX4_isThere_9 : decode cX4_isThere 9 = .ok (.goto 4, 3) := by decide +kernel
theorem dX4_hasPart_0 : decode cX4_hasPart 0 = .ok (.iload_n 1, 1) := by decide +kernel
theorem dX4_hasPart_1 : decode cX4_hasPart 1 = .ok (.ifCond .lt 29, 3) := by decide +kernel
theorem dX4_hasPart_30 : decode cX4_hasPart 30 = .ok (.iconst 0, 1) := by decide +kernel
theorem dX4_hasPart_31 : decode cX4_hasPart 31 = .ok (.ireturn, 1) := by decide +kernel
theorem dX4_hasPart_4 : decode cX4_hasPart 4 = .ok (.iload_n 2, 1) := by decide +kernel
theorem dX4_hasPart_5 : decode cX4_hasPart 5 = .ok (.ifCond .lt 25, 3) := by decide +kernel
theorem dX4_hasPart_8 : decode cX4_hasPart 8 = .ok (.iload_n 2, 1) := by decide +kernel
theorem dX4_hasPart_9 : decode cX4_hasPart 9 = .ok (.aload_n 0, 1) := by decide +kernel
theorem dX4_hasPart_10 : decode cX4_hasPart 10 = .ok (.getfield 15, 3) := by decide +kernel
theorem dX4_hasPart_13 : decode cX4_hasPart 13 = .ok (.if_icmp .gt 17, 3) := by decide +kernel
theorem dX4_hasPart_16 : decode cX4_hasPart 16 = .ok (.iload_n 1, 1) := by decide +kernel
theorem dX4_hasPart_17 : decode cX4_hasPart 17 = .ok (.aload_n 0, 1) := by decide +kernel
theorem dX4_hasPart_18 : decode cX4_hasPart 18 = .ok (.getfield 15, 3) := by decide +kernel
theorem dX4_hasPart_21 : decode cX4_hasPart 21 = .ok (.iload_n 2, 1) := by decide +kernel
theorem dX4_hasPart_22 : decode cX4_hasPart 22 = .ok (.isub, 1) := by decide +kernel
theorem dX4_hasPart_23 : decode cX4_hasPart 23 = .ok (.if_icmp .gt 7, 3) := by decide +kernel
theorem dX4_hasPart_26 : decode cX4_hasPart 26 = .ok (.iconst 1, 1) := by decide +kernel
theorem dX4_hasPart_27 : decode cX4_hasPart 27 = .ok (.goto 4, 3) := by decide +kernel
theorem dX3_priceOf_0 : decode cX3_priceOf 0 = .ok (.iconst 0, 1) := by decide +kernel
theorem dX3_priceOf_1 : decode cX3_priceOf 1 = .ok (.istore 4, 2) := by decide +kernel
theorem dX3_priceOf_3 : decode cX3_priceOf 3 = .ok (.iconst 0, 1) := by decide +kernel
theorem dX3_priceOf_4 : decode cX3_priceOf 4 = .ok (.istore 5, 2) := by decide +kernel
theorem dX3_priceOf_6 : decode cX3_priceOf 6 = .ok (.iload 5, 2) := by decide +kernel
theorem dX3_priceOf_8 : decode cX3_priceOf 8 = .ok (.iload_n 2, 1) := by decide +kernel
theorem dX3_priceOf_9 : decode cX3_priceOf 9 = .ok (.if_icmp .ge 33, 3) := by decide +kernel
theorem dX3_priceOf_12 : decode cX3_priceOf 12 = .ok (.iload 4, 2) := by decide +kernel
theorem dX3_priceOf_14 : decode cX3_priceOf 14 = .ok (.iload_n 3, 1) := by decide +kernel
theorem dX3_priceOf_15 : decode cX3_priceOf 15 = .ok (.iload 5, 2) := by decide +kernel
theorem dX3_priceOf_17 : decode cX3_priceOf 17 = .ok (.ishr, 1) := by decide +kernel
theorem dX3_priceOf_18 : decode cX3_priceOf 18 = .ok (.iconst 1, 1) := by decide +kernel
theorem dX3_priceOf_19 : decode cX3_priceOf 19 = .ok (.iand, 1) := by decide +kernel
theorem dX3_priceOf_20 : decode cX3_priceOf 20 = .ok (.aload_n 1, 1) := by decide +kernel
theorem dX3_priceOf_21 : decode cX3_priceOf 21 = .ok (.getfield 57, 3) := by decide +kernel
theorem dX3_priceOf_24 : decode cX3_priceOf 24 = .ok (.aload_n 0, 1) := by decide +kernel
theorem dX3_priceOf_25 : decode cX3_priceOf 25 = .ok (.getfield 9, 3) := by decide +kernel
theorem dX3_priceOf_28 : decode cX3_priceOf 28 = .ok (.iload 5, 2) := by decide +kernel
theorem dX3_priceOf_30 : decode cX3_priceOf 30 = .ok (.iaload, 1) := by decide +kernel
theorem dX3_priceOf_31 : decode cX3_priceOf 31 = .ok (.iaload, 1) := by decide +kernel
theorem dX3_priceOf_32 : decode cX3_priceOf 32 = .ok (.imul, 1) := by decide +kernel
theorem dX3_priceOf_33 : decode cX3_priceOf 33 = .ok (.iadd, 1) := by decide +kernel
theorem dX3_priceOf_34 : decode cX3_priceOf 34 = .ok (.istore 4, 2) := by decide +kernel
theorem dX3_priceOf_36 : decode cX3_priceOf 36 = .ok (.iinc 5 1, 3) := by decide +kernel
theorem dX3_priceOf_39 : decode cX3_priceOf 39 = .ok (.goto (-33), 3) := by decide +kernel
theorem dX3_priceOf_42 : decode cX3_priceOf 42 = .ok (.iload 4, 2) := by decide +kernel
theorem dX3_priceOf_44 : decode cX3_priceOf 44 = .ok (.ireturn, 1) := by decide +kernel
theorem dX3_makeBoth_0 : decode cX3_makeBoth 0 = .ok (.iconst 0, 1) := by decide +kernel
theorem dX3_makeBoth_1 : decode cX3_makeBoth 1 = .ok (.istore 4, 2) := by decide +kernel
theorem dX3_makeBoth_3 : decode cX3_makeBoth 3 = .ok (.iload 4, 2) := by decide +kernel
theorem dX3_makeBoth_5 : decode cX3_makeBoth 5 = .ok (.iload_n 2, 1) := by decide +kernel
theorem dX3_makeBoth_6 : decode cX3_makeBoth 6 = .ok (.if_icmp .ge 38, 3) := by decide +kernel
theorem dX3_makeBoth_9 : decode cX3_makeBoth 9 = .ok (.aload_n 1, 1) := by decide +kernel
theorem dX3_makeBoth_10 : decode cX3_makeBoth 10 = .ok (.aload_n 0, 1) := by decide +kernel
theorem dX3_makeBoth_11 : decode cX3_makeBoth 11 = .ok (.getfield 9, 3) := by decide +kernel
theorem dX3_makeBoth_14 : decode cX3_makeBoth 14 = .ok (.iload 4, 2) := by decide +kernel
theorem dX3_makeBoth_16 : decode cX3_makeBoth 16 = .ok (.iaload, 1) := by decide +kernel
theorem dX3_makeBoth_17 : decode cX3_makeBoth 17 = .ok (.iload_n 3, 1) := by decide +kernel
theorem dX3_makeBoth_18 : decode cX3_makeBoth 18 = .ok (.iload 4, 2) := by decide +kernel
theorem dX3_makeBoth_20 : decode cX3_makeBoth 20 = .ok (.ishr, 1) := by decide +kernel
theorem dX3_makeBoth_21 : decode cX3_makeBoth 21 = .ok (.iconst 1, 1) := by decide +kernel
theorem dX3_makeBoth_22 : decode cX3_makeBoth 22 = .ok (.iand, 1) := by decide +kernel
theorem dX3_makeBoth_23 : decode cX3_makeBoth 23 = .ok (.ifCond .ne 13, 3) := by decide +kernel
theorem dX3_makeBoth_36 : decode cX3_makeBoth 36 = .ok (.iconst 3, 1) := by decide +kernel
theorem dX3_makeBoth_37 : decode cX3_makeBoth 37 = .ok (.iastore, 1) := by decide +kernel
theorem dX3_makeBoth_38 : decode cX3_makeBoth 38 = .ok (.iinc 4 1, 3) := by decide +kernel
theorem dX3_makeBoth_41 : decode cX3_makeBoth 41 = .ok (.goto (-38), 3) := by decide +kernel
theorem dX3_makeBoth_26 : decode cX3_makeBoth 26 = .ok (.aload_n 0, 1) := by decide +kernel
theorem dX3_makeBoth_27 : decode cX3_makeBoth 27 = .ok (.getfield 15, 3) := by decide +kernel
theorem dX3_makeBoth_30 : decode cX3_makeBoth 30 = .ok (.iload 4, 2) := by decide +kernel
theorem dX3_makeBoth_32 : decode cX3_makeBoth 32 = .ok (.iaload, 1) := by decide +kernel
theorem dX3_makeBoth_33 : decode cX3_makeBoth 33 = .ok (.goto 4, 3) := by decide +kernel
theorem dX3_makeBoth_44 : decode cX3_makeBoth 44 = .ok (.return_, 1) := by decide +kernel
theorem dX0_listOpen_0 : decode cX0_listOpen 0 = .ok (.iconst 0, 1) := by decide +kernel
theorem dX0_listOpen_1 : decode cX0_listOpen 1 = .ok (.istore_n 3, 1) := by decide +kernel
theorem dX0_listOpen_2 : decode cX0_listOpen 2 = .ok (.iconst 0, 1) := by decide +kernel
theorem dX0_listOpen_3 : decode cX0_listOpen 3 = .ok (.istore 4, 2) := by decide +kernel
theorem dX0_listOpen_5 : decode cX0_listOpen 5 = .ok (.iload 4, 2) := by decide +kernel
theorem dX0_listOpen_7 : decode cX0_listOpen 7 = .ok (.aload_n 1, 1) := by decide +kernel
theorem dX0_listOpen_8 : decode cX0_listOpen 8 = .ok (.getfield 35, 3) := by decide +kernel
theorem dX0_listOpen_11 : decode cX0_listOpen 11 = .ok (.if_icmp .ge 33, 3) := by decide +kernel
theorem dX0_listOpen_14 : decode cX0_listOpen 14 = .ok (.iload_n 3, 1) := by decide +kernel
theorem dX0_listOpen_15 : decode cX0_listOpen 15 = .ok (.bipush 10, 2) := by decide +kernel
theorem dX0_listOpen_17 : decode cX0_listOpen 17 = .ok (.if_icmp .ge 27, 3) := by decide +kernel
theorem dX0_listOpen_20 : decode cX0_listOpen 20 = .ok (.aload_n 2, 1) := by decide +kernel
theorem dX0_listOpen_21 : decode cX0_listOpen 21 = .ok (.iload 4, 2) := by decide +kernel
theorem dX0_listOpen_23 : decode cX0_listOpen 23 = .ok (.iaload, 1) := by decide +kernel
theorem dX0_listOpen_24 : decode cX0_listOpen 24 = .ok (.ifCond .ne 14, 3) := by decide +kernel
theorem dX0_listOpen_38 : decode cX0_listOpen 38 = .ok (.iinc 4 1, 3) := by decide +kernel
theorem dX0_listOpen_41 : decode cX0_listOpen 41 = .ok (.goto (-36), 3) := by decide +kernel
theorem dX0_listOpen_27 : decode cX0_listOpen 27 = .ok (.aload_n 0, 1) := by decide +kernel
theorem dX0_listOpen_28 : decode cX0_listOpen 28 = .ok (.getfield 9, 3) := by decide +kernel
theorem dX0_listOpen_31 : decode cX0_listOpen 31 = .ok (.iload_n 3, 1) := by decide +kernel
theorem dX0_listOpen_32 : decode cX0_listOpen 32 = .ok (.iload 4, 2) := by decide +kernel
theorem dX0_listOpen_34 : decode cX0_listOpen 34 = .ok (.iastore, 1) := by decide +kernel
theorem dX0_listOpen_35 : decode cX0_listOpen 35 = .ok (.iinc 3 1, 3) := by decide +kernel
theorem dX0_listOpen_44 : decode cX0_listOpen 44 = .ok (.iload_n 3, 1) := by decide +kernel
theorem dX0_listOpen_45 : decode cX0_listOpen 45 = .ok (.ireturn, 1) := by decide +kernel
theorem dX0_giveTrial_0 : decode cX0_giveTrial 0 = .ok (.iconst 0, 1) := by decide +kernel
theorem dX0_giveTrial_1 : decode cX0_giveTrial 1 = .ok (.istore 4, 2) := by decide +kernel
theorem dX0_giveTrial_3 : decode cX0_giveTrial 3 = .ok (.iload 4, 2) := by decide +kernel
theorem dX0_giveTrial_5 : decode cX0_giveTrial 5 = .ok (.iload_n 2, 1) := by decide +kernel
theorem dX0_giveTrial_6 : decode cX0_giveTrial 6 = .ok (.if_icmp .ge 36, 3) := by decide +kernel
theorem dX0_giveTrial_9 : decode cX0_giveTrial 9 = .ok (.aload_n 1, 1) := by decide +kernel
theorem dX0_giveTrial_10 : decode cX0_giveTrial 10 = .ok (.aload_n 0, 1) := by decide +kernel
theorem dX0_giveTrial_11 : decode cX0_giveTrial 11 = .ok (.getfield 9, 3) := by decide +kernel
theorem dX0_giveTrial_14 : decode cX0_giveTrial 14 = .ok (.iload 4, 2) := by decide +kernel
theorem dX0_giveTrial_16 : decode cX0_giveTrial 16 = .ok (.iaload, 1) := by decide +kernel
theorem dX0_giveTrial_17 : decode cX0_giveTrial 17 = .ok (.iload_n 3, 1) := by decide +kernel
theorem dX0_giveTrial_18 : decode cX0_giveTrial 18 = .ok (.iload_n 2, 1) := by decide +kernel
theorem dX0_giveTrial_19 : decode cX0_giveTrial 19 = .ok (.iconst 1, 1) := by decide +kernel
theorem dX0_giveTrial_20 : decode cX0_giveTrial 20 = .ok (.isub, 1) := by decide +kernel
theorem dX0_giveTrial_21 : decode cX0_giveTrial 21 = .ok (.iload 4, 2) := by decide +kernel
theorem dX0_giveTrial_23 : decode cX0_giveTrial 23 = .ok (.isub, 1) := by decide +kernel
theorem dX0_giveTrial_24 : decode cX0_giveTrial 24 = .ok (.ishr, 1) := by decide +kernel
theorem dX0_giveTrial_25 : decode cX0_giveTrial 25 = .ok (.iconst 1, 1) := by decide +kernel
theorem dX0_giveTrial_26 : decode cX0_giveTrial 26 = .ok (.iand, 1) := by decide +kernel
theorem dX0_giveTrial_27 : decode cX0_giveTrial 27 = .ok (.ifCond .ne 7, 3) := by decide +kernel
theorem dX0_giveTrial_34 : decode cX0_giveTrial 34 = .ok (.iconst 2, 1) := by decide +kernel
theorem dX0_giveTrial_35 : decode cX0_giveTrial 35 = .ok (.iastore, 1) := by decide +kernel
theorem dX0_giveTrial_36 : decode cX0_giveTrial 36 = .ok (.iinc 4 1, 3) := by decide +kernel
theorem dX0_giveTrial_39 : decode cX0_giveTrial 39 = .ok (.goto (-36), 3) := by decide +kernel
theorem dX0_giveTrial_30 : decode cX0_giveTrial 30 = .ok (.iconst 1, 1) := by decide +kernel
theorem dX0_giveTrial_31 : decode cX0_giveTrial 31 = .ok (.goto 4, 3) := by decide +kernel
theorem dX0_giveTrial_42 : decode cX0_giveTrial 42 = .ok (.return_, 1) := by decide +kernel
theorem dX10_turn_0 : decode cX10_turn 0 = .ok (.iconst 0, 1) := by decide +kernel
theorem dX10_turn_1 : decode cX10_turn 1 = .ok (.istore 4, 2) := by decide +kernel
theorem dX10_turn_3 : decode cX10_turn 3 = .ok (.iload 4, 2) := by decide +kernel
theorem dX10_turn_5 : decode cX10_turn 5 = .ok (.aload_n 1, 1) := by decide +kernel
theorem dX10_turn_6 : decode cX10_turn 6 = .ok (.getfield 15, 3) := by decide +kernel
theorem dX10_turn_9 : decode cX10_turn 9 = .ok (.if_icmp .ge 28, 3) := by decide +kernel
theorem dX10_turn_12 : decode cX10_turn 12 = .ok (.iload_n 3, 1) := by decide +kernel
theorem dX10_turn_13 : decode cX10_turn 13 = .ok (.iload 4, 2) := by decide +kernel
theorem dX10_turn_15 : decode cX10_turn 15 = .ok (.ishr, 1) := by decide +kernel
theorem dX10_turn_16 : decode cX10_turn 16 = .ok (.iconst 1, 1) := by decide +kernel
theorem dX10_turn_17 : decode cX10_turn 17 = .ok (.iand, 1) := by decide +kernel
theorem dX10_turn_18 : decode cX10_turn 18 = .ok (.ifCond .eq 13, 3) := by decide +kernel
theorem dX10_turn_31 : decode cX10_turn 31 = .ok (.iinc 4 1, 3) := by decide +kernel
theorem dX10_turn_34 : decode cX10_turn 34 = .ok (.goto (-31), 3) := by decide +kernel
theorem dX10_turn_21 : decode cX10_turn 21 = .ok (.aload_n 2, 1) := by decide +kernel
theorem dX10_turn_22 : decode cX10_turn 22 = .ok (.iload 4, 2) := by decide +kernel
theorem dX10_turn_24 : decode cX10_turn 24 = .ok (.iconst 3, 1) := by decide +kernel
theorem dX10_turn_25 : decode cX10_turn 25 = .ok (.aload_n 2, 1) := by decide +kernel
theorem dX10_turn_26 : decode cX10_turn 26 = .ok (.iload 4, 2) := by decide +kernel
theorem dX10_turn_28 : decode cX10_turn 28 = .ok (.iaload, 1) := by decide +kernel
theorem dX10_turn_29 : decode cX10_turn 29 = .ok (.isub, 1) := by decide +kernel
theorem dX10_turn_30 : decode cX10_turn 30 = .ok (.iastore, 1) := by decide +kernel
theorem dX10_turn_37 : decode cX10_turn 37 = .ok (.return_, 1) := by decide +kernel
theorem dX8_addAlley_0 : decode cX8_addAlley 0 = .ok (.aload_n 0, 1) := by decide +kernel
theorem dX8_addAlley_1 : decode cX8_addAlley 1 = .ok (.getfield 30, 3) := by decide +kernel
theorem dX8_addAlley_4 : decode cX8_addAlley 4 = .ok (.aload_n 0, 1) := by decide +kernel
theorem dX8_addAlley_5 : decode cX8_addAlley 5 = .ok (.getfield 18, 3) := by decide +kernel
theorem dX8_addAlley_8 : decode cX8_addAlley 8 = .ok (.iload_n 1, 1) := by decide +kernel
theorem dX8_addAlley_9 : decode cX8_addAlley 9 = .ok (.iastore, 1) := by decide +kernel
theorem dX8_addAlley_10 : decode cX8_addAlley 10 = .ok (.aload_n 0, 1) := by decide +kernel
theorem dX8_addAlley_11 : decode cX8_addAlley 11 = .ok (.getfield 34, 3) := by decide +kernel
theorem dX8_addAlley_14 : decode cX8_addAlley 14 = .ok (.aload_n 0, 1) := by decide +kernel
theorem dX8_addAlley_15 : decode cX8_addAlley 15 = .ok (.getfield 18, 3) := by decide +kernel
theorem dX8_addAlley_18 : decode cX8_addAlley 18 = .ok (.iload_n 2, 1) := by decide +kernel
theorem dX8_addAlley_19 : decode cX8_addAlley 19 = .ok (.iastore, 1) := by decide +kernel
theorem dX8_addAlley_20 : decode cX8_addAlley 20 = .ok (.aload_n 0, 1) := by decide +kernel
theorem dX8_addAlley_21 : decode cX8_addAlley 21 = .ok (.getfield 37, 3) := by decide +kernel
theorem dX8_addAlley_24 : decode cX8_addAlley 24 = .ok (.aload_n 0, 1) := by decide +kernel
theorem dX8_addAlley_25 : decode cX8_addAlley 25 = .ok (.getfield 18, 3) := by decide +kernel
theorem dX8_addAlley_28 : decode cX8_addAlley 28 = .ok (.iload_n 3, 1) := by decide +kernel
theorem dX8_addAlley_29 : decode cX8_addAlley 29 = .ok (.iastore, 1) := by decide +kernel
theorem dX8_addAlley_30 : decode cX8_addAlley 30 = .ok (.aload_n 0, 1) := by decide +kernel
theorem dX8_addAlley_31 : decode cX8_addAlley 31 = .ok (.getfield 40, 3) := by decide +kernel
theorem dX8_addAlley_34 : decode cX8_addAlley 34 = .ok (.aload_n 0, 1) := by decide +kernel
theorem dX8_addAlley_35 : decode cX8_addAlley 35 = .ok (.getfield 18, 3) := by decide +kernel
theorem dX8_addAlley_38 : decode cX8_addAlley 38 = .ok (.iload 4, 2) := by decide +kernel
theorem dX8_addAlley_40 : decode cX8_addAlley 40 = .ok (.iastore, 1) := by decide +kernel
theorem dX8_addAlley_41 : decode cX8_addAlley 41 = .ok (.aload_n 0, 1) := by decide +kernel
theorem dX8_addAlley_42 : decode cX8_addAlley 42 = .ok (.dup, 1) := by decide +kernel
theorem dX8_addAlley_43 : decode cX8_addAlley 43 = .ok (.getfield 18, 3) := by decide +kernel
theorem dX8_addAlley_46 : decode cX8_addAlley 46 = .ok (.iconst 1, 1) := by decide +kernel
theorem dX8_addAlley_47 : decode cX8_addAlley 47 = .ok (.iadd, 1) := by decide +kernel
theorem dX8_addAlley_48 : decode cX8_addAlley 48 = .ok (.putfield 18, 3) := by decide +kernel
theorem dX8_addAlley_51 : decode cX8_addAlley 51 = .ok (.return_, 1) := by decide +kernel
theorem dX1_add_0 : decode cX1_add 0 = .ok (.aload_n 0, 1) := by decide +kernel
theorem dX1_add_1 : decode cX1_add 1 = .ok (.getfield 15, 3) := by decide +kernel
theorem dX1_add_4 : decode cX1_add 4 = .ok (.aload_n 0, 1) := by decide +kernel
theorem dX1_add_5 : decode cX1_add 5 = .ok (.getfield 9, 3) := by decide +kernel
theorem dX1_add_8 : decode cX1_add 8 = .ok (.iload_n 1, 1) := by decide +kernel
theorem dX1_add_9 : decode cX1_add 9 = .ok (.iastore, 1) := by decide +kernel
theorem dX1_add_10 : decode cX1_add 10 = .ok (.aload_n 0, 1) := by decide +kernel
theorem dX1_add_11 : decode cX1_add 11 = .ok (.getfield 19, 3) := by decide +kernel
theorem dX1_add_14 : decode cX1_add 14 = .ok (.aload_n 0, 1) := by decide +kernel
theorem dX1_add_15 : decode cX1_add 15 = .ok (.getfield 9, 3) := by decide +kernel
theorem dX1_add_18 : decode cX1_add 18 = .ok (.iload_n 2, 1) := by decide +kernel
theorem dX1_add_19 : decode cX1_add 19 = .ok (.iastore, 1) := by decide +kernel
theorem dX1_add_20 : decode cX1_add 20 = .ok (.aload_n 0, 1) := by decide +kernel
theorem dX1_add_21 : decode cX1_add 21 = .ok (.getfield 22, 3) := by decide +kernel
theorem dX1_add_24 : decode cX1_add 24 = .ok (.aload_n 0, 1) := by decide +kernel
theorem dX1_add_25 : decode cX1_add 25 = .ok (.getfield 9, 3) := by decide +kernel
theorem dX1_add_28 : decode cX1_add 28 = .ok (.iload_n 3, 1) := by decide +kernel
theorem dX1_add_29 : decode cX1_add 29 = .ok (.iastore, 1) := by decide +kernel
theorem dX1_add_30 : decode cX1_add 30 = .ok (.aload_n 0, 1) := by decide +kernel
theorem dX1_add_31 : decode cX1_add 31 = .ok (.dup, 1) := by decide +kernel
theorem dX1_add_32 : decode cX1_add 32 = .ok (.getfield 9, 3) := by decide +kernel
theorem dX1_add_35 : decode cX1_add 35 = .ok (.iconst 1, 1) := by decide +kernel
theorem dX1_add_36 : decode cX1_add 36 = .ok (.iadd, 1) := by decide +kernel
theorem dX1_add_37 : decode cX1_add 37 = .ok (.putfield 9, 3) := by decide +kernel
theorem dX1_add_40 : decode cX1_add 40 = .ok (.return_, 1) := by decide +kernel
theorem dX2_joinCorners_0 : decode cX2_joinCorners 0 = .ok (.aload_n 0, 1) := by decide +kernel
theorem dX2_joinCorners_1 : decode cX2_joinCorners 1 = .ok (.getfield 21, 3) := by decide +kernel
theorem dX2_joinCorners_4 : decode cX2_joinCorners 4 = .ok (.iconst 0, 1) := by decide +kernel
theorem dX2_joinCorners_5 : decode cX2_joinCorners 5 = .ok (.invokestatic 61, 3) := by decide +kernel
theorem dX2_joinCorners_8 : decode cX2_joinCorners 8 = .ok (.aload_n 0, 1) := by decide +kernel
theorem dX2_joinCorners_9 : decode cX2_joinCorners 9 = .ok (.getfield 24, 3) := by decide +kernel
theorem dX2_joinCorners_12 : decode cX2_joinCorners 12 = .ok (.iconst 0, 1) := by decide +kernel
theorem dX2_joinCorners_13 : decode cX2_joinCorners 13 = .ok (.invokestatic 61, 3) := by decide +kernel
theorem dX2_joinCorners_16 : decode cX2_joinCorners 16 = .ok (.iconst 0, 1) := by decide +kernel
theorem dX2_joinCorners_17 : decode cX2_joinCorners 17 = .ok (.istore 4, 2) := by decide +kernel
theorem dX2_joinCorners_19 : decode cX2_joinCorners 19 = .ok (.iload 4, 2) := by decide +kernel
theorem dX2_joinCorners_21 : decode cX2_joinCorners 21 = .ok (.aload_n 1, 1) := by decide +kernel
theorem dX2_joinCorners_22 : decode cX2_joinCorners 22 = .ok (.getfield 46, 3) := by decide +kernel
theorem dX2_joinCorners_25 : decode cX2_joinCorners 25 = .ok (.if_icmp .ge 105, 3) := by decide +kernel
theorem dX2_joinCorners_28 : decode cX2_joinCorners 28 = .ok (.iload 4, 2) := by decide +kernel
theorem dX2_joinCorners_30 : decode cX2_joinCorners 30 = .ok (.iload_n 3, 1) := by decide +kernel
theorem dX2_joinCorners_31 : decode cX2_joinCorners 31 = .ok (.if_icmp .eq 93, 3) := by decide +kernel
theorem dX2_joinCorners_124 : decode cX2_joinCorners 124 = .ok (.iinc 4 1, 3) := by decide +kernel
theorem dX2_joinCorners_127 : decode cX2_joinCorners 127 = .ok (.goto (-108), 3) := by decide +kernel
theorem dX2_joinCorners_34 : decode cX2_joinCorners 34 = .ok (.aload_n 1, 1) := by decide +kernel
theorem dX2_joinCorners_35 : decode cX2_joinCorners 35 = .ok (.getfield 67, 3) := by decide +kernel
theorem dX2_joinCorners_38 : decode cX2_joinCorners 38 = .ok (.iload 4, 2) := by decide +kernel
theorem dX2_joinCorners_40 : decode cX2_joinCorners 40 = .ok (.iaload, 1) := by decide +kernel
theorem dX2_joinCorners_41 : decode cX2_joinCorners 41 = .ok (.istore 5, 2) := by decide +kernel
theorem dX2_joinCorners_43 : decode cX2_joinCorners 43 = .ok (.aload_n 1, 1) := by decide +kernel
theorem dX2_joinCorners_44 : decode cX2_joinCorners 44 = .ok (.getfield 70, 3) := by decide +kernel
theorem dX2_joinCorners_47 : decode cX2_joinCorners 47 = .ok (.iload 4, 2) := by decide +kernel
theorem dX2_joinCorners_49 : decode cX2_joinCorners 49 = .ok (.iaload, 1) := by decide +kernel
theorem dX2_joinCorners_50 : decode cX2_joinCorners 50 = .ok (.istore 6, 2) := by decide +kernel
theorem dX2_joinCorners_52 : decode cX2_joinCorners 52 = .ok (.aload_n 2, 1) := by decide +kernel
theorem dX2_joinCorners_53 : decode cX2_joinCorners 53 = .ok (.iload 4, 2) := by decide +kernel
theorem dX2_joinCorners_55 : decode cX2_joinCorners 55 = .ok (.iaload, 1) := by decide +kernel
theorem dX2_joinCorners_56 : decode cX2_joinCorners 56 = .ok (.iconst 2, 1) := by decide +kernel
theorem dX2_joinCorners_57 : decode cX2_joinCorners 57 = .ok (.if_icmp .eq 31, 3) := by decide +kernel
theorem dX2_joinCorners_88 : decode cX2_joinCorners 88 = .ok (.aload_n 2, 1) := by decide +kernel
theorem dX2_joinCorners_89 : decode cX2_joinCorners 89 = .ok (.iload 4, 2) := by decide +kernel
theorem dX2_joinCorners_91 : decode cX2_joinCorners 91 = .ok (.iaload, 1) := by decide +kernel
theorem dX2_joinCorners_92 : decode cX2_joinCorners 92 = .ok (.iconst 1, 1) := by decide +kernel
theorem dX2_joinCorners_93 : decode cX2_joinCorners 93 = .ok (.if_icmp .eq 31, 3) := by decide +kernel
theorem dX2_joinCorners_96 : decode cX2_joinCorners 96 = .ok (.aload_n 0, 1) := by decide +kernel
theorem dX2_joinCorners_97 : decode cX2_joinCorners 97 = .ok (.getfield 21, 3) := by decide +kernel
theorem dX2_joinCorners_100 : decode cX2_joinCorners 100 = .ok (.iload 6, 2) := by decide +kernel
theorem dX2_joinCorners_102 : decode cX2_joinCorners 102 = .ok (.dup2, 1) := by decide +kernel
theorem dX2_joinCorners_103 : decode cX2_joinCorners 103 = .ok (.iaload, 1) := by decide +kernel
theorem dX2_joinCorners_104 : decode cX2_joinCorners 104 = .ok (.iconst 1, 1) := by decide +kernel
theorem dX2_joinCorners_105 : decode cX2_joinCorners 105 = .ok (.iload 5, 2) := by decide +kernel
theorem dX2_joinCorners_107 : decode cX2_joinCorners 107 = .ok (.ishl, 1) := by decide +kernel
theorem dX2_joinCorners_108 : decode cX2_joinCorners 108 = .ok (.ior, 1) := by decide +kernel
theorem dX2_joinCorners_109 : decode cX2_joinCorners 109 = .ok (.iastore, 1) := by decide +kernel
theorem dX2_joinCorners_110 : decode cX2_joinCorners 110 = .ok (.aload_n 0, 1) := by decide +kernel
theorem dX2_joinCorners_111 : decode cX2_joinCorners 111 = .ok (.getfield 24, 3) := by decide +kernel
theorem dX2_joinCorners_114 : decode cX2_joinCorners 114 = .ok (.iload 5, 2) := by decide +kernel
theorem dX2_joinCorners_116 : decode cX2_joinCorners 116 = .ok (.dup2, 1) := by decide +kernel
theorem dX2_joinCorners_117 : decode cX2_joinCorners 117 = .ok (.iaload, 1) := by decide +kernel
theorem dX2_joinCorners_118 : decode cX2_joinCorners 118 = .ok (.iconst 1, 1) := by decide +kernel
theorem dX2_joinCorners_119 : decode cX2_joinCorners 119 = .ok (.iload 6, 2) := by decide +kernel
theorem dX2_joinCorners_121 : decode cX2_joinCorners 121 = .ok (.ishl, 1) := by decide +kernel
theorem dX2_joinCorners_122 : decode cX2_joinCorners 122 = .ok (.ior, 1) := by decide +kernel
theorem dX2_joinCorners_123 : decode cX2_joinCorners 123 = .ok (.iastore, 1) := by decide +kernel
theorem dX2_joinCorners_60 : decode cX2_joinCorners 60 = .ok (.aload_n 0, 1) := by decide +kernel
theorem dX2_joinCorners_61 : decode cX2_joinCorners 61 = .ok (.getfield 21, 3) := by decide +kernel
theorem dX2_joinCorners_64 : decode cX2_joinCorners 64 = .ok (.iload 5, 2) := by decide +kernel
theorem dX2_joinCorners_66 : decode cX2_joinCorners 66 = .ok (.dup2, 1) := by decide +kernel
theorem dX2_joinCorners_67 : decode cX2_joinCorners 67 = .ok (.iaload, 1) := by decide +kernel
theorem dX2_joinCorners_68 : decode cX2_joinCorners 68 = .ok (.iconst 1, 1) := by decide +kernel
theorem dX2_joinCorners_69 : decode cX2_joinCorners 69 = .ok (.iload 6, 2) := by decide +kernel
theorem dX2_joinCorners_71 : decode cX2_joinCorners 71 = .ok (.ishl, 1) := by decide +kernel
theorem dX2_joinCorners_72 : decode cX2_joinCorners 72 = .ok (.ior, 1) := by decide +kernel
theorem dX2_joinCorners_73 : decode cX2_joinCorners 73 = .ok (.iastore, 1) := by decide +kernel
theorem dX2_joinCorners_74 : decode cX2_joinCorners 74 = .ok (.aload_n 0, 1) := by decide +kernel
theorem dX2_joinCorners_75 : decode cX2_joinCorners 75 = .ok (.getfield 24, 3) := by decide +kernel
theorem dX2_joinCorners_78 : decode cX2_joinCorners 78 = .ok (.iload 6, 2) := by decide +kernel
theorem dX2_joinCorners_80 : decode cX2_joinCorners 80 = .ok (.dup2, 1) := by decide +kernel
theorem dX2_joinCorners_81 : decode cX2_joinCorners 81 = .ok (.iaload, 1) := by decide +kernel
theorem dX2_joinCorners_82 : decode cX2_joinCorners 82 = .ok (.iconst 1, 1) := by decide +kernel
theorem dX2_joinCorners_83 : decode cX2_joinCorners 83 = .ok (.iload 5, 2) := by decide +kernel
theorem dX2_joinCorners_85 : decode cX2_joinCorners 85 = .ok (.ishl, 1) := by decide +kernel
theorem dX2_joinCorners_86 : decode cX2_joinCorners 86 = .ok (.ior, 1) := by decide +kernel
theorem dX2_joinCorners_87 : decode cX2_joinCorners 87 = .ok (.iastore, 1) := by decide +kernel
theorem dX2_joinCorners_130 : decode cX2_joinCorners 130 = .ok (.return_, 1) := by decide +kernel
theorem dX2_isWhole_0 : decode cX2_isWhole 0 = .ok (.aload_n 0, 1) := by decide +kernel
theorem dX2_isWhole_1 : decode cX2_isWhole 1 = .ok (.aload_n 1, 1) := by decide +kernel
theorem dX2_isWhole_2 : decode cX2_isWhole 2 = .ok (.aload_n 2, 1) := by decide +kernel
theorem dX2_isWhole_3 : decode cX2_isWhole 3 = .ok (.iconst (-1), 1) := by decide +kernel
theorem dX2_isWhole_4 : decode cX2_isWhole 4 = .ok (.invokevirtual 49, 3) := by decide +kernel
theorem dX2_isWhole_7 : decode cX2_isWhole 7 = .ok (.aload_n 1, 1) := by decide +kernel
theorem dX2_isWhole_8 : decode cX2_isWhole 8 = .ok (.invokevirtual 57, 3) := by decide +kernel
theorem dX2_isWhole_11 : decode cX2_isWhole 11 = .ok (.istore_n 3, 1) := by decide +kernel
theorem dX2_isWhole_12 : decode cX2_isWhole 12 = .ok (.aload_n 0, 1) := by decide +kernel
theorem dX2_isWhole_13 : decode cX2_isWhole 13 = .ok (.aload_n 1, 1) := by decide +kernel
theorem dX2_isWhole_14 : decode cX2_isWhole 14 = .ok (.aload_n 0, 1) := by decide +kernel
theorem dX2_isWhole_15 : decode cX2_isWhole 15 = .ok (.getfield 21, 3) := by decide +kernel
theorem dX2_isWhole_18 : decode cX2_isWhole 18 = .ok (.iconst 0, 1) := by decide +kernel
theorem dX2_isWhole_19 : decode cX2_isWhole 19 = .ok (.invokevirtual 53, 3) := by decide +kernel
theorem dX2_isWhole_22 : decode cX2_isWhole 22 = .ok (.iload_n 3, 1) := by decide +kernel
theorem dX2_isWhole_23 : decode cX2_isWhole 23 = .ok (.if_icmp .ne 21, 3) := by decide +kernel
theorem dX2_isWhole_44 : decode cX2_isWhole 44 = .ok (.iconst 0, 1) := by decide +kernel
theorem dX2_isWhole_45 : decode cX2_isWhole 45 = .ok (.ireturn, 1) := by decide +kernel
theorem dX2_isWhole_26 : decode cX2_isWhole 26 = .ok (.aload_n 0, 1) := by decide +kernel
theorem dX2_isWhole_27 : decode cX2_isWhole 27 = .ok (.aload_n 1, 1) := by decide +kernel
theorem dX2_isWhole_28 : decode cX2_isWhole 28 = .ok (.aload_n 0, 1) := by decide +kernel
theorem dX2_isWhole_29 : decode cX2_isWhole 29 = .ok (.getfield 24, 3) := by decide +kernel
theorem dX2_isWhole_32 : decode cX2_isWhole 32 = .ok (.iconst 0, 1) := by decide +kernel
theorem dX2_isWhole_33 : decode cX2_isWhole 33 = .ok (.invokevirtual 53, 3) := by decide +kernel
theorem dX2_isWhole_36 : decode cX2_isWhole 36 = .ok (.iload_n 3, 1) := by decide +kernel
theorem dX2_isWhole_37 : decode cX2_isWhole 37 = .ok (.if_icmp .ne 7, 3) := by decide +kernel
theorem dX2_isWhole_40 : decode cX2_isWhole 40 = .ok (.iconst 1, 1) := by decide +kernel
theorem dX2_isWhole_41 : decode cX2_isWhole 41 = .ok (.goto 4, 3) := by decide +kernel
theorem dX2_reachedFrom_0 : decode cX2_reachedFrom 0 = .ok (.aload_n 0, 1) := by decide +kernel
theorem dX2_reachedFrom_1 : decode cX2_reachedFrom 1 = .ok (.aload_n 1, 1) := by decide +kernel
theorem dX2_reachedFrom_2 : decode cX2_reachedFrom 2 = .ok (.aload_n 2, 1) := by decide +kernel
theorem dX2_reachedFrom_3 : decode cX2_reachedFrom 3 = .ok (.iconst (-1), 1) := by decide +kernel
theorem dX2_reachedFrom_4 : decode cX2_reachedFrom 4 = .ok (.invokevirtual 49, 3) := by decide +kernel
theorem dX2_reachedFrom_7 : decode cX2_reachedFrom 7 = .ok (.aload_n 0, 1) := by decide +kernel
theorem dX2_reachedFrom_8 : decode cX2_reachedFrom 8 = .ok (.aload_n 1, 1) := by decide +kernel
theorem dX2_reachedFrom_9 : decode cX2_reachedFrom 9 = .ok (.aload_n 0, 1) := by decide +kernel
theorem dX2_reachedFrom_10 : decode cX2_reachedFrom 10 = .ok (.getfield 21, 3) := by decide +kernel
theorem dX2_reachedFrom_13 : decode cX2_reachedFrom 13 = .ok (.iload_n 3, 1) := by decide +kernel
theorem dX2_reachedFrom_14 : decode cX2_reachedFrom 14 = .ok (.invokevirtual 53, 3) := by decide +kernel
theorem dX2_reachedFrom_17 : decode cX2_reachedFrom 17 = .ok (.ireturn, 1) := by decide +kernel
theorem dX2_goToward_0 : decode cX2_goToward 0 = .ok (.aload_n 0, 1) := by decide +kernel
theorem dX2_goToward_1 : decode cX2_goToward 1 = .ok (.getfield 9, 3) := by decide +kernel
theorem dX2_goToward_4 : decode cX2_goToward 4 = .ok (.ldc 76, 2) := by decide +kernel
theorem dX2_goToward_6 : decode cX2_goToward 6 = .ok (.invokestatic 61, 3) := by decide +kernel
theorem dX2_goToward_9 : decode cX2_goToward 9 = .ok (.aload_n 0, 1) := by decide +kernel
theorem dX2_goToward_10 : decode cX2_goToward 10 = .ok (.getfield 9, 3) := by decide +kernel
theorem dX2_goToward_13 : decode cX2_goToward 13 = .ok (.iload_n 3, 1) := by decide +kernel
theorem dX2_goToward_14 : decode cX2_goToward 14 = .ok (.iconst 0, 1) := by decide +kernel
theorem dX2_goToward_15 : decode cX2_goToward 15 = .ok (.iastore, 1) := by decide +kernel
theorem dX2_goToward_16 : decode cX2_goToward 16 = .ok (.iconst 1, 1) := by decide +kernel
theorem dX2_goToward_17 : decode cX2_goToward 17 = .ok (.iload_n 3, 1) := by decide +kernel
theorem dX2_goToward_18 : decode cX2_goToward 18 = .ok (.ishl, 1) := by decide +kernel
theorem dX2_goToward_19 : decode cX2_goToward 19 = .ok (.istore 5, 2) := by decide +kernel
theorem dX2_goToward_21 : decode cX2_goToward 21 = .ok (.iconst 0, 1) := by decide +kernel
theorem dX2_goToward_22 : decode cX2_goToward 22 = .ok (.istore 6, 2) := by decide +kernel
theorem dX2_goToward_24 : decode cX2_goToward 24 = .ok (.iload 6, 2) := by decide +kernel
theorem dX2_goToward_26 : decode cX2_goToward 26 = .ok (.aload_n 1, 1) := by decide +kernel
theorem dX2_goToward_27 : decode cX2_goToward 27 = .ok (.getfield 73, 3) := by decide +kernel
theorem dX2_goToward_30 : decode cX2_goToward 30 = .ok (.if_icmp .ge 170, 3) := by decide +kernel
theorem dX2_goToward_33 : decode cX2_goToward 33 = .ok (.iload 5, 2) := by decide +kernel
theorem dX2_goToward_35 : decode cX2_goToward 35 = .ok (.ifCond .eq 165, 3) := by decide +kernel
theorem dX2_goToward_38 : decode cX2_goToward 38 = .ok (.aload_n 0, 1) := by decide +kernel
theorem dX2_goToward_39 : decode cX2_goToward 39 = .ok (.aload_n 1, 1) := by decide +kernel
theorem dX2_goToward_40 : decode cX2_goToward 40 = .ok (.iload 5, 2) := by decide +kernel
theorem dX2_goToward_42 : decode cX2_goToward 42 = .ok (.invokevirtual 77, 3) := by decide +kernel
theorem dX2_goToward_45 : decode cX2_goToward 45 = .ok (.istore 7, 2) := by decide +kernel
theorem dX2_goToward_47 : decode cX2_goToward 47 = .ok (.iload 5, 2) := by decide +kernel
theorem dX2_goToward_49 : decode cX2_goToward 49 = .ok (.iconst 1, 1) := by decide +kernel
theorem dX2_goToward_50 : decode cX2_goToward 50 = .ok (.iload 7, 2) := by decide +kernel
theorem dX2_goToward_52 : decode cX2_goToward 52 = .ok (.ishl, 1) := by decide +kernel
theorem dX2_goToward_53 : decode cX2_goToward 53 = .ok (.iconst (-1), 1) := by decide +kernel
theorem dX2_goToward_54 : decode cX2_goToward 54 = .ok (.ixor, 1) := by decide +kernel
theorem dX2_goToward_55 : decode cX2_goToward 55 = .ok (.iand, 1) := by decide +kernel
theorem dX2_goToward_56 : decode cX2_goToward 56 = .ok (.istore 5, 2) := by decide +kernel
theorem dX2_goToward_58 : decode cX2_goToward 58 = .ok (.aload_n 1, 1) := by decide +kernel
theorem dX2_goToward_59 : decode cX2_goToward 59 = .ok (.getfield 81, 3) := by decide +kernel
theorem dX2_goToward_62 : decode cX2_goToward 62 = .ok (.iload 7, 2) := by decide +kernel
theorem dX2_goToward_64 : decode cX2_goToward 64 = .ok (.iaload, 1) := by decide +kernel
theorem dX2_goToward_65 : decode cX2_goToward 65 = .ok (.istore 8, 2) := by decide +kernel
theorem dX2_goToward_67 : decode cX2_goToward 67 = .ok (.iload 8, 2) := by decide +kernel
theorem dX2_goToward_69 : decode cX2_goToward 69 = .ok (.aload_n 1, 1) := by decide +kernel
theorem dX2_goToward_70 : decode cX2_goToward 70 = .ok (.getfield 81, 3) := by decide +kernel
theorem dX2_goToward_73 : decode cX2_goToward 73 = .ok (.iload 7, 2) := by decide +kernel
theorem dX2_goToward_75 : decode cX2_goToward 75 = .ok (.iconst 1, 1) := by decide +kernel
theorem dX2_goToward_76 : decode cX2_goToward 76 = .ok (.iadd, 1) := by decide +kernel
theorem dX2_goToward_77 : decode cX2_goToward 77 = .ok (.iaload, 1) := by decide +kernel
theorem dX2_goToward_78 : decode cX2_goToward 78 = .ok (.if_icmp .ge 116, 3) := by decide +kernel
theorem dX2_goToward_81 : decode cX2_goToward 81 = .ok (.aload_n 1, 1) := by decide +kernel
theorem dX2_goToward_82 : decode cX2_goToward 82 = .ok (.getfield 84, 3) := by decide +kernel
theorem dX2_goToward_85 : decode cX2_goToward 85 = .ok (.iload 8, 2) := by decide +kernel
theorem dX2_goToward_87 : decode cX2_goToward 87 = .ok (.iaload, 1) := by decide +kernel
theorem dX2_goToward_88 : decode cX2_goToward 88 = .ok (.istore 9, 2) := by decide +kernel
theorem dX2_goToward_90 : decode cX2_goToward 90 = .ok (.aload_n 1, 1) := by decide +kernel
theorem dX2_goToward_91 : decode cX2_goToward 91 = .ok (.iload 9, 2) := by decide +kernel
theorem dX2_goToward_93 : decode cX2_goToward 93 = .ok (.iload 7, 2) := by decide +kernel
theorem dX2_goToward_95 : decode cX2_goToward 95 = .ok (.invokevirtual 87, 3) := by decide +kernel
theorem dX2_goToward_98 : decode cX2_goToward 98 = .ok (.istore 10, 2) := by decide +kernel
theorem dX2_goToward_100 : decode cX2_goToward 100 = .ok (.aload_n 1, 1) := by decide +kernel
theorem dX2_goToward_101 : decode cX2_goToward 101 = .ok (.getfield 91, 3) := by decide +kernel
theorem dX2_goToward_104 : decode cX2_goToward 104 = .ok (.iload 9, 2) := by decide +kernel
theorem dX2_goToward_106 : decode cX2_goToward 106 = .ok (.iaload, 1) := by decide +kernel
theorem dX2_goToward_107 : decode cX2_goToward 107 = .ok (.istore 11, 2) := by decide +kernel
theorem dX2_goToward_109 : decode cX2_goToward 109 = .ok (.aload_n 1, 1) := by decide +kernel
theorem dX2_goToward_110 : decode cX2_goToward 110 = .ok (.aload_n 2, 1) := by decide +kernel
theorem dX2_goToward_111 : decode cX2_goToward 111 = .ok (.iload 9, 2) := by decide +kernel
theorem dX2_goToward_113 : decode cX2_goToward 113 = .ok (.iload 10, 2) := by decide +kernel
theorem dX2_goToward_115 : decode cX2_goToward 115 = .ok (.invokevirtual 94, 3) := by decide +kernel
theorem dX2_goToward_118 : decode cX2_goToward 118 = .ok (.ifCond .ne 24, 3) := by decide +kernel
theorem dX2_goToward_121 : decode cX2_goToward 121 = .ok (.iload 4, 2) := by decide +kernel
theorem dX2_goToward_123 : decode cX2_goToward 123 = .ok (.iload 9, 2) := by decide +kernel
theorem dX2_goToward_125 : decode cX2_goToward 125 = .ok (.ishr, 1) := by decide +kernel
theorem dX2_goToward_126 : decode cX2_goToward 126 = .ok (.iconst 1, 1) := by decide +kernel
theorem dX2_goToward_127 : decode cX2_goToward 127 = .ok (.iand, 1) := by decide +kernel
theorem dX2_goToward_128 : decode cX2_goToward 128 = .ok (.ifCond .eq 10, 3) := by decide +kernel
theorem dX2_goToward_138 : decode cX2_goToward 138 = .ok (.ldc 76, 2) := by decide +kernel
theorem dX2_goToward_140 : decode cX2_goToward 140 = .ok (.istore 11, 2) := by decide +kernel
theorem dX2_goToward_142 : decode cX2_goToward 142 = .ok (.aload_n 0, 1) := by decide +kernel
theorem dX2_goToward_143 : decode cX2_goToward 143 = .ok (.getfield 9, 3) := by decide +kernel
theorem dX2_goToward_146 : decode cX2_goToward 146 = .ok (.iload 7, 2) := by decide +kernel
theorem dX2_goToward_148 : decode cX2_goToward 148 = .ok (.iaload, 1) := by decide +kernel
theorem dX2_goToward_149 : decode cX2_goToward 149 = .ok (.iload 11, 2) := by decide +kernel
theorem dX2_goToward_151 : decode cX2_goToward 151 = .ok (.iadd, 1) := by decide +kernel
theorem dX2_goToward_152 : decode cX2_goToward 152 = .ok (.aload_n 0, 1) := by decide +kernel
theorem dX2_goToward_153 : decode cX2_goToward 153 = .ok (.getfield 9, 3) := by decide +kernel
theorem dX2_goToward_156 : decode cX2_goToward 156 = .ok (.iload 10, 2) := by decide +kernel
theorem dX2_goToward_158 : decode cX2_goToward 158 = .ok (.iaload, 1) := by decide +kernel
theorem dX2_goToward_159 : decode cX2_goToward 159 = .ok (.if_icmp .ge 29, 3) := by decide +kernel
theorem dX2_goToward_188 : decode cX2_goToward 188 = .ok (.iinc 8 1, 3) := by decide +kernel
theorem dX2_goToward_191 : decode cX2_goToward 191 = .ok (.goto (-124), 3) := by decide +kernel
theorem dX2_goToward_162 : decode cX2_goToward 162 = .ok (.aload_n 0, 1) := by decide +kernel
theorem dX2_goToward_163 : decode cX2_goToward 163 = .ok (.getfield 9, 3) := by decide +kernel
theorem dX2_goToward_166 : decode cX2_goToward 166 = .ok (.iload 10, 2) := by decide +kernel
theorem dX2_goToward_168 : decode cX2_goToward 168 = .ok (.aload_n 0, 1) := by decide +kernel
theorem dX2_goToward_169 : decode cX2_goToward 169 = .ok (.getfield 9, 3) := by decide +kernel
theorem dX2_goToward_172 : decode cX2_goToward 172 = .ok (.iload 7, 2) := by decide +kernel
theorem dX2_goToward_174 : decode cX2_goToward 174 = .ok (.iaload, 1) := by decide +kernel
theorem dX2_goToward_175 : decode cX2_goToward 175 = .ok (.iload 11, 2) := by decide +kernel
theorem dX2_goToward_177 : decode cX2_goToward 177 = .ok (.iadd, 1) := by decide +kernel
theorem dX2_goToward_178 : decode cX2_goToward 178 = .ok (.iastore, 1) := by decide +kernel
theorem dX2_goToward_179 : decode cX2_goToward 179 = .ok (.iload 5, 2) := by decide +kernel
theorem dX2_goToward_181 : decode cX2_goToward 181 = .ok (.iconst 1, 1) := by decide +kernel
theorem dX2_goToward_182 : decode cX2_goToward 182 = .ok (.iload 10, 2) := by decide +kernel
theorem dX2_goToward_184 : decode cX2_goToward 184 = .ok (.ishl, 1) := by decide +kernel
theorem dX2_goToward_185 : decode cX2_goToward 185 = .ok (.ior, 1) := by decide +kernel
theorem dX2_goToward_186 : decode cX2_goToward 186 = .ok (.istore 5, 2) := by decide +kernel
theorem dX2_goToward_131 : decode cX2_goToward 131 = .ok (.iconst 2, 1) := by decide +kernel
theorem dX2_goToward_132 : decode cX2_goToward 132 = .ok (.iload 11, 2) := by decide +kernel
theorem dX2_goToward_134 : decode cX2_goToward 134 = .ok (.imul, 1) := by decide +kernel
theorem dX2_goToward_135 : decode cX2_goToward 135 = .ok (.goto 5, 3) := by decide +kernel
theorem dX2_goToward_194 : decode cX2_goToward 194 = .ok (.iinc 6 1, 3) := by decide +kernel
theorem dX2_goToward_197 : decode cX2_goToward 197 = .ok (.goto (-173), 3) := by decide +kernel
theorem dX2_goToward_200 : decode cX2_goToward 200 = .ok (.return_, 1) := by decide +kernel
theorem dX2_between_0 : decode cX2_between 0 = .ok (.aload_n 0, 1) := by decide +kernel
theorem dX2_between_1 : decode cX2_between 1 = .ok (.aload_n 1, 1) := by decide +kernel
theorem dX2_between_2 : decode cX2_between 2 = .ok (.aload_n 2, 1) := by decide +kernel
theorem dX2_between_3 : decode cX2_between 3 = .ok (.iload 4, 2) := by decide +kernel
theorem dX2_between_5 : decode cX2_between 5 = .ok (.iconst 0, 1) := by decide +kernel
theorem dX2_between_6 : decode cX2_between 6 = .ok (.invokevirtual 98, 3) := by decide +kernel
theorem dX2_between_9 : decode cX2_between 9 = .ok (.aload_n 0, 1) := by decide +kernel
theorem dX2_between_10 : decode cX2_between 10 = .ok (.getfield 9, 3) := by decide +kernel
theorem dX2_between_13 : decode cX2_between 13 = .ok (.iload_n 3, 1) := by decide +kernel
theorem dX2_between_14 : decode cX2_between 14 = .ok (.iaload, 1) := by decide +kernel
theorem dX2_between_15 : decode cX2_between 15 = .ok (.ireturn, 1) := by decide +kernel
theorem dX2_engineTo_0 : decode cX2_engineTo 0 = .ok (.aload_n 0, 1) := by decide +kernel
theorem dX2_engineTo_1 : decode cX2_engineTo 1 = .ok (.aload_n 1, 1) := by decide +kernel
theorem dX2_engineTo_2 : decode cX2_engineTo 2 = .ok (.aload_n 2, 1) := by decide +kernel
theorem dX2_engineTo_3 : decode cX2_engineTo 3 = .ok (.iload_n 3, 1) := by decide +kernel
theorem dX2_engineTo_4 : decode cX2_engineTo 4 = .ok (.aload_n 1, 1) := by decide +kernel
theorem dX2_engineTo_5 : decode cX2_engineTo 5 = .ok (.getfield 102, 3) := by decide +kernel
theorem dX2_engineTo_8 : decode cX2_engineTo 8 = .ok (.invokevirtual 98, 3) := by decide +kernel
theorem dX2_engineTo_11 : decode cX2_engineTo 11 = .ok (.aload_n 0, 1) := by decide +kernel
theorem dX2_engineTo_12 : decode cX2_engineTo 12 = .ok (.getfield 9, 3) := by decide +kernel
theorem dX2_engineTo_15 : decode cX2_engineTo 15 = .ok (.aload_n 1, 1) := by decide +kernel
theorem dX2_engineTo_16 : decode cX2_engineTo 16 = .ok (.getfield 105, 3) := by decide +kernel
theorem dX2_engineTo_19 : decode cX2_engineTo 19 = .ok (.iaload, 1) := by decide +kernel
theorem dX2_engineTo_20 : decode cX2_engineTo 20 = .ok (.ireturn, 1) := by decide +kernel
theorem dX2_measureAll_0 : decode cX2_measureAll 0 = .ok (.iconst 0, 1) := by decide +kernel
theorem dX2_measureAll_1 : decode cX2_measureAll 1 = .ok (.istore 4, 2) := by decide +kernel
theorem dX2_measureAll_3 : decode cX2_measureAll 3 = .ok (.iload 4, 2) := by decide +kernel
theorem dX2_measureAll_5 : decode cX2_measureAll 5 = .ok (.aload_n 1, 1) := by decide +kernel
theorem dX2_measureAll_6 : decode cX2_measureAll 6 = .ok (.getfield 73, 3) := by decide +kernel
theorem dX2_measureAll_9 : decode cX2_measureAll 9 = .ok (.if_icmp .ge 53, 3) := by decide +kernel
theorem dX2_measureAll_12 : decode cX2_measureAll 12 = .ok (.aload_n 0, 1) := by decide +kernel
theorem dX2_measureAll_13 : decode cX2_measureAll 13 = .ok (.aload_n 1, 1) := by decide +kernel
theorem dX2_measureAll_14 : decode cX2_measureAll 14 = .ok (.aload_n 2, 1) := by decide +kernel
theorem dX2_measureAll_15 : decode cX2_measureAll 15 = .ok (.iload 4, 2) := by decide +kernel
theorem dX2_measureAll_17 : decode cX2_measureAll 17 = .ok (.iconst 0, 1) := by decide +kernel
theorem dX2_measureAll_18 : decode cX2_measureAll 18 = .ok (.invokevirtual 98, 3) := by decide +kernel
theorem dX2_measureAll_21 : decode cX2_measureAll 21 = .ok (.iconst 0, 1) := by decide +kernel
theorem dX2_measureAll_22 : decode cX2_measureAll 22 = .ok (.istore 5, 2) := by decide +kernel
theorem dX2_measureAll_24 : decode cX2_measureAll 24 = .ok (.iload 5, 2) := by decide +kernel
theorem dX2_measureAll_26 : decode cX2_measureAll 26 = .ok (.aload_n 1, 1) := by decide +kernel
theorem dX2_measureAll_27 : decode cX2_measureAll 27 = .ok (.getfield 73, 3) := by decide +kernel
theorem dX2_measureAll_30 : decode cX2_measureAll 30 = .ok (.if_icmp .ge 26, 3) := by decide +kernel
theorem dX2_measureAll_33 : decode cX2_measureAll 33 = .ok (.aload_n 3, 1) := by decide +kernel
theorem dX2_measureAll_34 : decode cX2_measureAll 34 = .ok (.iload 5, 2) := by decide +kernel
theorem dX2_measureAll_36 : decode cX2_measureAll 36 = .ok (.bipush 16, 2) := by decide +kernel
theorem dX2_measureAll_38 : decode cX2_measureAll 38 = .ok (.imul, 1) := by decide +kernel
theorem dX2_measureAll_39 : decode cX2_measureAll 39 = .ok (.iload 4, 2) := by decide +kernel
theorem dX2_measureAll_41 : decode cX2_measureAll 41 = .ok (.iadd, 1) := by decide +kernel
theorem dX2_measureAll_42 : decode cX2_measureAll 42 = .ok (.aload_n 0, 1) := by decide +kernel
theorem dX2_measureAll_43 : decode cX2_measureAll 43 = .ok (.getfield 9, 3) := by decide +kernel
theorem dX2_measureAll_46 : decode cX2_measureAll 46 = .ok (.iload 5, 2) := by decide +kernel
theorem dX2_measureAll_48 : decode cX2_measureAll 48 = .ok (.iaload, 1) := by decide +kernel
theorem dX2_measureAll_49 : decode cX2_measureAll 49 = .ok (.iastore, 1) := by decide +kernel
theorem dX2_measureAll_50 : decode cX2_measureAll 50 = .ok (.iinc 5 1, 3) := by decide +kernel
theorem dX2_measureAll_53 : decode cX2_measureAll 53 = .ok (.goto (-29), 3) := by decide +kernel
theorem dX2_measureAll_56 : decode cX2_measureAll 56 = .ok (.iinc 4 1, 3) := by decide +kernel
theorem dX2_measureAll_59 : decode cX2_measureAll 59 = .ok (.goto (-56), 3) := by decide +kernel
theorem dX2_measureAll_62 : decode cX2_measureAll 62 = .ok (.return_, 1) := by decide +kernel
theorem dX2_firstAlleyOn_0 : decode cX2_firstAlleyOn 0 = .ok (.aload_n 0, 1) := by decide +kernel
theorem dX2_firstAlleyOn_1 : decode cX2_firstAlleyOn 1 = .ok (.getfield 9, 3) := by decide +kernel
theorem dX2_firstAlleyOn_4 : decode cX2_firstAlleyOn 4 = .ok (.iload_n 3, 1) := by decide +kernel
theorem dX2_firstAlleyOn_5 : decode cX2_firstAlleyOn 5 = .ok (.iaload, 1) := by decide +kernel
theorem dX2_firstAlleyOn_6 : decode cX2_firstAlleyOn 6 = .ok (.ldc 76, 2) := by decide +kernel
theorem dX2_firstAlleyOn_8 : decode cX2_firstAlleyOn 8 = .ok (.if_icmp .lt 5, 3) := by decide +kernel
theorem dX2_firstAlleyOn_13 : decode cX2_firstAlleyOn 13 = .ok (.aload_n 1, 1) := by decide +kernel
theorem dX2_firstAlleyOn_14 : decode cX2_firstAlleyOn 14 = .ok (.getfield 81, 3) := by decide +kernel
theorem dX2_firstAlleyOn_17 : decode cX2_firstAlleyOn 17 = .ok (.iload_n 3, 1) := by decide +kernel
theorem dX2_firstAlleyOn_18 : decode cX2_firstAlleyOn 18 = .ok (.iaload, 1) := by decide +kernel
theorem dX2_firstAlleyOn_19 : decode cX2_firstAlleyOn 19 = .ok (.istore 4, 2) := by decide +kernel
theorem dX2_firstAlleyOn_21 : decode cX2_firstAlleyOn 21 = .ok (.iload 4, 2) := by decide +kernel
theorem dX2_firstAlleyOn_23 : decode cX2_firstAlleyOn 23 = .ok (.aload_n 1, 1) := by decide +kernel
theorem dX2_firstAlleyOn_24 : decode cX2_firstAlleyOn 24 = .ok (.getfield 81, 3) := by decide +kernel
theorem dX2_firstAlleyOn_27 : decode cX2_firstAlleyOn 27 = .ok (.iload_n 3, 1) := by decide +kernel
theorem dX2_firstAlleyOn_28 : decode cX2_firstAlleyOn 28 = .ok (.iconst 1, 1) := by decide +kernel
theorem dX2_firstAlleyOn_29 : decode cX2_firstAlleyOn 29 = .ok (.iadd, 1) := by decide +kernel
theorem dX2_firstAlleyOn_30 : decode cX2_firstAlleyOn 30 = .ok (.iaload, 1) := by decide +kernel
theorem dX2_firstAlleyOn_31 : decode cX2_firstAlleyOn 31 = .ok (.if_icmp .ge 65, 3) := by decide +kernel
theorem dX2_firstAlleyOn_34 : decode cX2_firstAlleyOn 34 = .ok (.aload_n 1, 1) := by decide +kernel
theorem dX2_firstAlleyOn_35 : decode cX2_firstAlleyOn 35 = .ok (.getfield 84, 3) := by decide +kernel
theorem dX2_firstAlleyOn_38 : decode cX2_firstAlleyOn 38 = .ok (.iload 4, 2) := by decide +kernel
theorem dX2_firstAlleyOn_40 : decode cX2_firstAlleyOn 40 = .ok (.iaload, 1) := by decide +kernel
theorem dX2_firstAlleyOn_41 : decode cX2_firstAlleyOn 41 = .ok (.istore 5, 2) := by decide +kernel
theorem dX2_firstAlleyOn_43 : decode cX2_firstAlleyOn 43 = .ok (.aload_n 1, 1) := by decide +kernel
theorem dX2_firstAlleyOn_44 : decode cX2_firstAlleyOn 44 = .ok (.getfield 91, 3) := by decide +kernel
theorem dX2_firstAlleyOn_47 : decode cX2_firstAlleyOn 47 = .ok (.iload 5, 2) := by decide +kernel
theorem dX2_firstAlleyOn_49 : decode cX2_firstAlleyOn 49 = .ok (.iaload, 1) := by decide +kernel
theorem dX2_firstAlleyOn_50 : decode cX2_firstAlleyOn 50 = .ok (.aload_n 0, 1) := by decide +kernel
theorem dX2_firstAlleyOn_51 : decode cX2_firstAlleyOn 51 = .ok (.getfield 9, 3) := by decide +kernel
theorem dX2_firstAlleyOn_54 : decode cX2_firstAlleyOn 54 = .ok (.aload_n 1, 1) := by decide +kernel
theorem dX2_firstAlleyOn_55 : decode cX2_firstAlleyOn 55 = .ok (.iload 5, 2) := by decide +kernel
theorem dX2_firstAlleyOn_57 : decode cX2_firstAlleyOn 57 = .ok (.iload_n 3, 1) := by decide +kernel
theorem dX2_firstAlleyOn_58 : decode cX2_firstAlleyOn 58 = .ok (.invokevirtual 87, 3) := by decide +kernel
theorem dX2_firstAlleyOn_61 : decode cX2_firstAlleyOn 61 = .ok (.iaload, 1) := by decide +kernel
theorem dX2_firstAlleyOn_62 : decode cX2_firstAlleyOn 62 = .ok (.iadd, 1) := by decide +kernel
theorem dX2_firstAlleyOn_63 : decode cX2_firstAlleyOn 63 = .ok (.istore 6, 2) := by decide +kernel
theorem dX2_firstAlleyOn_65 : decode cX2_firstAlleyOn 65 = .ok (.aload_n 1, 1) := by decide +kernel
theorem dX2_firstAlleyOn_66 : decode cX2_firstAlleyOn 66 = .ok (.aload_n 2, 1) := by decide +kernel
theorem dX2_firstAlleyOn_67 : decode cX2_firstAlleyOn 67 = .ok (.iload 5, 2) := by decide +kernel
theorem dX2_firstAlleyOn_69 : decode cX2_firstAlleyOn 69 = .ok (.iload_n 3, 1) := by decide +kernel
theorem dX2_firstAlleyOn_70 : decode cX2_firstAlleyOn 70 = .ok (.invokevirtual 94, 3) := by decide +kernel
theorem dX2_firstAlleyOn_73 : decode cX2_firstAlleyOn 73 = .ok (.ifCond .eq 17, 3) := by decide +kernel
theorem dX2_firstAlleyOn_90 : decode cX2_firstAlleyOn 90 = .ok (.iinc 4 1, 3) := by decide +kernel
theorem dX2_firstAlleyOn_93 : decode cX2_firstAlleyOn 93 = .ok (.goto (-72), 3) := by decide +kernel
theorem dX2_firstAlleyOn_76 : decode cX2_firstAlleyOn 76 = .ok (.iload 6, 2) := by decide +kernel
theorem dX2_firstAlleyOn_78 : decode cX2_firstAlleyOn 78 = .ok (.aload_n 0, 1) := by decide +kernel
theorem dX2_firstAlleyOn_79 : decode cX2_firstAlleyOn 79 = .ok (.getfield 9, 3) := by decide +kernel
theorem dX2_firstAlleyOn_82 : decode cX2_firstAlleyOn 82 = .ok (.iload_n 3, 1) := by decide +kernel
theorem dX2_firstAlleyOn_83 : decode cX2_firstAlleyOn 83 = .ok (.iaload, 1) := by decide +kernel
theorem dX2_firstAlleyOn_84 : decode cX2_firstAlleyOn 84 = .ok (.if_icmp .ne 6, 3) := by decide +kernel
theorem dX2_firstAlleyOn_87 : decode cX2_firstAlleyOn 87 = .ok (.iload 5, 2) := by decide +kernel
theorem dX2_firstAlleyOn_89 : decode cX2_firstAlleyOn 89 = .ok (.ireturn, 1) := by decide +kernel
theorem dX2_firstAlleyOn_96 : decode cX2_firstAlleyOn 96 = .ok (.iconst (-1), 1) := by decide +kernel
theorem dX2_firstAlleyOn_97 : decode cX2_firstAlleyOn 97 = .ok (.ireturn, 1) := by decide +kernel
theorem dX2_firstAlleyOn_11 : decode cX2_firstAlleyOn 11 = .ok (.iconst (-1), 1) := by decide +kernel
theorem dX2_firstAlleyOn_12 : decode cX2_firstAlleyOn 12 = .ok (.ireturn, 1) := by decide +kernel
theorem dX2_alleysOnWay_0 : decode cX2_alleysOnWay 0 = .ok (.iconst 0, 1) := by decide +kernel
theorem dX2_alleysOnWay_1 : decode cX2_alleysOnWay 1 = .ok (.istore 4, 2) := by decide +kernel
theorem dX2_alleysOnWay_3 : decode cX2_alleysOnWay 3 = .ok (.iload_n 3, 1) := by decide +kernel
theorem dX2_alleysOnWay_4 : decode cX2_alleysOnWay 4 = .ok (.istore 5, 2) := by decide +kernel
theorem dX2_alleysOnWay_6 : decode cX2_alleysOnWay 6 = .ok (.iconst 0, 1) := by decide +kernel
theorem dX2_alleysOnWay_7 : decode cX2_alleysOnWay 7 = .ok (.istore 6, 2) := by decide +kernel
theorem dX2_alleysOnWay_9 : decode cX2_alleysOnWay 9 = .ok (.iload 6, 2) := by decide +kernel
theorem dX2_alleysOnWay_11 : decode cX2_alleysOnWay 11 = .ok (.aload_n 1, 1) := by decide +kernel
theorem dX2_alleysOnWay_12 : decode cX2_alleysOnWay 12 = .ok (.getfield 73, 3) := by decide +kernel
theorem dX2_alleysOnWay_15 : decode cX2_alleysOnWay 15 = .ok (.if_icmp .ge 47, 3) := by decide +kernel
theorem dX2_alleysOnWay_18 : decode cX2_alleysOnWay 18 = .ok (.aload_n 0, 1) := by decide +kernel
theorem dX2_alleysOnWay_19 : decode cX2_alleysOnWay 19 = .ok (.aload_n 1, 1) := by decide +kernel
theorem dX2_alleysOnWay_20 : decode cX2_alleysOnWay 20 = .ok (.aload_n 2, 1) := by decide +kernel
theorem dX2_alleysOnWay_21 : decode cX2_alleysOnWay 21 = .ok (.iload 5, 2) := by decide +kernel
theorem dX2_alleysOnWay_23 : decode cX2_alleysOnWay 23 = .ok (.invokevirtual 108, 3) := by decide +kernel
theorem dX2_alleysOnWay_26 : decode cX2_alleysOnWay 26 = .ok (.istore 7, 2) := by decide +kernel
theorem dX2_alleysOnWay_28 : decode cX2_alleysOnWay 28 = .ok (.iload 7, 2) := by decide +kernel
theorem dX2_alleysOnWay_30 : decode cX2_alleysOnWay 30 = .ok (.iconst (-1), 1) := by decide +kernel
theorem dX2_alleysOnWay_31 : decode cX2_alleysOnWay 31 = .ok (.if_icmp .ne 6, 3) := by decide +kernel
theorem dX2_alleysOnWay_37 : decode cX2_alleysOnWay 37 = .ok (.iload 4, 2) := by decide +kernel
theorem dX2_alleysOnWay_39 : decode cX2_alleysOnWay 39 = .ok (.iconst 1, 1) := by decide +kernel
theorem dX2_alleysOnWay_40 : decode cX2_alleysOnWay 40 = .ok (.iload 7, 2) := by decide +kernel
theorem dX2_alleysOnWay_42 : decode cX2_alleysOnWay 42 = .ok (.ishl, 1) := by decide +kernel
theorem dX2_alleysOnWay_43 : decode cX2_alleysOnWay 43 = .ok (.ior, 1) := by decide +kernel
theorem dX2_alleysOnWay_44 : decode cX2_alleysOnWay 44 = .ok (.istore 4, 2) := by decide +kernel
theorem dX2_alleysOnWay_46 : decode cX2_alleysOnWay 46 = .ok (.aload_n 1, 1) := by decide +kernel
theorem dX2_alleysOnWay_47 : decode cX2_alleysOnWay 47 = .ok (.iload 7, 2) := by decide +kernel
theorem dX2_alleysOnWay_49 : decode cX2_alleysOnWay 49 = .ok (.iload 5, 2) := by decide +kernel
theorem dX2_alleysOnWay_51 : decode cX2_alleysOnWay 51 = .ok (.invokevirtual 87, 3) := by decide +kernel
theorem dX2_alleysOnWay_54 : decode cX2_alleysOnWay 54 = .ok (.istore 5, 2) := by decide +kernel
theorem dX2_alleysOnWay_56 : decode cX2_alleysOnWay 56 = .ok (.iinc 6 1, 3) := by decide +kernel
theorem dX2_alleysOnWay_59 : decode cX2_alleysOnWay 59 = .ok (.goto (-50), 3) := by decide +kernel
theorem dX2_alleysOnWay_34 : decode cX2_alleysOnWay 34 = .ok (.iload 4, 2) := by decide +kernel
theorem dX2_alleysOnWay_36 : decode cX2_alleysOnWay 36 = .ok (.ireturn, 1) := by decide +kernel
theorem dX2_alleysOnWay_62 : decode cX2_alleysOnWay 62 = .ok (.iload 4, 2) := by decide +kernel
theorem dX2_alleysOnWay_64 : decode cX2_alleysOnWay 64 = .ok (.ireturn, 1) := by decide +kernel
theorem dX2_alleyOfJourney_0 : decode cX2_alleyOfJourney 0 = .ok (.aload_n 0, 1) := by decide +kernel
theorem dX2_alleyOfJourney_1 : decode cX2_alleyOfJourney 1 = .ok (.aload_n 1, 1) := by decide +kernel
theorem dX2_alleyOfJourney_2 : decode cX2_alleyOfJourney 2 = .ok (.aload_n 2, 1) := by decide +kernel
theorem dX2_alleyOfJourney_3 : decode cX2_alleyOfJourney 3 = .ok (.aload_n 1, 1) := by decide +kernel
theorem dX2_alleyOfJourney_4 : decode cX2_alleyOfJourney 4 = .ok (.getfield 111, 3) := by decide +kernel
theorem dX2_alleyOfJourney_7 : decode cX2_alleyOfJourney 7 = .ok (.getfield 115, 3) := by decide +kernel
theorem dX2_alleyOfJourney_10 : decode cX2_alleyOfJourney 10 = .ok (.iload_n 3, 1) := by decide +kernel
theorem dX2_alleyOfJourney_11 : decode cX2_alleyOfJourney 11 = .ok (.iaload, 1) := by decide +kernel
theorem dX2_alleyOfJourney_12 : decode cX2_alleyOfJourney 12 = .ok (.iconst 0, 1) := by decide +kernel
theorem dX2_alleyOfJourney_13 : decode cX2_alleyOfJourney 13 = .ok (.invokevirtual 98, 3) := by decide +kernel
theorem dX2_alleyOfJourney_16 : decode cX2_alleyOfJourney 16 = .ok (.aload_n 1, 1) := by decide +kernel
theorem dX2_alleyOfJourney_17 : decode cX2_alleyOfJourney 17 = .ok (.getfield 111, 3) := by decide +kernel
theorem dX2_alleyOfJourney_20 : decode cX2_alleyOfJourney 20 = .ok (.getfield 118, 3) := by decide +kernel
theorem dX2_alleyOfJourney_23 : decode cX2_alleyOfJourney 23 = .ok (.iload_n 3, 1) := by decide +kernel
theorem dX2_alleyOfJourney_24 : decode cX2_alleyOfJourney 24 = .ok (.iaload, 1) := by decide +kernel
theorem dX2_alleyOfJourney_25 : decode cX2_alleyOfJourney 25 = .ok (.istore 5, 2) := by decide +kernel
theorem dX2_alleyOfJourney_27 : decode cX2_alleyOfJourney 27 = .ok (.iconst 0, 1) := by decide +kernel
theorem dX2_alleyOfJourney_28 : decode cX2_alleyOfJourney 28 = .ok (.istore 6, 2) := by decide +kernel
theorem dX2_alleyOfJourney_30 : decode cX2_alleyOfJourney 30 = .ok (.iload 6, 2) := by decide +kernel
theorem dX2_alleyOfJourney_32 : decode cX2_alleyOfJourney 32 = .ok (.aload_n 1, 1) := by decide +kernel
theorem dX2_alleyOfJourney_33 : decode cX2_alleyOfJourney 33 = .ok (.getfield 73, 3) := by decide +kernel
theorem dX2_alleyOfJourney_36 : decode cX2_alleyOfJourney 36 = .ok (.if_icmp .ge 45, 3) := by decide +kernel
theorem dX2_alleyOfJourney_39 : decode cX2_alleyOfJourney 39 = .ok (.aload_n 0, 1) := by decide +kernel
theorem dX2_alleyOfJourney_40 : decode cX2_alleyOfJourney 40 = .ok (.aload_n 1, 1) := by decide +kernel
theorem dX2_alleyOfJourney_41 : decode cX2_alleyOfJourney 41 = .ok (.aload_n 2, 1) := by decide +kernel
theorem dX2_alleyOfJourney_42 : decode cX2_alleyOfJourney 42 = .ok (.iload 5, 2) := by decide +kernel
theorem dX2_alleyOfJourney_44 : decode cX2_alleyOfJourney 44 = .ok (.invokevirtual 108, 3) := by decide +kernel
theorem dX2_alleyOfJourney_47 : decode cX2_alleyOfJourney 47 = .ok (.istore 7, 2) := by decide +kernel
theorem dX2_alleyOfJourney_49 : decode cX2_alleyOfJourney 49 = .ok (.iload 7, 2) := by decide +kernel
theorem dX2_alleyOfJourney_51 : decode cX2_alleyOfJourney 51 = .ok (.iconst (-1), 1) := by decide +kernel
theorem dX2_alleyOfJourney_52 : decode cX2_alleyOfJourney 52 = .ok (.if_icmp .eq 10, 3) := by decide +kernel
theorem dX2_alleyOfJourney_62 : decode cX2_alleyOfJourney 62 = .ok (.iload 7, 2) := by decide +kernel
theorem dX2_alleyOfJourney_64 : decode cX2_alleyOfJourney 64 = .ok (.ireturn, 1) := by decide +kernel
theorem dX2_alleyOfJourney_55 : decode cX2_alleyOfJourney 55 = .ok (.iload 6, 2) := by decide +kernel
theorem dX2_alleyOfJourney_57 : decode cX2_alleyOfJourney 57 = .ok (.iload 4, 2) := by decide +kernel
theorem dX2_alleyOfJourney_59 : decode cX2_alleyOfJourney 59 = .ok (.if_icmp .ne 6, 3) := by decide +kernel
theorem dX2_alleyOfJourney_65 : decode cX2_alleyOfJourney 65 = .ok (.aload_n 1, 1) := by decide +kernel
theorem dX2_alleyOfJourney_66 : decode cX2_alleyOfJourney 66 = .ok (.iload 7, 2) := by decide +kernel
theorem dX2_alleyOfJourney_68 : decode cX2_alleyOfJourney 68 = .ok (.iload 5, 2) := by decide +kernel
theorem dX2_alleyOfJourney_70 : decode cX2_alleyOfJourney 70 = .ok (.invokevirtual 87, 3) := by decide +kernel
theorem dX2_alleyOfJourney_73 : decode cX2_alleyOfJourney 73 = .ok (.istore 5, 2) := by decide +kernel
theorem dX2_alleyOfJourney_75 : decode cX2_alleyOfJourney 75 = .ok (.iinc 6 1, 3) := by decide +kernel
theorem dX2_alleyOfJourney_78 : decode cX2_alleyOfJourney 78 = .ok (.goto (-48), 3) := by decide +kernel
theorem dX2_alleyOfJourney_81 : decode cX2_alleyOfJourney 81 = .ok (.iconst (-1), 1) := by decide +kernel
theorem dX2_alleyOfJourney_82 : decode cX2_alleyOfJourney 82 = .ok (.ireturn, 1) := by decide +kernel
theorem dX2_carryAll_0 : decode cX2_carryAll 0 = .ok (.aload_n 0, 1) := by decide +kernel
theorem dX2_carryAll_1 : decode cX2_carryAll 1 = .ok (.getfield 18, 3) := by decide +kernel
theorem dX2_carryAll_4 : decode cX2_carryAll 4 = .ok (.iconst 0, 1) := by decide +kernel
theorem dX2_carryAll_5 : decode cX2_carryAll 5 = .ok (.invokestatic 61, 3) := by decide +kernel
theorem dX2_carryAll_8 : decode cX2_carryAll 8 = .ok (.iconst 0, 1) := by decide +kernel
theorem dX2_carryAll_9 : decode cX2_carryAll 9 = .ok (.istore_n 3, 1) := by decide +kernel
theorem dX2_carryAll_10 : decode cX2_carryAll 10 = .ok (.iload_n 3, 1) := by decide +kernel
theorem dX2_carryAll_11 : decode cX2_carryAll 11 = .ok (.aload_n 1, 1) := by decide +kernel
theorem dX2_carryAll_12 : decode cX2_carryAll 12 = .ok (.getfield 111, 3) := by decide +kernel
theorem dX2_carryAll_15 : decode cX2_carryAll 15 = .ok (.getfield 119, 3) := by decide +kernel
theorem dX2_carryAll_18 : decode cX2_carryAll 18 = .ok (.if_icmp .ge 89, 3) := by decide +kernel
theorem dX2_carryAll_21 : decode cX2_carryAll 21 = .ok (.aload_n 0, 1) := by decide +kernel
theorem dX2_carryAll_22 : decode cX2_carryAll 22 = .ok (.aload_n 1, 1) := by decide +kernel
theorem dX2_carryAll_23 : decode cX2_carryAll 23 = .ok (.aload_n 2, 1) := by decide +kernel
theorem dX2_carryAll_24 : decode cX2_carryAll 24 = .ok (.aload_n 1, 1) := by decide +kernel
theorem dX2_carryAll_25 : decode cX2_carryAll 25 = .ok (.getfield 111, 3) := by decide +kernel
theorem dX2_carryAll_28 : decode cX2_carryAll 28 = .ok (.getfield 115, 3) := by decide +kernel
theorem dX2_carryAll_31 : decode cX2_carryAll 31 = .ok (.iload_n 3, 1) := by decide +kernel
theorem dX2_carryAll_32 : decode cX2_carryAll 32 = .ok (.iaload, 1) := by decide +kernel
theorem dX2_carryAll_33 : decode cX2_carryAll 33 = .ok (.iconst 0, 1) := by decide +kernel
theorem dX2_carryAll_34 : decode cX2_carryAll 34 = .ok (.invokevirtual 98, 3) := by decide +kernel
theorem dX2_carryAll_37 : decode cX2_carryAll 37 = .ok (.aload_n 0, 1) := by decide +kernel
theorem dX2_carryAll_38 : decode cX2_carryAll 38 = .ok (.aload_n 1, 1) := by decide +kernel
theorem dX2_carryAll_39 : decode cX2_carryAll 39 = .ok (.aload_n 2, 1) := by decide +kernel
theorem dX2_carryAll_40 : decode cX2_carryAll 40 = .ok (.aload_n 1, 1) := by decide +kernel
theorem dX2_carryAll_41 : decode cX2_carryAll 41 = .ok (.getfield 111, 3) := by decide +kernel
theorem dX2_carryAll_44 : decode cX2_carryAll 44 = .ok (.getfield 118, 3) := by decide +kernel
theorem dX2_carryAll_47 : decode cX2_carryAll 47 = .ok (.iload_n 3, 1) := by decide +kernel
theorem dX2_carryAll_48 : decode cX2_carryAll 48 = .ok (.iaload, 1) := by decide +kernel
theorem dX2_carryAll_49 : decode cX2_carryAll 49 = .ok (.invokevirtual 122, 3) := by decide +kernel
theorem dX2_carryAll_52 : decode cX2_carryAll 52 = .ok (.istore 4, 2) := by decide +kernel
theorem dX2_carryAll_54 : decode cX2_carryAll 54 = .ok (.iconst 0, 1) := by decide +kernel
theorem dX2_carryAll_55 : decode cX2_carryAll 55 = .ok (.istore 5, 2) := by decide +kernel
theorem dX2_carryAll_57 : decode cX2_carryAll 57 = .ok (.iload 5, 2) := by decide +kernel
theorem dX2_carryAll_59 : decode cX2_carryAll 59 = .ok (.aload_n 1, 1) := by decide +kernel
theorem dX2_carryAll_60 : decode cX2_carryAll 60 = .ok (.getfield 46, 3) := by decide +kernel
theorem dX2_carryAll_63 : decode cX2_carryAll 63 = .ok (.if_icmp .ge 38, 3) := by decide +kernel
theorem dX2_carryAll_66 : decode cX2_carryAll 66 = .ok (.iload 4, 2) := by decide +kernel
theorem dX2_carryAll_68 : decode cX2_carryAll 68 = .ok (.iload 5, 2) := by decide +kernel
theorem dX2_carryAll_70 : decode cX2_carryAll 70 = .ok (.ishr, 1) := by decide +kernel
theorem dX2_carryAll_71 : decode cX2_carryAll 71 = .ok (.iconst 1, 1) := by decide +kernel
theorem dX2_carryAll_72 : decode cX2_carryAll 72 = .ok (.iand, 1) := by decide +kernel
theorem dX2_carryAll_73 : decode cX2_carryAll 73 = .ok (.ifCond .eq 22, 3) := by decide +kernel
theorem dX2_carryAll_95 : decode cX2_carryAll 95 = .ok (.iinc 5 1, 3) := by decide +kernel
theorem dX2_carryAll_98 : decode cX2_carryAll 98 = .ok (.goto (-41), 3) := by decide +kernel
theorem dX2_carryAll_76 : decode cX2_carryAll 76 = .ok (.aload_n 0, 1) := by decide +kernel
theorem dX2_carryAll_77 : decode cX2_carryAll 77 = .ok (.getfield 18, 3) := by decide +kernel
theorem dX2_carryAll_80 : decode cX2_carryAll 80 = .ok (.iload 5, 2) := by decide +kernel
theorem dX2_carryAll_82 : decode cX2_carryAll 82 = .ok (.dup2, 1) := by decide +kernel
theorem dX2_carryAll_83 : decode cX2_carryAll 83 = .ok (.iaload, 1) := by decide +kernel
theorem dX2_carryAll_84 : decode cX2_carryAll 84 = .ok (.aload_n 1, 1) := by decide +kernel
theorem dX2_carryAll_85 : decode cX2_carryAll 85 = .ok (.getfield 111, 3) := by decide +kernel
theorem dX2_carryAll_88 : decode cX2_carryAll 88 = .ok (.getfield 125, 3) := by decide +kernel
theorem dX2_carryAll_91 : decode cX2_carryAll 91 = .ok (.iload_n 3, 1) := by decide +kernel
theorem dX2_carryAll_92 : decode cX2_carryAll 92 = .ok (.iaload, 1) := by decide +kernel
theorem dX2_carryAll_93 : decode cX2_carryAll 93 = .ok (.iadd, 1) := by decide +kernel
theorem dX2_carryAll_94 : decode cX2_carryAll 94 = .ok (.iastore, 1) := by decide +kernel
theorem dX2_carryAll_101 : decode cX2_carryAll 101 = .ok (.iinc 3 1, 3) := by decide +kernel
theorem dX2_carryAll_104 : decode cX2_carryAll 104 = .ok (.goto (-94), 3) := by decide +kernel
theorem dX2_carryAll_107 : decode cX2_carryAll 107 = .ok (.return_, 1) := by decide +kernel
theorem dX2_ringEnd_0 : decode cX2_ringEnd 0 = .ok (.aload_n 2, 1) := by decide +kernel
theorem dX2_ringEnd_1 : decode cX2_ringEnd 1 = .ok (.iload_n 3, 1) := by decide +kernel
theorem dX2_ringEnd_2 : decode cX2_ringEnd 2 = .ok (.iaload, 1) := by decide +kernel
theorem dX2_ringEnd_3 : decode cX2_ringEnd 3 = .ok (.iconst 2, 1) := by decide +kernel
theorem dX2_ringEnd_4 : decode cX2_ringEnd 4 = .ok (.if_icmp .ne 12, 3) := by decide +kernel
theorem dX2_ringEnd_16 : decode cX2_ringEnd 16 = .ok (.aload_n 1, 1) := by decide +kernel
theorem dX2_ringEnd_17 : decode cX2_ringEnd 17 = .ok (.getfield 70, 3) := by decide +kernel
theorem dX2_ringEnd_20 : decode cX2_ringEnd 20 = .ok (.iload_n 3, 1) := by decide +kernel
theorem dX2_ringEnd_21 : decode cX2_ringEnd 21 = .ok (.iaload, 1) := by decide +kernel
theorem dX2_ringEnd_22 : decode cX2_ringEnd 22 = .ok (.ireturn, 1) := by decide +kernel
theorem dX2_ringEnd_7 : decode cX2_ringEnd 7 = .ok (.aload_n 1, 1) := by decide +kernel
theorem dX2_ringEnd_8 : decode cX2_ringEnd 8 = .ok (.getfield 67, 3) := by decide +kernel
theorem dX2_ringEnd_11 : decode cX2_ringEnd 11 = .ok (.iload_n 3, 1) := by decide +kernel
theorem dX2_ringEnd_12 : decode cX2_ringEnd 12 = .ok (.iaload, 1) := by decide +kernel
theorem dX2_ringEnd_13 : decode cX2_ringEnd 13 = .ok (.goto 9, 3) := by decide +kernel
theorem dX2_ringMinutes_0 : decode cX2_ringMinutes 0 = .ok (.aload_n 0, 1) := by decide +kernel
theorem dX2_ringMinutes_1 : decode cX2_ringMinutes 1 = .ok (.aload_n 1, 1) := by decide +kernel
theorem dX2_ringMinutes_2 : decode cX2_ringMinutes 2 = .ok (.aload_n 2, 1) := by decide +kernel
theorem dX2_ringMinutes_3 : decode cX2_ringMinutes 3 = .ok (.iload_n 3, 1) := by decide +kernel
theorem dX2_ringMinutes_4 : decode cX2_ringMinutes 4 = .ok (.invokevirtual 128, 3) := by decide +kernel
theorem dX2_ringMinutes_7 : decode cX2_ringMinutes 7 = .ok (.istore 4, 2) := by decide +kernel
theorem dX2_ringMinutes_9 : decode cX2_ringMinutes 9 = .ok (.aload_n 1, 1) := by decide +kernel
theorem dX2_ringMinutes_10 : decode cX2_ringMinutes 10 = .ok (.getfield 91, 3) := by decide +kernel
theorem dX2_ringMinutes_13 : decode cX2_ringMinutes 13 = .ok (.iload_n 3, 1) := by decide +kernel
theorem dX2_ringMinutes_14 : decode cX2_ringMinutes 14 = .ok (.iaload, 1) := by decide +kernel
theorem dX2_ringMinutes_15 : decode cX2_ringMinutes 15 = .ok (.aload_n 0, 1) := by decide +kernel
theorem dX2_ringMinutes_16 : decode cX2_ringMinutes 16 = .ok (.aload_n 1, 1) := by decide +kernel
theorem dX2_ringMinutes_17 : decode cX2_ringMinutes 17 = .ok (.aload_n 2, 1) := by decide +kernel
theorem dX2_ringMinutes_18 : decode cX2_ringMinutes 18 = .ok (.iload 4, 2) := by decide +kernel
theorem dX2_ringMinutes_20 : decode cX2_ringMinutes 20 = .ok (.aload_n 1, 1) := by decide +kernel
theorem dX2_ringMinutes_21 : decode cX2_ringMinutes 21 = .ok (.iload_n 3, 1) := by decide +kernel
theorem dX2_ringMinutes_22 : decode cX2_ringMinutes 22 = .ok (.iload 4, 2) := by decide +kernel
theorem dX2_ringMinutes_24 : decode cX2_ringMinutes 24 = .ok (.invokevirtual 87, 3) := by decide +kernel
theorem dX2_ringMinutes_27 : decode cX2_ringMinutes 27 = .ok (.invokevirtual 131, 3) := by decide +kernel
theorem dX2_ringMinutes_30 : decode cX2_ringMinutes 30 = .ok (.iadd, 1) := by decide +kernel
theorem dX2_ringMinutes_31 : decode cX2_ringMinutes 31 = .ok (.ireturn, 1) := by decide +kernel
theorem dX2_ringAlleys_0 : decode cX2_ringAlleys 0 = .ok (.aload_n 0, 1) := by decide +kernel
theorem dX2_ringAlleys_1 : decode cX2_ringAlleys 1 = .ok (.aload_n 1, 1) := by decide +kernel
theorem dX2_ringAlleys_2 : decode cX2_ringAlleys 2 = .ok (.aload_n 2, 1) := by decide +kernel
theorem dX2_ringAlleys_3 : decode cX2_ringAlleys 3 = .ok (.iload_n 3, 1) := by decide +kernel
theorem dX2_ringAlleys_4 : decode cX2_ringAlleys 4 = .ok (.invokevirtual 128, 3) := by decide +kernel
theorem dX2_ringAlleys_7 : decode cX2_ringAlleys 7 = .ok (.istore 4, 2) := by decide +kernel
theorem dX2_ringAlleys_9 : decode cX2_ringAlleys 9 = .ok (.aload_n 0, 1) := by decide +kernel
theorem dX2_ringAlleys_10 : decode cX2_ringAlleys 10 = .ok (.aload_n 1, 1) := by decide +kernel
theorem dX2_ringAlleys_11 : decode cX2_ringAlleys 11 = .ok (.aload_n 2, 1) := by decide +kernel
theorem dX2_ringAlleys_12 : decode cX2_ringAlleys 12 = .ok (.aload_n 1, 1) := by decide +kernel
theorem dX2_ringAlleys_13 : decode cX2_ringAlleys 13 = .ok (.iload_n 3, 1) := by decide +kernel
theorem dX2_ringAlleys_14 : decode cX2_ringAlleys 14 = .ok (.iload 4, 2) := by decide +kernel
theorem dX2_ringAlleys_16 : decode cX2_ringAlleys 16 = .ok (.invokevirtual 87, 3) := by decide +kernel
theorem dX2_ringAlleys_19 : decode cX2_ringAlleys 19 = .ok (.iconst 0, 1) := by decide +kernel
theorem dX2_ringAlleys_20 : decode cX2_ringAlleys 20 = .ok (.invokevirtual 98, 3) := by decide +kernel
theorem dX2_ringAlleys_23 : decode cX2_ringAlleys 23 = .ok (.aload_n 0, 1) := by decide +kernel
theorem dX2_ringAlleys_24 : decode cX2_ringAlleys 24 = .ok (.getfield 9, 3) := by decide +kernel
theorem dX2_ringAlleys_27 : decode cX2_ringAlleys 27 = .ok (.iload 4, 2) := by decide +kernel
theorem dX2_ringAlleys_29 : decode cX2_ringAlleys 29 = .ok (.iaload, 1) := by decide +kernel
theorem dX2_ringAlleys_30 : decode cX2_ringAlleys 30 = .ok (.ldc 76, 2) := by decide +kernel
theorem dX2_ringAlleys_32 : decode cX2_ringAlleys 32 = .ok (.if_icmp .lt 7, 3) := by decide +kernel
theorem dX2_ringAlleys_39 : decode cX2_ringAlleys 39 = .ok (.aload_n 0, 1) := by decide +kernel
theorem dX2_ringAlleys_40 : decode cX2_ringAlleys 40 = .ok (.aload_n 1, 1) := by decide +kernel
theorem dX2_ringAlleys_41 : decode cX2_ringAlleys 41 = .ok (.aload_n 2, 1) := by decide +kernel
theorem dX2_ringAlleys_42 : decode cX2_ringAlleys 42 = .ok (.iload 4, 2) := by decide +kernel
theorem dX2_ringAlleys_44 : decode cX2_ringAlleys 44 = .ok (.invokevirtual 122, 3) := by decide +kernel
theorem dX2_ringAlleys_47 : decode cX2_ringAlleys 47 = .ok (.iconst 1, 1) := by decide +kernel
theorem dX2_ringAlleys_48 : decode cX2_ringAlleys 48 = .ok (.iload_n 3, 1) := by decide +kernel
theorem dX2_ringAlleys_49 : decode cX2_ringAlleys 49 = .ok (.ishl, 1) := by decide +kernel
theorem dX2_ringAlleys_50 : decode cX2_ringAlleys 50 = .ok (.ior, 1) := by decide +kernel
theorem dX2_ringAlleys_51 : decode cX2_ringAlleys 51 = .ok (.ireturn, 1) := by decide +kernel
theorem dX2_ringAlleys_35 : decode cX2_ringAlleys 35 = .ok (.iconst 0, 1) := by decide +kernel
theorem dX2_ringAlleys_36 : decode cX2_ringAlleys 36 = .ok (.goto 15, 3) := by decide +kernel
theorem dX2_roundOf_0 : decode cX2_roundOf 0 = .ok (.aload_n 1, 1) := by decide +kernel
theorem dX2_roundOf_1 : decode cX2_roundOf 1 = .ok (.getfield 111, 3) := by decide +kernel
theorem dX2_roundOf_4 : decode cX2_roundOf 4 = .ok (.getfield 115, 3) := by decide +kernel
theorem dX2_roundOf_7 : decode cX2_roundOf 7 = .ok (.iload_n 3, 1) := by decide +kernel
theorem dX2_roundOf_8 : decode cX2_roundOf 8 = .ok (.iaload, 1) := by decide +kernel
theorem dX2_roundOf_9 : decode cX2_roundOf 9 = .ok (.istore 4, 2) := by decide +kernel
theorem dX2_roundOf_11 : decode cX2_roundOf 11 = .ok (.aload_n 0, 1) := by decide +kernel
theorem dX2_roundOf_12 : decode cX2_roundOf 12 = .ok (.aload_n 1, 1) := by decide +kernel
theorem dX2_roundOf_13 : decode cX2_roundOf 13 = .ok (.aload_n 2, 1) := by decide +kernel
theorem dX2_roundOf_14 : decode cX2_roundOf 14 = .ok (.iload 4, 2) := by decide +kernel
theorem dX2_roundOf_16 : decode cX2_roundOf 16 = .ok (.iconst 0, 1) := by decide +kernel
theorem dX2_roundOf_17 : decode cX2_roundOf 17 = .ok (.invokevirtual 98, 3) := by decide +kernel
theorem dX2_roundOf_20 : decode cX2_roundOf 20 = .ok (.aload_n 0, 1) := by decide +kernel
theorem dX2_roundOf_21 : decode cX2_roundOf 21 = .ok (.aload_n 1, 1) := by decide +kernel
theorem dX2_roundOf_22 : decode cX2_roundOf 22 = .ok (.aload_n 1, 1) := by decide +kernel
theorem dX2_roundOf_23 : decode cX2_roundOf 23 = .ok (.getfield 111, 3) := by decide +kernel
theorem dX2_roundOf_26 : decode cX2_roundOf 26 = .ok (.getfield 118, 3) := by decide +kernel
theorem dX2_roundOf_29 : decode cX2_roundOf 29 = .ok (.iload_n 3, 1) := by decide +kernel
theorem dX2_roundOf_30 : decode cX2_roundOf 30 = .ok (.iaload, 1) := by decide +kernel
theorem dX2_roundOf_31 : decode cX2_roundOf 31 = .ok (.iload 4, 2) := by decide +kernel
theorem dX2_roundOf_33 : decode cX2_roundOf 33 = .ok (.invokevirtual 135, 3) := by decide +kernel
theorem dX2_roundOf_36 : decode cX2_roundOf 36 = .ok (.ireturn, 1) := by decide +kernel
theorem dX2_sumOf_0 : decode cX2_sumOf 0 = .ok (.iconst 0, 1) := by decide +kernel
theorem dX2_sumOf_1 : decode cX2_sumOf 1 = .ok (.istore 5, 2) := by decide +kernel
theorem dX2_sumOf_3 : decode cX2_sumOf 3 = .ok (.iconst 0, 1) := by decide +kernel
theorem dX2_sumOf_4 : decode cX2_sumOf 4 = .ok (.istore 6, 2) := by decide +kernel
theorem dX2_sumOf_6 : decode cX2_sumOf 6 = .ok (.iload 6, 2) := by decide +kernel
theorem dX2_sumOf_8 : decode cX2_sumOf 8 = .ok (.aload_n 1, 1) := by decide +kernel
theorem dX2_sumOf_9 : decode cX2_sumOf 9 = .ok (.getfield 111, 3) := by decide +kernel
theorem dX2_sumOf_12 : decode cX2_sumOf 12 = .ok (.getfield 119, 3) := by decide +kernel
theorem dX2_sumOf_15 : decode cX2_sumOf 15 = .ok (.if_icmp .ge 120, 3) := by decide +kernel
theorem dX2_sumOf_18 : decode cX2_sumOf 18 = .ok (.iload 5, 2) := by decide +kernel
theorem dX2_sumOf_20 : decode cX2_sumOf 20 = .ok (.iload 4, 2) := by decide +kernel
theorem dX2_sumOf_22 : decode cX2_sumOf 22 = .ok (.if_icmp .ge 113, 3) := by decide +kernel
theorem dX2_sumOf_25 : decode cX2_sumOf 25 = .ok (.iload_n 3, 1) := by decide +kernel
theorem dX2_sumOf_26 : decode cX2_sumOf 26 = .ok (.ifCond .eq 16, 3) := by decide +kernel
theorem dX2_sumOf_42 : decode cX2_sumOf 42 = .ok (.aload_n 1, 1) := by decide +kernel
theorem dX2_sumOf_43 : decode cX2_sumOf 43 = .ok (.getfield 111, 3) := by decide +kernel
theorem dX2_sumOf_46 : decode cX2_sumOf 46 = .ok (.getfield 118, 3) := by decide +kernel
theorem dX2_sumOf_49 : decode cX2_sumOf 49 = .ok (.iload 6, 2) := by decide +kernel
theorem dX2_sumOf_51 : decode cX2_sumOf 51 = .ok (.iaload, 1) := by decide +kernel
theorem dX2_sumOf_52 : decode cX2_sumOf 52 = .ok (.istore 7, 2) := by decide +kernel
theorem dX2_sumOf_54 : decode cX2_sumOf 54 = .ok (.iload_n 3, 1) := by decide +kernel
theorem dX2_sumOf_55 : decode cX2_sumOf 55 = .ok (.ifCond .eq 16, 3) := by decide +kernel
theorem dX2_sumOf_71 : decode cX2_sumOf 71 = .ok (.aload_n 1, 1) := by decide +kernel
theorem dX2_sumOf_72 : decode cX2_sumOf 72 = .ok (.getfield 111, 3) := by decide +kernel
theorem dX2_sumOf_75 : decode cX2_sumOf 75 = .ok (.getfield 115, 3) := by decide +kernel
theorem dX2_sumOf_78 : decode cX2_sumOf 78 = .ok (.iload 6, 2) := by decide +kernel
theorem dX2_sumOf_80 : decode cX2_sumOf 80 = .ok (.iaload, 1) := by decide +kernel
theorem dX2_sumOf_81 : decode cX2_sumOf 81 = .ok (.istore 8, 2) := by decide +kernel
theorem dX2_sumOf_83 : decode cX2_sumOf 83 = .ok (.aload_n 0, 1) := by decide +kernel
theorem dX2_sumOf_84 : decode cX2_sumOf 84 = .ok (.aload_n 1, 1) := by decide +kernel
theorem dX2_sumOf_85 : decode cX2_sumOf 85 = .ok (.aload_n 2, 1) := by decide +kernel
theorem dX2_sumOf_86 : decode cX2_sumOf 86 = .ok (.iload 8, 2) := by decide +kernel
theorem dX2_sumOf_88 : decode cX2_sumOf 88 = .ok (.iconst 0, 1) := by decide +kernel
theorem dX2_sumOf_89 : decode cX2_sumOf 89 = .ok (.invokevirtual 98, 3) := by decide +kernel
theorem dX2_sumOf_92 : decode cX2_sumOf 92 = .ok (.aload_n 0, 1) := by decide +kernel
theorem dX2_sumOf_93 : decode cX2_sumOf 93 = .ok (.aload_n 1, 1) := by decide +kernel
theorem dX2_sumOf_94 : decode cX2_sumOf 94 = .ok (.iload 7, 2) := by decide +kernel
theorem dX2_sumOf_96 : decode cX2_sumOf 96 = .ok (.iload 8, 2) := by decide +kernel
theorem dX2_sumOf_98 : decode cX2_sumOf 98 = .ok (.invokevirtual 135, 3) := by decide +kernel
theorem dX2_sumOf_101 : decode cX2_sumOf 101 = .ok (.istore 9, 2) := by decide +kernel
theorem dX2_sumOf_103 : decode cX2_sumOf 103 = .ok (.iload 9, 2) := by decide +kernel
theorem dX2_sumOf_105 : decode cX2_sumOf 105 = .ok (.iconst (-1), 1) := by decide +kernel
theorem dX2_sumOf_106 : decode cX2_sumOf 106 = .ok (.if_icmp .ne 5, 3) := by decide +kernel
theorem dX2_sumOf_111 : decode cX2_sumOf 111 = .ok (.iload 5, 2) := by decide +kernel
theorem dX2_sumOf_113 : decode cX2_sumOf 113 = .ok (.aload_n 1, 1) := by decide +kernel
theorem dX2_sumOf_114 : decode cX2_sumOf 114 = .ok (.getfield 111, 3) := by decide +kernel
theorem dX2_sumOf_117 : decode cX2_sumOf 117 = .ok (.getfield 125, 3) := by decide +kernel
theorem dX2_sumOf_120 : decode cX2_sumOf 120 = .ok (.iload 6, 2) := by decide +kernel
theorem dX2_sumOf_122 : decode cX2_sumOf 122 = .ok (.iaload, 1) := by decide +kernel
theorem dX2_sumOf_123 : decode cX2_sumOf 123 = .ok (.iload 9, 2) := by decide +kernel
theorem dX2_sumOf_125 : decode cX2_sumOf 125 = .ok (.imul, 1) := by decide +kernel
theorem dX2_sumOf_126 : decode cX2_sumOf 126 = .ok (.iadd, 1) := by decide +kernel
theorem dX2_sumOf_127 : decode cX2_sumOf 127 = .ok (.istore 5, 2) := by decide +kernel
theorem dX2_sumOf_129 : decode cX2_sumOf 129 = .ok (.iinc 6 1, 3) := by decide +kernel
theorem dX2_sumOf_132 : decode cX2_sumOf 132 = .ok (.goto (-126), 3) := by decide +kernel
theorem dX2_sumOf_109 : decode cX2_sumOf 109 = .ok (.iconst (-1), 1) := by decide +kernel
theorem dX2_sumOf_110 : decode cX2_sumOf 110 = .ok (.ireturn, 1) := by decide +kernel
theorem dX2_sumOf_29 : decode cX2_sumOf 29 = .ok (.aload_n 1, 1) := by decide +kernel
theorem dX2_sumOf_30 : decode cX2_sumOf 30 = .ok (.getfield 111, 3) := by decide +kernel
theorem dX2_sumOf_33 : decode cX2_sumOf 33 = .ok (.getfield 115, 3) := by decide +kernel
theorem dX2_sumOf_36 : decode cX2_sumOf 36 = .ok (.iload 6, 2) := by decide +kernel
theorem dX2_sumOf_38 : decode cX2_sumOf 38 = .ok (.iaload, 1) := by decide +kernel
theorem dX2_sumOf_39 : decode cX2_sumOf 39 = .ok (.goto 13, 3) := by decide +kernel
theorem dX2_sumOf_58 : decode cX2_sumOf 58 = .ok (.aload_n 1, 1) := by decide +kernel
theorem dX2_sumOf_59 : decode cX2_sumOf 59 = .ok (.getfield 111, 3) := by decide +kernel
theorem dX2_sumOf_62 : decode cX2_sumOf 62 = .ok (.getfield 118, 3) := by decide +kernel
theorem dX2_sumOf_65 : decode cX2_sumOf 65 = .ok (.iload 6, 2) := by decide +kernel
theorem dX2_sumOf_67 : decode cX2_sumOf 67 = .ok (.iaload, 1) := by decide +kernel
theorem dX2_sumOf_68 : decode cX2_sumOf 68 = .ok (.goto 13, 3) := by decide +kernel
theorem dX2_sumOf_135 : decode cX2_sumOf 135 = .ok (.iload 5, 2) := by decide +kernel
theorem dX2_sumOf_137 : decode cX2_sumOf 137 = .ok (.ireturn, 1) := by decide +kernel
theorem dX2_worstOf_0 : decode cX2_worstOf 0 = .ok (.iconst 0, 1) := by decide +kernel
theorem dX2_worstOf_1 : decode cX2_worstOf 1 = .ok (.istore 4, 2) := by decide +kernel
theorem dX2_worstOf_3 : decode cX2_worstOf 3 = .ok (.iconst 0, 1) := by decide +kernel
theorem dX2_worstOf_4 : decode cX2_worstOf 4 = .ok (.istore 5, 2) := by decide +kernel
theorem dX2_worstOf_6 : decode cX2_worstOf 6 = .ok (.iload 5, 2) := by decide +kernel
theorem dX2_worstOf_8 : decode cX2_worstOf 8 = .ok (.aload_n 1, 1) := by decide +kernel
theorem dX2_worstOf_9 : decode cX2_worstOf 9 = .ok (.getfield 111, 3) := by decide +kernel
theorem dX2_worstOf_12 : decode cX2_worstOf 12 = .ok (.getfield 119, 3) := by decide +kernel
theorem dX2_worstOf_15 : decode cX2_worstOf 15 = .ok (.if_icmp .ge 42, 3) := by decide +kernel
theorem dX2_worstOf_18 : decode cX2_worstOf 18 = .ok (.iload 4, 2) := by decide +kernel
theorem dX2_worstOf_20 : decode cX2_worstOf 20 = .ok (.iload_n 3, 1) := by decide +kernel
theorem dX2_worstOf_21 : decode cX2_worstOf 21 = .ok (.if_icmp .ge 36, 3) := by decide +kernel
theorem dX2_worstOf_24 : decode cX2_worstOf 24 = .ok (.aload_n 0, 1) := by decide +kernel
theorem dX2_worstOf_25 : decode cX2_worstOf 25 = .ok (.aload_n 1, 1) := by decide +kernel
theorem dX2_worstOf_26 : decode cX2_worstOf 26 = .ok (.aload_n 2, 1) := by decide +kernel
theorem dX2_worstOf_27 : decode cX2_worstOf 27 = .ok (.iload 5, 2) := by decide +kernel
theorem dX2_worstOf_29 : decode cX2_worstOf 29 = .ok (.invokevirtual 139, 3) := by decide +kernel
theorem dX2_worstOf_32 : decode cX2_worstOf 32 = .ok (.istore 6, 2) := by decide +kernel
theorem dX2_worstOf_34 : decode cX2_worstOf 34 = .ok (.iload 6, 2) := by decide +kernel
theorem dX2_worstOf_36 : decode cX2_worstOf 36 = .ok (.iconst (-1), 1) := by decide +kernel
theorem dX2_worstOf_37 : decode cX2_worstOf 37 = .ok (.if_icmp .ne 5, 3) := by decide +kernel
theorem dX2_worstOf_42 : decode cX2_worstOf 42 = .ok (.iload 4, 2) := by decide +kernel
theorem dX2_worstOf_44 : decode cX2_worstOf 44 = .ok (.iload 6, 2) := by decide +kernel
theorem dX2_worstOf_46 : decode cX2_worstOf 46 = .ok (.invokestatic 142, 3) := by decide +kernel
theorem dX2_worstOf_49 : decode cX2_worstOf 49 = .ok (.istore 4, 2) := by decide +kernel
theorem dX2_worstOf_51 : decode cX2_worstOf 51 = .ok (.iinc 5 1, 3) := by decide +kernel
theorem dX2_worstOf_54 : decode cX2_worstOf 54 = .ok (.goto (-48), 3) := by decide +kernel
theorem dX2_worstOf_40 : decode cX2_worstOf 40 = .ok (.iconst (-1), 1) := by decide +kernel
theorem dX2_worstOf_41 : decode cX2_worstOf 41 = .ok (.ireturn, 1) := by decide +kernel
theorem dX2_worstOf_57 : decode cX2_worstOf 57 = .ok (.iload 4, 2) := by decide +kernel
theorem dX2_worstOf_59 : decode cX2_worstOf 59 = .ok (.ireturn, 1) := by decide +kernel
theorem dX2_strollFrom_0 : decode cX2_strollFrom 0 = .ok (.iconst (-1), 1) := by decide +kernel
theorem dX2_strollFrom_1 : decode cX2_strollFrom 1 = .ok (.istore 5, 2) := by decide +kernel
theorem dX2_strollFrom_3 : decode cX2_strollFrom 3 = .ok (.aload_n 1, 1) := by decide +kernel
theorem dX2_strollFrom_4 : decode cX2_strollFrom 4 = .ok (.getfield 81, 3) := by decide +kernel
theorem dX2_strollFrom_7 : decode cX2_strollFrom 7 = .ok (.iload_n 3, 1) := by decide +kernel
theorem dX2_strollFrom_8 : decode cX2_strollFrom 8 = .ok (.iaload, 1) := by decide +kernel
theorem dX2_strollFrom_9 : decode cX2_strollFrom 9 = .ok (.istore 6, 2) := by decide +kernel
theorem dX2_strollFrom_11 : decode cX2_strollFrom 11 = .ok (.iload 6, 2) := by decide +kernel
theorem dX2_strollFrom_13 : decode cX2_strollFrom 13 = .ok (.aload_n 1, 1) := by decide +kernel
theorem dX2_strollFrom_14 : decode cX2_strollFrom 14 = .ok (.getfield 81, 3) := by decide +kernel
theorem dX2_strollFrom_17 : decode cX2_strollFrom 17 = .ok (.iload_n 3, 1) := by decide +kernel
theorem dX2_strollFrom_18 : decode cX2_strollFrom 18 = .ok (.iconst 1, 1) := by decide +kernel
theorem dX2_strollFrom_19 : decode cX2_strollFrom 19 = .ok (.iadd, 1) := by decide +kernel
theorem dX2_strollFrom_20 : decode cX2_strollFrom 20 = .ok (.iaload, 1) := by decide +kernel
theorem dX2_strollFrom_21 : decode cX2_strollFrom 21 = .ok (.if_icmp .ge 43, 3) := by decide +kernel
theorem dX2_strollFrom_24 : decode cX2_strollFrom 24 = .ok (.aload_n 1, 1) := by decide +kernel
theorem dX2_strollFrom_25 : decode cX2_strollFrom 25 = .ok (.getfield 84, 3) := by decide +kernel
theorem dX2_strollFrom_28 : decode cX2_strollFrom 28 = .ok (.iload 6, 2) := by decide +kernel
theorem dX2_strollFrom_30 : decode cX2_strollFrom 30 = .ok (.iaload, 1) := by decide +kernel
theorem dX2_strollFrom_31 : decode cX2_strollFrom 31 = .ok (.istore 7, 2) := by decide +kernel
theorem dX2_strollFrom_33 : decode cX2_strollFrom 33 = .ok (.aload_n 1, 1) := by decide +kernel
theorem dX2_strollFrom_34 : decode cX2_strollFrom 34 = .ok (.aload_n 2, 1) := by decide +kernel
theorem dX2_strollFrom_35 : decode cX2_strollFrom 35 = .ok (.iload 7, 2) := by decide +kernel
theorem dX2_strollFrom_37 : decode cX2_strollFrom 37 = .ok (.iload_n 3, 1) := by decide +kernel
theorem dX2_strollFrom_38 : decode cX2_strollFrom 38 = .ok (.invokevirtual 94, 3) := by decide +kernel
theorem dX2_strollFrom_41 : decode cX2_strollFrom 41 = .ok (.ifCond .eq 17, 3) := by decide +kernel
theorem dX2_strollFrom_58 : decode cX2_strollFrom 58 = .ok (.iinc 6 1, 3) := by decide +kernel
theorem dX2_strollFrom_61 : decode cX2_strollFrom 61 = .ok (.goto (-50), 3) := by decide +kernel
theorem dX2_strollFrom_44 : decode cX2_strollFrom 44 = .ok (.iload 7, 2) := by decide +kernel
theorem dX2_strollFrom_46 : decode cX2_strollFrom 46 = .ok (.iload 4, 2) := by decide +kernel
theorem dX2_strollFrom_48 : decode cX2_strollFrom 48 = .ok (.if_icmp .eq 6, 3) := by decide +kernel
theorem dX2_strollFrom_54 : decode cX2_strollFrom 54 = .ok (.iload 7, 2) := by decide +kernel
theorem dX2_strollFrom_56 : decode cX2_strollFrom 56 = .ok (.istore 5, 2) := by decide +kernel
theorem dX2_strollFrom_51 : decode cX2_strollFrom 51 = .ok (.iload 7, 2) := by decide +kernel
theorem dX2_strollFrom_53 : decode cX2_strollFrom 53 = .ok (.ireturn, 1) := by decide +kernel
theorem dX2_strollFrom_64 : decode cX2_strollFrom 64 = .ok (.iload 5, 2) := by decide +kernel
theorem dX2_strollFrom_66 : decode cX2_strollFrom 66 = .ok (.ireturn, 1) := by decide +kernel
theorem dX8_isWayFor_0 : decode cX8_isWayFor 0 = .ok (.lload_n 2, 1) := by decide +kernel
theorem dX8_isWayFor_1 : decode cX8_isWayFor 1 = .ok (.lconst 0, 1) := by decide +kernel
theorem dX8_isWayFor_2 : decode cX8_isWayFor 2 = .ok (.lcmp, 1) := by decide +kernel
theorem dX8_isWayFor_3 : decode cX8_isWayFor 3 = .ok (.ifCond .lt 33, 3) := by decide +kernel
theorem dX8_isWayFor_36 : decode cX8_isWayFor 36 = .ok (.iconst 0, 1) := by decide +kernel
theorem dX8_isWayFor_37 : decode cX8_isWayFor 37 = .ok (.ireturn, 1) := by decide +kernel
theorem dX8_isWayFor_6 : decode cX8_isWayFor 6 = .ok (.lload_n 2, 1) := by decide +kernel
theorem dX8_isWayFor_7 : decode cX8_isWayFor 7 = .ok (.ldc2_w 98, 3) := by decide +kernel
theorem dX8_isWayFor_10 : decode cX8_isWayFor 10 = .ok (.lcmp, 1) := by decide +kernel
theorem dX8_isWayFor_11 : decode cX8_isWayFor 11 = .ok (.ifCond .gt 25, 3) := by decide +kernel
theorem dX8_isWayFor_14 : decode cX8_isWayFor 14 = .ok (.lload_n 2, 1) := by decide +kernel
theorem dX8_isWayFor_15 : decode cX8_isWayFor 15 = .ok (.ldc2_w 98, 3) := by decide +kernel
theorem dX8_isWayFor_18 : decode cX8_isWayFor 18 = .ok (.lcmp, 1) := by decide +kernel
theorem dX8_isWayFor_19 : decode cX8_isWayFor 19 = .ok (.ifCond .ne 13, 3) := by decide +kernel
theorem dX8_isWayFor_32 : decode cX8_isWayFor 32 = .ok (.iconst 1, 1) := by decide +kernel
theorem dX8_isWayFor_33 : decode cX8_isWayFor 33 = .ok (.goto 4, 3) := by decide +kernel
theorem dX8_isWayFor_22 : decode cX8_isWayFor 22 = .ok (.aload_n 0, 1) := by decide +kernel
theorem dX8_isWayFor_23 : decode cX8_isWayFor 23 = .ok (.getfield 40, 3) := by decide +kernel
theorem dX8_isWayFor_26 : decode cX8_isWayFor 26 = .ok (.iload_n 1, 1) := by decide +kernel
theorem dX8_isWayFor_27 : decode cX8_isWayFor 27 = .ok (.iaload, 1) := by decide +kernel
theorem dX8_isWayFor_28 : decode cX8_isWayFor 28 = .ok (.iconst (-1), 1) := by decide +kernel
theorem dX8_isWayFor_29 : decode cX8_isWayFor 29 = .ok (.if_icmp .eq 7, 3) := by decide +kernel
theorem dX8_mayGive_0 : decode cX8_mayGive 0 = .ok (.aload_n 0, 1) := by decide +kernel
theorem dX8_mayGive_1 : decode cX8_mayGive 1 = .ok (.iload_n 1, 1) := by decide +kernel
theorem dX8_mayGive_2 : decode cX8_mayGive 2 = .ok (.invokevirtual 100, 3) := by decide +kernel
theorem dX8_mayGive_5 : decode cX8_mayGive 5 = .ok (.ifCond .ne 16, 3) := by decide +kernel
theorem dX8_mayGive_8 : decode cX8_mayGive 8 = .ok (.aload_n 0, 1) := by decide +kernel
theorem dX8_mayGive_9 : decode cX8_mayGive 9 = .ok (.iload_n 1, 1) := by decide +kernel
theorem dX8_mayGive_10 : decode cX8_mayGive 10 = .ok (.lload_n 2, 1) := by decide +kernel
theorem dX8_mayGive_11 : decode cX8_mayGive 11 = .ok (.invokevirtual 104, 3) := by decide +kernel
theorem dX8_mayGive_14 : decode cX8_mayGive 14 = .ok (.ifCond .eq 7, 3) := by decide +kernel
theorem dX8_mayGive_21 : decode cX8_mayGive 21 = .ok (.iconst 0, 1) := by decide +kernel
theorem dX8_mayGive_22 : decode cX8_mayGive 22 = .ok (.ireturn, 1) := by decide +kernel
theorem dX8_mayGive_17 : decode cX8_mayGive 17 = .ok (.iconst 1, 1) := by decide +kernel
theorem dX8_mayGive_18 : decode cX8_mayGive 18 = .ok (.goto 4, 3) := by decide +kernel
theorem dX8_signsFor_0 : decode cX8_signsFor 0 = .ok (.iconst 0, 1) := by decide +kernel
theorem dX8_signsFor_1 : decode cX8_signsFor 1 = .ok (.istore_n 2, 1) := by decide +kernel
theorem dX8_signsFor_2 : decode cX8_signsFor 2 = .ok (.iconst 0, 1) := by decide +kernel
theorem dX8_signsFor_3 : decode cX8_signsFor 3 = .ok (.istore_n 3, 1) := by decide +kernel
theorem dX8_signsFor_4 : decode cX8_signsFor 4 = .ok (.iload_n 3, 1) := by decide +kernel
theorem dX8_signsFor_5 : decode cX8_signsFor 5 = .ok (.aload_n 0, 1) := by decide +kernel
theorem dX8_signsFor_6 : decode cX8_signsFor 6 = .ok (.getfield 15, 3) := by decide +kernel
theorem dX8_signsFor_9 : decode cX8_signsFor 9 = .ok (.if_icmp .ge 98, 3) := by decide +kernel
theorem dX8_signsFor_12 : decode cX8_signsFor 12 = .ok (.aload_n 0, 1) := by decide +kernel
theorem dX8_signsFor_13 : decode cX8_signsFor 13 = .ok (.getfield 63, 3) := by decide +kernel
theorem dX8_signsFor_16 : decode cX8_signsFor 16 = .ok (.iload_n 3, 1) := by decide +kernel
theorem dX8_signsFor_17 : decode cX8_signsFor 17 = .ok (.iconst 1, 1) := by decide +kernel
theorem dX8_signsFor_18 : decode cX8_signsFor 18 = .ok (.iadd, 1) := by decide +kernel
theorem dX8_signsFor_19 : decode cX8_signsFor 19 = .ok (.iaload, 1) := by decide +kernel
theorem dX8_signsFor_20 : decode cX8_signsFor 20 = .ok (.aload_n 0, 1) := by decide +kernel
theorem dX8_signsFor_21 : decode cX8_signsFor 21 = .ok (.getfield 63, 3) := by decide +kernel
theorem dX8_signsFor_24 : decode cX8_signsFor 24 = .ok (.iload_n 3, 1) := by decide +kernel
theorem dX8_signsFor_25 : decode cX8_signsFor 25 = .ok (.iaload, 1) := by decide +kernel
theorem dX8_signsFor_26 : decode cX8_signsFor 26 = .ok (.isub, 1) := by decide +kernel
theorem dX8_signsFor_27 : decode cX8_signsFor 27 = .ok (.istore 4, 2) := by decide +kernel
theorem dX8_signsFor_29 : decode cX8_signsFor 29 = .ok (.iconst 0, 1) := by decide +kernel
theorem dX8_signsFor_30 : decode cX8_signsFor 30 = .ok (.istore 5, 2) := by decide +kernel
theorem dX8_signsFor_32 : decode cX8_signsFor 32 = .ok (.aload_n 0, 1) := by decide +kernel
theorem dX8_signsFor_33 : decode cX8_signsFor 33 = .ok (.getfield 63, 3) := by decide +kernel
theorem dX8_signsFor_36 : decode cX8_signsFor 36 = .ok (.iload_n 3, 1) := by decide +kernel
theorem dX8_signsFor_37 : decode cX8_signsFor 37 = .ok (.iaload, 1) := by decide +kernel
theorem dX8_signsFor_38 : decode cX8_signsFor 38 = .ok (.istore 6, 2) := by decide +kernel
theorem dX8_signsFor_40 : decode cX8_signsFor 40 = .ok (.iload 6, 2) := by decide +kernel
theorem dX8_signsFor_42 : decode cX8_signsFor 42 = .ok (.aload_n 0, 1) := by decide +kernel
theorem dX8_signsFor_43 : decode cX8_signsFor 43 = .ok (.getfield 63, 3) := by decide +kernel
theorem dX8_signsFor_46 : decode cX8_signsFor 46 = .ok (.iload_n 3, 1) := by decide +kernel
theorem dX8_signsFor_47 : decode cX8_signsFor 47 = .ok (.iconst 1, 1) := by decide +kernel
theorem dX8_signsFor_48 : decode cX8_signsFor 48 = .ok (.iadd, 1) := by decide +kernel
theorem dX8_signsFor_49 : decode cX8_signsFor 49 = .ok (.iaload, 1) := by decide +kernel
theorem dX8_signsFor_50 : decode cX8_signsFor 50 = .ok (.if_icmp .ge 28, 3) := by decide +kernel
theorem dX8_signsFor_53 : decode cX8_signsFor 53 = .ok (.aload_n 0, 1) := by decide +kernel
theorem dX8_signsFor_54 : decode cX8_signsFor 54 = .ok (.aload_n 1, 1) := by decide +kernel
theorem dX8_signsFor_55 : decode cX8_signsFor 55 = .ok (.aload_n 0, 1) := by decide +kernel
theorem dX8_signsFor_56 : decode cX8_signsFor 56 = .ok (.getfield 66, 3) := by decide +kernel
theorem dX8_signsFor_59 : decode cX8_signsFor 59 = .ok (.iload 6, 2) := by decide +kernel
theorem dX8_signsFor_61 : decode cX8_signsFor 61 = .ok (.iaload, 1) := by decide +kernel
theorem dX8_signsFor_62 : decode cX8_signsFor 62 = .ok (.iload_n 3, 1) := by decide +kernel
theorem dX8_signsFor_63 : decode cX8_signsFor 63 = .ok (.invokevirtual 108, 3) := by decide +kernel
theorem dX8_signsFor_66 : decode cX8_signsFor 66 = .ok (.ifCond .ne 6, 3) := by decide +kernel
theorem dX8_signsFor_69 : decode cX8_signsFor 69 = .ok (.iinc 5 1, 3) := by decide +kernel
theorem dX8_signsFor_72 : decode cX8_signsFor 72 = .ok (.iinc 6 1, 3) := by decide +kernel
theorem dX8_signsFor_75 : decode cX8_signsFor 75 = .ok (.goto (-35), 3) := by decide +kernel
theorem dX8_signsFor_78 : decode cX8_signsFor 78 = .ok (.iload_n 2, 1) := by decide +kernel
theorem dX8_signsFor_79 : decode cX8_signsFor 79 = .ok (.iload 5, 2) := by decide +kernel
theorem dX8_signsFor_81 : decode cX8_signsFor 81 = .ok (.ifCond .le 16, 3) := by decide +kernel
theorem dX8_signsFor_97 : decode cX8_signsFor 97 = .ok (.iload 5, 2) := by decide +kernel
theorem dX8_signsFor_99 : decode cX8_signsFor 99 = .ok (.iadd, 1) := by decide +kernel
theorem dX8_signsFor_100 : decode cX8_signsFor 100 = .ok (.istore_n 2, 1) := by decide +kernel
theorem dX8_signsFor_101 : decode cX8_signsFor 101 = .ok (.iinc 3 1, 3) := by decide +kernel
theorem dX8_signsFor_104 : decode cX8_signsFor 104 = .ok (.goto (-100), 3) := by decide +kernel
theorem dX8_signsFor_84 : decode cX8_signsFor 84 = .ok (.iload 4, 2) := by decide +kernel
theorem dX8_signsFor_86 : decode cX8_signsFor 86 = .ok (.iload 5, 2) := by decide +kernel
theorem dX8_signsFor_88 : decode cX8_signsFor 88 = .ok (.isub, 1) := by decide +kernel
theorem dX8_signsFor_89 : decode cX8_signsFor 89 = .ok (.iconst 1, 1) := by decide +kernel
theorem dX8_signsFor_90 : decode cX8_signsFor 90 = .ok (.if_icmp .ne 7, 3) := by decide +kernel
theorem dX8_signsFor_93 : decode cX8_signsFor 93 = .ok (.iconst 1, 1) := by decide +kernel
theorem dX8_signsFor_94 : decode cX8_signsFor 94 = .ok (.goto 5, 3) := by decide +kernel
theorem dX8_signsFor_107 : decode cX8_signsFor 107 = .ok (.iload_n 2, 1) := by decide +kernel
theorem dX8_signsFor_108 : decode cX8_signsFor 108 = .ok (.ireturn, 1) := by decide +kernel
theorem dX0_canEnd_0 : decode cX0_canEnd 0 = .ok (.aload_n 1, 1) := by decide +kernel
theorem dX0_canEnd_1 : decode cX0_canEnd 1 = .ok (.getfield 19, 3) := by decide +kernel
theorem dX0_canEnd_4 : decode cX0_canEnd 4 = .ok (.aload_n 1, 1) := by decide +kernel
theorem dX0_canEnd_5 : decode cX0_canEnd 5 = .ok (.aload_n 2, 1) := by decide +kernel
theorem dX0_canEnd_6 : decode cX0_canEnd 6 = .ok (.invokevirtual 25, 3) := by decide +kernel
theorem dX0_canEnd_9 : decode cX0_canEnd 9 = .ok (.iand, 1) := by decide +kernel
theorem dX0_canEnd_10 : decode cX0_canEnd 10 = .ok (.ifCond .ne 19, 3) := by decide +kernel
theorem dX0_canEnd_29 : decode cX0_canEnd 29 = .ok (.iconst 0, 1) := by decide +kernel
theorem dX0_canEnd_30 : decode cX0_canEnd 30 = .ok (.ireturn, 1) := by decide +kernel
theorem dX0_canEnd_13 : decode cX0_canEnd 13 = .ok (.aload_n 0, 1) := by decide +kernel
theorem dX0_canEnd_14 : decode cX0_canEnd 14 = .ok (.getfield 15, 3) := by decide +kernel
theorem dX0_canEnd_17 : decode cX0_canEnd 17 = .ok (.aload_n 1, 1) := by decide +kernel
theorem dX0_canEnd_18 : decode cX0_canEnd 18 = .ok (.aload_n 2, 1) := by decide +kernel
theorem dX0_canEnd_19 : decode cX0_canEnd 19 = .ok (.invokevirtual 29, 3) := by decide +kernel
theorem dX0_canEnd_22 : decode cX0_canEnd 22 = .ok (.ifCond .eq 7, 3) := by decide +kernel
theorem dX0_canEnd_25 : decode cX0_canEnd 25 = .ok (.iconst 1, 1) := by decide +kernel
theorem dX0_canEnd_26 : decode cX0_canEnd 26 = .ok (.goto 4, 3) := by decide +kernel
theorem dX0_barring_0 : decode cX0_barring 0 = .ok (.aload_n 1, 1) := by decide +kernel
theorem dX0_barring_1 : decode cX0_barring 1 = .ok (.getfield 19, 3) := by decide +kernel
theorem dX0_barring_4 : decode cX0_barring 4 = .ok (.aload_n 1, 1) := by decide +kernel
theorem dX0_barring_5 : decode cX0_barring 5 = .ok (.aload_n 2, 1) := by decide +kernel
theorem dX0_barring_6 : decode cX0_barring 6 = .ok (.invokevirtual 25, 3) := by decide +kernel
theorem dX0_barring_9 : decode cX0_barring 9 = .ok (.iand, 1) := by decide +kernel
theorem dX0_barring_10 : decode cX0_barring 10 = .ok (.istore_n 3, 1) := by decide +kernel
theorem dX0_barring_11 : decode cX0_barring 11 = .ok (.iconst 0, 1) := by decide +kernel
theorem dX0_barring_12 : decode cX0_barring 12 = .ok (.istore 4, 2) := by decide +kernel
theorem dX0_barring_14 : decode cX0_barring 14 = .ok (.iload 4, 2) := by decide +kernel
theorem dX0_barring_16 : decode cX0_barring 16 = .ok (.aload_n 1, 1) := by decide +kernel
theorem dX0_barring_17 : decode cX0_barring 17 = .ok (.getfield 35, 3) := by decide +kernel
theorem dX0_barring_20 : decode cX0_barring 20 = .ok (.if_icmp .ge 21, 3) := by decide +kernel
theorem dX0_barring_23 : decode cX0_barring 23 = .ok (.iload_n 3, 1) := by decide +kernel
theorem dX0_barring_24 : decode cX0_barring 24 = .ok (.iload 4, 2) := by decide +kernel
theorem dX0_barring_26 : decode cX0_barring 26 = .ok (.ishr, 1) := by decide +kernel
theorem dX0_barring_27 : decode cX0_barring 27 = .ok (.iconst 1, 1) := by decide +kernel
theorem dX0_barring_28 : decode cX0_barring 28 = .ok (.iand, 1) := by decide +kernel
theorem dX0_barring_29 : decode cX0_barring 29 = .ok (.ifCond .eq 6, 3) := by decide +kernel
theorem dX0_barring_35 : decode cX0_barring 35 = .ok (.iinc 4 1, 3) := by decide +kernel
theorem dX0_barring_38 : decode cX0_barring 38 = .ok (.goto (-24), 3) := by decide +kernel
theorem dX0_barring_32 : decode cX0_barring 32 = .ok (.iload 4, 2) := by decide +kernel
theorem dX0_barring_34 : decode cX0_barring 34 = .ok (.ireturn, 1) := by decide +kernel
theorem dX0_barring_41 : decode cX0_barring 41 = .ok (.iconst (-1), 1) := by decide +kernel
theorem dX0_barring_42 : decode cX0_barring 42 = .ok (.ireturn, 1) := by decide +kernel
theorem dX0_canEndWith_0 : decode cX0_canEndWith 0 = .ok (.aload_n 2, 1) := by decide +kernel
theorem dX0_canEndWith_1 : decode cX0_canEndWith 1 = .ok (.iload_n 3, 1) := by decide +kernel
theorem dX0_canEndWith_2 : decode cX0_canEndWith 2 = .ok (.iaload, 1) := by decide +kernel
theorem dX0_canEndWith_3 : decode cX0_canEndWith 3 = .ok (.istore 5, 2) := by decide +kernel
theorem dX0_canEndWith_5 : decode cX0_canEndWith 5 = .ok (.aload_n 2, 1) := by decide +kernel
theorem dX0_canEndWith_6 : decode cX0_canEndWith 6 = .ok (.iload_n 3, 1) := by decide +kernel
theorem dX0_canEndWith_7 : decode cX0_canEndWith 7 = .ok (.iload 4, 2) := by decide +kernel
theorem dX0_canEndWith_9 : decode cX0_canEndWith 9 = .ok (.iastore, 1) := by decide +kernel
theorem dX0_canEndWith_10 : decode cX0_canEndWith 10 = .ok (.aload_n 0, 1) := by decide +kernel
theorem dX0_canEndWith_11 : decode cX0_canEndWith 11 = .ok (.aload_n 1, 1) := by decide +kernel
theorem dX0_canEndWith_12 : decode cX0_canEndWith 12 = .ok (.aload_n 2, 1) := by decide +kernel
theorem dX0_canEndWith_13 : decode cX0_canEndWith 13 = .ok (.invokevirtual 38, 3) := by decide +kernel
theorem dX0_canEndWith_16 : decode cX0_canEndWith 16 = .ok (.istore 6, 2) := by decide +kernel
theorem dX0_canEndWith_18 : decode cX0_canEndWith 18 = .ok (.aload_n 2, 1) := by decide +kernel
theorem dX0_canEndWith_19 : decode cX0_canEndWith 19 = .ok (.iload_n 3, 1) := by decide +kernel
theorem dX0_canEndWith_20 : decode cX0_canEndWith 20 = .ok (.iload 5, 2) := by decide +kernel
theorem dX0_canEndWith_22 : decode cX0_canEndWith 22 = .ok (.iastore, 1) := by decide +kernel
theorem dX0_canEndWith_23 : decode cX0_canEndWith 23 = .ok (.iload 6, 2) := by decide +kernel
theorem dX0_canEndWith_25 : decode cX0_canEndWith 25 = .ok (.ireturn, 1) := by decide +kernel
theorem dX0_endAsShown_0 : decode cX0_endAsShown 0 = .ok (.aload_n 0, 1) := by decide +kernel
theorem dX0_endAsShown_1 : decode cX0_endAsShown 1 = .ok (.aload_n 1, 1) := by decide +kernel
theorem dX0_endAsShown_2 : decode cX0_endAsShown 2 = .ok (.aload_n 2, 1) := by decide +kernel
theorem dX0_endAsShown_3 : decode cX0_endAsShown 3 = .ok (.invokevirtual 38, 3) := by decide +kernel
theorem dX0_endAsShown_6 : decode cX0_endAsShown 6 = .ok (.ifCond .ne 5, 3) := by decide +kernel
theorem dX0_endAsShown_11 : decode cX0_endAsShown 11 = .ok (.iconst 0, 1) := by decide +kernel
theorem dX0_endAsShown_12 : decode cX0_endAsShown 12 = .ok (.istore_n 3, 1) := by decide +kernel
theorem dX0_endAsShown_13 : decode cX0_endAsShown 13 = .ok (.iconst 0, 1) := by decide +kernel
theorem dX0_endAsShown_14 : decode cX0_endAsShown 14 = .ok (.istore 4, 2) := by decide +kernel
theorem dX0_endAsShown_16 : decode cX0_endAsShown 16 = .ok (.iload 4, 2) := by decide +kernel
theorem dX0_endAsShown_18 : decode cX0_endAsShown 18 = .ok (.aload_n 1, 1) := by decide +kernel
theorem dX0_endAsShown_19 : decode cX0_endAsShown 19 = .ok (.getfield 35, 3) := by decide +kernel
theorem dX0_endAsShown_22 : decode cX0_endAsShown 22 = .ok (.if_icmp .ge 40, 3) := by decide +kernel
theorem dX0_endAsShown_25 : decode cX0_endAsShown 25 = .ok (.aload_n 2, 1) := by decide +kernel
theorem dX0_endAsShown_26 : decode cX0_endAsShown 26 = .ok (.iload 4, 2) := by decide +kernel
theorem dX0_endAsShown_28 : decode cX0_endAsShown 28 = .ok (.iaload, 1) := by decide +kernel
theorem dX0_endAsShown_29 : decode cX0_endAsShown 29 = .ok (.ifCond .ne 27, 3) := by decide +kernel
theorem dX0_endAsShown_56 : decode cX0_endAsShown 56 = .ok (.iinc 4 1, 3) := by decide +kernel
theorem dX0_endAsShown_59 : decode cX0_endAsShown 59 = .ok (.goto (-43), 3) := by decide +kernel
theorem dX0_endAsShown_32 : decode cX0_endAsShown 32 = .ok (.aload_n 2, 1) := by decide +kernel
theorem dX0_endAsShown_33 : decode cX0_endAsShown 33 = .ok (.iload 4, 2) := by decide +kernel
theorem dX0_endAsShown_35 : decode cX0_endAsShown 35 = .ok (.aload_n 0, 1) := by decide +kernel
theorem dX0_endAsShown_36 : decode cX0_endAsShown 36 = .ok (.aload_n 1, 1) := by decide +kernel
theorem dX0_endAsShown_37 : decode cX0_endAsShown 37 = .ok (.aload_n 2, 1) := by decide +kernel
theorem dX0_endAsShown_38 : decode cX0_endAsShown 38 = .ok (.iload 4, 2) := by decide +kernel
theorem dX0_endAsShown_40 : decode cX0_endAsShown 40 = .ok (.iconst 1, 1) := by decide +kernel
theorem dX0_endAsShown_41 : decode cX0_endAsShown 41 = .ok (.invokevirtual 41, 3) := by decide +kernel
theorem dX0_endAsShown_44 : decode cX0_endAsShown 44 = .ok (.ifCond .eq 7, 3) := by decide +kernel
theorem dX0_endAsShown_51 : decode cX0_endAsShown 51 = .ok (.iconst 2, 1) := by decide +kernel
theorem dX0_endAsShown_52 : decode cX0_endAsShown 52 = .ok (.iastore, 1) := by decide +kernel
theorem dX0_endAsShown_53 : decode cX0_endAsShown 53 = .ok (.iinc 3 1, 3) := by decide +kernel
theorem dX0_endAsShown_47 : decode cX0_endAsShown 47 = .ok (.iconst 1, 1) := by decide +kernel
theorem dX0_endAsShown_48 : decode cX0_endAsShown 48 = .ok (.goto 4, 3) := by decide +kernel
theorem dX0_endAsShown_62 : decode cX0_endAsShown 62 = .ok (.iload_n 3, 1) := by decide +kernel
theorem dX0_endAsShown_63 : decode cX0_endAsShown 63 = .ok (.ireturn, 1) := by decide +kernel
theorem dX0_endAsShown_9 : decode cX0_endAsShown 9 = .ok (.iconst (-1), 1) := by decide +kernel
theorem dX0_endAsShown_10 : decode cX0_endAsShown 10 = .ok (.ireturn, 1) := by decide +kernel
theorem dX0_onlyWay_0 : decode cX0_onlyWay 0 = .ok (.aload_n 2, 1) := by decide +kernel
theorem dX0_onlyWay_1 : decode cX0_onlyWay 1 = .ok (.iload_n 3, 1) := by decide +kernel
theorem dX0_onlyWay_2 : decode cX0_onlyWay 2 = .ok (.iaload, 1) := by decide +kernel
theorem dX0_onlyWay_3 : decode cX0_onlyWay 3 = .ok (.ifCond .eq 5, 3) := by decide +kernel
theorem dX0_onlyWay_8 : decode cX0_onlyWay 8 = .ok (.aload_n 0, 1) := by decide +kernel
theorem dX0_onlyWay_9 : decode cX0_onlyWay 9 = .ok (.aload_n 1, 1) := by decide +kernel
theorem dX0_onlyWay_10 : decode cX0_onlyWay 10 = .ok (.aload_n 2, 1) := by decide +kernel
theorem dX0_onlyWay_11 : decode cX0_onlyWay 11 = .ok (.iload_n 3, 1) := by decide +kernel
theorem dX0_onlyWay_12 : decode cX0_onlyWay 12 = .ok (.iconst 1, 1) := by decide +kernel
theorem dX0_onlyWay_13 : decode cX0_onlyWay 13 = .ok (.invokevirtual 41, 3) := by decide +kernel
theorem dX0_onlyWay_16 : decode cX0_onlyWay 16 = .ok (.istore 4, 2) := by decide +kernel
theorem dX0_onlyWay_18 : decode cX0_onlyWay 18 = .ok (.aload_n 0, 1) := by decide +kernel
theorem dX0_onlyWay_19 : decode cX0_onlyWay 19 = .ok (.aload_n 1, 1) := by decide +kernel
theorem dX0_onlyWay_20 : decode cX0_onlyWay 20 = .ok (.aload_n 2, 1) := by decide +kernel
theorem dX0_onlyWay_21 : decode cX0_onlyWay 21 = .ok (.iload_n 3, 1) := by decide +kernel
theorem dX0_onlyWay_22 : decode cX0_onlyWay 22 = .ok (.iconst 2, 1) := by decide +kernel
theorem dX0_onlyWay_23 : decode cX0_onlyWay 23 = .ok (.invokevirtual 41, 3) := by decide +kernel
theorem dX0_onlyWay_26 : decode cX0_onlyWay 26 = .ok (.istore 5, 2) := by decide +kernel
theorem dX0_onlyWay_28 : decode cX0_onlyWay 28 = .ok (.iload 4, 2) := by decide +kernel
theorem dX0_onlyWay_30 : decode cX0_onlyWay 30 = .ok (.iload 5, 2) := by decide +kernel
theorem dX0_onlyWay_32 : decode cX0_onlyWay 32 = .ok (.if_icmp .ne 5, 3) := by decide +kernel
theorem dX0_onlyWay_37 : decode cX0_onlyWay 37 = .ok (.iload 4, 2) := by decide +kernel
theorem dX0_onlyWay_39 : decode cX0_onlyWay 39 = .ok (.ifCond .eq 7, 3) := by decide +kernel
theorem dX0_onlyWay_46 : decode cX0_onlyWay 46 = .ok (.iconst 2, 1) := by decide +kernel
theorem dX0_onlyWay_47 : decode cX0_onlyWay 47 = .ok (.ireturn, 1) := by decide +kernel
theorem dX0_onlyWay_42 : decode cX0_onlyWay 42 = .ok (.iconst 1, 1) := by decide +kernel
theorem dX0_onlyWay_43 : decode cX0_onlyWay 43 = .ok (.goto 4, 3) := by decide +kernel
theorem dX0_onlyWay_35 : decode cX0_onlyWay 35 = .ok (.iconst 0, 1) := by decide +kernel
theorem dX0_onlyWay_36 : decode cX0_onlyWay 36 = .ok (.ireturn, 1) := by decide +kernel
theorem dX0_onlyWay_6 : decode cX0_onlyWay 6 = .ok (.iconst 0, 1) := by decide +kernel
theorem dX0_onlyWay_7 : decode cX0_onlyWay 7 = .ok (.ireturn, 1) := by decide +kernel
theorem dX0_forcedAlleys_0 : decode cX0_forcedAlleys 0 = .ok (.aload_n 0, 1) := by decide +kernel
theorem dX0_forcedAlleys_1 : decode cX0_forcedAlleys 1 = .ok (.aload_n 1, 1) := by decide +kernel
theorem dX0_forcedAlleys_2 : decode cX0_forcedAlleys 2 = .ok (.aload_n 2, 1) := by decide +kernel
theorem dX0_forcedAlleys_3 : decode cX0_forcedAlleys 3 = .ok (.invokevirtual 38, 3) := by decide +kernel
theorem dX0_forcedAlleys_6 : decode cX0_forcedAlleys 6 = .ok (.ifCond .ne 5, 3) := by decide +kernel
theorem dX0_forcedAlleys_11 : decode cX0_forcedAlleys 11 = .ok (.iconst 0, 1) := by decide +kernel
theorem dX0_forcedAlleys_12 : decode cX0_forcedAlleys 12 = .ok (.istore_n 3, 1) := by decide +kernel
theorem dX0_forcedAlleys_13 : decode cX0_forcedAlleys 13 = .ok (.iconst 0, 1) := by decide +kernel
theorem dX0_forcedAlleys_14 : decode cX0_forcedAlleys 14 = .ok (.istore 4, 2) := by decide +kernel
theorem dX0_forcedAlleys_16 : decode cX0_forcedAlleys 16 = .ok (.iload 4, 2) := by decide +kernel
theorem dX0_forcedAlleys_18 : decode cX0_forcedAlleys 18 = .ok (.aload_n 1, 1) := by decide +kernel
theorem dX0_forcedAlleys_19 : decode cX0_forcedAlleys 19 = .ok (.getfield 35, 3) := by decide +kernel
theorem dX0_forcedAlleys_22 : decode cX0_forcedAlleys 22 = .ok (.if_icmp .ge 27, 3) := by decide +kernel
theorem dX0_forcedAlleys_25 : decode cX0_forcedAlleys 25 = .ok (.aload_n 0, 1) := by decide +kernel
theorem dX0_forcedAlleys_26 : decode cX0_forcedAlleys 26 = .ok (.aload_n 1, 1) := by decide +kernel
theorem dX0_forcedAlleys_27 : decode cX0_forcedAlleys 27 = .ok (.aload_n 2, 1) := by decide +kernel
theorem dX0_forcedAlleys_28 : decode cX0_forcedAlleys 28 = .ok (.iload 4, 2) := by decide +kernel
theorem dX0_forcedAlleys_30 : decode cX0_forcedAlleys 30 = .ok (.invokevirtual 45, 3) := by decide +kernel
theorem dX0_forcedAlleys_33 : decode cX0_forcedAlleys 33 = .ok (.ifCond .eq 10, 3) := by decide +kernel
theorem dX0_forcedAlleys_43 : decode cX0_forcedAlleys 43 = .ok (.iinc 4 1, 3) := by decide +kernel
theorem dX0_forcedAlleys_46 : decode cX0_forcedAlleys 46 = .ok (.goto (-30), 3) := by decide +kernel
theorem dX0_forcedAlleys_36 : decode cX0_forcedAlleys 36 = .ok (.iload_n 3, 1) := by decide +kernel
theorem dX0_forcedAlleys_37 : decode cX0_forcedAlleys 37 = .ok (.iconst 1, 1) := by decide +kernel
theorem dX0_forcedAlleys_38 : decode cX0_forcedAlleys 38 = .ok (.iload 4, 2) := by decide +kernel
theorem dX0_forcedAlleys_40 : decode cX0_forcedAlleys 40 = .ok (.ishl, 1) := by decide +kernel
theorem dX0_forcedAlleys_41 : decode cX0_forcedAlleys 41 = .ok (.ior, 1) := by decide +kernel
theorem dX0_forcedAlleys_42 : decode cX0_forcedAlleys 42 = .ok (.istore_n 3, 1) := by decide +kernel
theorem dX0_forcedAlleys_49 : decode cX0_forcedAlleys 49 = .ok (.iload_n 3, 1) := by decide +kernel
theorem dX0_forcedAlleys_50 : decode cX0_forcedAlleys 50 = .ok (.ireturn, 1) := by decide +kernel
theorem dX0_forcedAlleys_9 : decode cX0_forcedAlleys 9 = .ok (.iconst (-1), 1) := by decide +kernel
theorem dX0_forcedAlleys_10 : decode cX0_forcedAlleys 10 = .ok (.ireturn, 1) := by decide +kernel
theorem dX10_isOneWay_0 : decode cX10_isOneWay 0 = .ok (.iload_n 0, 1) := by decide +kernel
theorem dX10_isOneWay_1 : decode cX10_isOneWay 1 = .ok (.iconst 1, 1) := by decide +kernel
theorem dX10_isOneWay_2 : decode cX10_isOneWay 2 = .ok (.if_icmp .eq 8, 3) := by decide +kernel
theorem dX10_isOneWay_10 : decode cX10_isOneWay 10 = .ok (.iconst 1, 1) := by decide +kernel
theorem dX10_isOneWay_11 : decode cX10_isOneWay 11 = .ok (.goto 4, 3) := by decide +kernel
theorem dX10_isOneWay_15 : decode cX10_isOneWay 15 = .ok (.ireturn, 1) := by decide +kernel
theorem dX10_isOneWay_5 : decode cX10_isOneWay 5 = .ok (.iload_n 0, 1) := by decide +kernel
theorem dX10_isOneWay_6 : decode cX10_isOneWay 6 = .ok (.iconst 2, 1) := by decide +kernel
theorem dX10_isOneWay_7 : decode cX10_isOneWay 7 = .ok (.if_icmp .ne 7, 3) := by decide +kernel
theorem dX10_isOneWay_14 : decode cX10_isOneWay 14 = .ok (.iconst 0, 1) := by decide +kernel
theorem dX10_turnable_0 : decode cX10_turnable 0 = .ok (.iconst 0, 1) := by decide +kernel
theorem dX10_turnable_1 : decode cX10_turnable 1 = .ok (.istore_n 3, 1) := by decide +kernel
theorem dX10_turnable_2 : decode cX10_turnable 2 = .ok (.iconst 0, 1) := by decide +kernel
theorem dX10_turnable_3 : decode cX10_turnable 3 = .ok (.istore 4, 2) := by decide +kernel
theorem dX10_turnable_5 : decode cX10_turnable 5 = .ok (.iload 4, 2) := by decide +kernel
theorem dX10_turnable_7 : decode cX10_turnable 7 = .ok (.aload_n 1, 1) := by decide +kernel
theorem dX10_turnable_8 : decode cX10_turnable 8 = .ok (.getfield 15, 3) := by decide +kernel
theorem dX10_turnable_11 : decode cX10_turnable 11 = .ok (.if_icmp .ge 35, 3) := by decide +kernel
theorem dX10_turnable_14 : decode cX10_turnable 14 = .ok (.aload_n 2, 1) := by decide +kernel
theorem dX10_turnable_15 : decode cX10_turnable 15 = .ok (.iload 4, 2) := by decide +kernel
theorem dX10_turnable_17 : decode cX10_turnable 17 = .ok (.iaload, 1) := by decide +kernel
theorem dX10_turnable_18 : decode cX10_turnable 18 = .ok (.invokestatic 21, 3) := by decide +kernel
theorem dX10_turnable_21 : decode cX10_turnable 21 = .ok (.ifCond .eq 19, 3) := by decide +kernel
theorem dX10_turnable_40 : decode cX10_turnable 40 = .ok (.iinc 4 1, 3) := by decide +kernel
theorem dX10_turnable_43 : decode cX10_turnable 43 = .ok (.goto (-38), 3) := by decide +kernel
theorem dX10_turnable_24 : decode cX10_turnable 24 = .ok (.aload_n 1, 1) := by decide +kernel
theorem dX10_turnable_25 : decode cX10_turnable 25 = .ok (.iload 4, 2) := by decide +kernel
theorem dX10_turnable_27 : decode cX10_turnable 27 = .ok (.invokevirtual 25, 3) := by decide +kernel
theorem dX10_turnable_30 : decode cX10_turnable 30 = .ok (.ifCond .ne 10, 3) := by decide +kernel
theorem dX10_turnable_33 : decode cX10_turnable 33 = .ok (.iload_n 3, 1) := by decide +kernel
theorem dX10_turnable_34 : decode cX10_turnable 34 = .ok (.iconst 1, 1) := by decide +kernel
theorem dX10_turnable_35 : decode cX10_turnable 35 = .ok (.iload 4, 2) := by decide +kernel
theorem dX10_turnable_37 : decode cX10_turnable 37 = .ok (.ishl, 1) := by decide +kernel
theorem dX10_turnable_38 : decode cX10_turnable 38 = .ok (.ior, 1) := by decide +kernel
theorem dX10_turnable_39 : decode cX10_turnable 39 = .ok (.istore_n 3, 1) := by decide +kernel
theorem dX10_turnable_46 : decode cX10_turnable 46 = .ok (.iload_n 3, 1) := by decide +kernel
theorem dX10_turnable_47 : decode cX10_turnable 47 = .ok (.ireturn, 1) := by decide +kernel
theorem dX10_isBetter_0 : decode cX10_isBetter 0 = .ok (.aload_n 0, 1) := by decide +kernel
theorem dX10_isBetter_1 : decode cX10_isBetter 1 = .ok (.aload_n 1, 1) := by decide +kernel
theorem dX10_isBetter_2 : decode cX10_isBetter 2 = .ok (.aload_n 2, 1) := by decide +kernel
theorem dX10_isBetter_3 : decode cX10_isBetter 3 = .ok (.iload_n 3, 1) := by decide +kernel
theorem dX10_isBetter_4 : decode cX10_isBetter 4 = .ok (.invokevirtual 57, 3) := by decide +kernel
theorem dX10_isBetter_7 : decode cX10_isBetter 7 = .ok (.aload_n 0, 1) := by decide +kernel
theorem dX10_isBetter_8 : decode cX10_isBetter 8 = .ok (.getfield 9, 3) := by decide +kernel
theorem dX10_isBetter_11 : decode cX10_isBetter 11 = .ok (.aload_n 1, 1) := by decide +kernel
theorem dX10_isBetter_12 : decode cX10_isBetter 12 = .ok (.aload_n 2, 1) := by decide +kernel
theorem dX10_isBetter_13 : decode cX10_isBetter 13 = .ok (.invokevirtual 61, 3) := by decide +kernel
theorem dX10_isBetter_16 : decode cX10_isBetter 16 = .ok (.ifCond .eq 24, 3) := by decide +kernel
theorem dX10_isBetter_40 : decode cX10_isBetter 40 = .ok (.iconst 0, 1) := by decide +kernel
theorem dX10_isBetter_41 : decode cX10_isBetter 41 = .ok (.istore 5, 2) := by decide +kernel
theorem dX10_isBetter_43 : decode cX10_isBetter 43 = .ok (.aload_n 0, 1) := by decide +kernel
theorem dX10_isBetter_44 : decode cX10_isBetter 44 = .ok (.aload_n 1, 1) := by decide +kernel
theorem dX10_isBetter_45 : decode cX10_isBetter 45 = .ok (.aload_n 2, 1) := by decide +kernel
theorem dX10_isBetter_46 : decode cX10_isBetter 46 = .ok (.iload_n 3, 1) := by decide +kernel
theorem dX10_isBetter_47 : decode cX10_isBetter 47 = .ok (.invokevirtual 57, 3) := by decide +kernel
theorem dX10_isBetter_50 : decode cX10_isBetter 50 = .ok (.iload 5, 2) := by decide +kernel
theorem dX10_isBetter_52 : decode cX10_isBetter 52 = .ok (.ireturn, 1) := by decide +kernel
theorem dX10_isBetter_19 : decode cX10_isBetter 19 = .ok (.aload_n 0, 1) := by decide +kernel
theorem dX10_isBetter_20 : decode cX10_isBetter 20 = .ok (.getfield 9, 3) := by decide +kernel
theorem dX10_isBetter_23 : decode cX10_isBetter 23 = .ok (.aload_n 1, 1) := by decide +kernel
theorem dX10_isBetter_24 : decode cX10_isBetter 24 = .ok (.aload_n 2, 1) := by decide +kernel
theorem dX10_isBetter_25 : decode cX10_isBetter 25 = .ok (.iconst 0, 1) := by decide +kernel
theorem dX10_isBetter_26 : decode cX10_isBetter 26 = .ok (.iload 4, 2) := by decide +kernel
theorem dX10_isBetter_28 : decode cX10_isBetter 28 = .ok (.invokevirtual 29, 3) := by decide +kernel
theorem dX10_isBetter_31 : decode cX10_isBetter 31 = .ok (.iload 4, 2) := by decide +kernel
theorem dX10_isBetter_33 : decode cX10_isBetter 33 = .ok (.if_icmp .ge 7, 3) := by decide +kernel
theorem dX10_isBetter_36 : decode cX10_isBetter 36 = .ok (.iconst 1, 1) := by decide +kernel
theorem dX10_isBetter_37 : decode cX10_isBetter 37 = .ok (.goto 4, 3) := by decide +kernel
theorem dX10_firstOne_0 : decode cX10_firstOne 0 = .ok (.iconst 0, 1) := by decide +kernel
theorem dX10_firstOne_1 : decode cX10_firstOne 1 = .ok (.istore 5, 2) := by decide +kernel
theorem dX10_firstOne_3 : decode cX10_firstOne 3 = .ok (.iload 5, 2) := by decide +kernel
theorem dX10_firstOne_5 : decode cX10_firstOne 5 = .ok (.aload_n 1, 1) := by decide +kernel
theorem dX10_firstOne_6 : decode cX10_firstOne 6 = .ok (.getfield 15, 3) := by decide +kernel
theorem dX10_firstOne_9 : decode cX10_firstOne 9 = .ok (.if_icmp .ge 38, 3) := by decide +kernel
theorem dX10_firstOne_12 : decode cX10_firstOne 12 = .ok (.iconst 1, 1) := by decide +kernel
theorem dX10_firstOne_13 : decode cX10_firstOne 13 = .ok (.iload 5, 2) := by decide +kernel
theorem dX10_firstOne_15 : decode cX10_firstOne 15 = .ok (.ishl, 1) := by decide +kernel
theorem dX10_firstOne_16 : decode cX10_firstOne 16 = .ok (.istore 6, 2) := by decide +kernel
theorem dX10_firstOne_18 : decode cX10_firstOne 18 = .ok (.iload_n 3, 1) := by decide +kernel
theorem dX10_firstOne_19 : decode cX10_firstOne 19 = .ok (.iload 6, 2) := by decide +kernel
theorem dX10_firstOne_21 : decode cX10_firstOne 21 = .ok (.iand, 1) := by decide +kernel
theorem dX10_firstOne_22 : decode cX10_firstOne 22 = .ok (.ifCond .eq 19, 3) := by decide +kernel
theorem dX10_firstOne_41 : decode cX10_firstOne 41 = .ok (.iinc 5 1, 3) := by decide +kernel
theorem dX10_firstOne_44 : decode cX10_firstOne 44 = .ok (.goto (-41), 3) := by decide +kernel
theorem dX10_firstOne_25 : decode cX10_firstOne 25 = .ok (.aload_n 0, 1) := by decide +kernel
theorem dX10_firstOne_26 : decode cX10_firstOne 26 = .ok (.aload_n 1, 1) := by decide +kernel
theorem dX10_firstOne_27 : decode cX10_firstOne 27 = .ok (.aload_n 2, 1) := by decide +kernel
theorem dX10_firstOne_28 : decode cX10_firstOne 28 = .ok (.iload 6, 2) := by decide +kernel
theorem dX10_firstOne_30 : decode cX10_firstOne 30 = .ok (.iload 4, 2) := by decide +kernel
theorem dX10_firstOne_32 : decode cX10_firstOne 32 = .ok (.invokevirtual 49, 3) := by decide +kernel
theorem dX10_firstOne_35 : decode cX10_firstOne 35 = .ok (.ifCond .eq 6, 3) := by decide +kernel
theorem dX10_firstOne_38 : decode cX10_firstOne 38 = .ok (.iload 6, 2) := by decide +kernel
theorem dX10_firstOne_40 : decode cX10_firstOne 40 = .ok (.ireturn, 1) := by decide +kernel
theorem dX10_firstOne_47 : decode cX10_firstOne 47 = .ok (.iconst 0, 1) := by decide +kernel
theorem dX10_firstOne_48 : decode cX10_firstOne 48 = .ok (.ireturn, 1) := by decide +kernel
theorem dX10_firstRing_0 : decode cX10_firstRing 0 = .ok (.iconst 0, 1) := by decide +kernel
theorem dX10_firstRing_1 : decode cX10_firstRing 1 = .ok (.istore 5, 2) := by decide +kernel
theorem dX10_firstRing_3 : decode cX10_firstRing 3 = .ok (.iload 5, 2) := by decide +kernel
theorem dX10_firstRing_5 : decode cX10_firstRing 5 = .ok (.aload_n 1, 1) := by decide +kernel
theorem dX10_firstRing_6 : decode cX10_firstRing 6 = .ok (.getfield 15, 3) := by decide +kernel
theorem dX10_firstRing_9 : decode cX10_firstRing 9 = .ok (.if_icmp .ge 62, 3) := by decide +kernel
theorem dX10_firstRing_12 : decode cX10_firstRing 12 = .ok (.aload_n 2, 1) := by decide +kernel
theorem dX10_firstRing_13 : decode cX10_firstRing 13 = .ok (.iload 5, 2) := by decide +kernel
theorem dX10_firstRing_15 : decode cX10_firstRing 15 = .ok (.iaload, 1) := by decide +kernel
theorem dX10_firstRing_16 : decode cX10_firstRing 16 = .ok (.invokestatic 21, 3) := by decide +kernel
theorem dX10_firstRing_19 : decode cX10_firstRing 19 = .ok (.ifCond .eq 46, 3) := by decide +kernel
theorem dX10_firstRing_65 : decode cX10_firstRing 65 = .ok (.iinc 5 1, 3) := by decide +kernel
theorem dX10_firstRing_68 : decode cX10_firstRing 68 = .ok (.goto (-65), 3) := by decide +kernel
theorem dX10_firstRing_22 : decode cX10_firstRing 22 = .ok (.aload_n 0, 1) := by decide +kernel
theorem dX10_firstRing_23 : decode cX10_firstRing 23 = .ok (.getfield 9, 3) := by decide +kernel
theorem dX10_firstRing_26 : decode cX10_firstRing 26 = .ok (.aload_n 1, 1) := by decide +kernel
theorem dX10_firstRing_27 : decode cX10_firstRing 27 = .ok (.aload_n 2, 1) := by decide +kernel
theorem dX10_firstRing_28 : decode cX10_firstRing 28 = .ok (.iload 5, 2) := by decide +kernel
theorem dX10_firstRing_30 : decode cX10_firstRing 30 = .ok (.invokevirtual 53, 3) := by decide +kernel
theorem dX10_firstRing_33 : decode cX10_firstRing 33 = .ok (.istore 6, 2) := by decide +kernel
theorem dX10_firstRing_35 : decode cX10_firstRing 35 = .ok (.iload 6, 2) := by decide +kernel
theorem dX10_firstRing_37 : decode cX10_firstRing 37 = .ok (.ifCond .eq 28, 3) := by decide +kernel
theorem dX10_firstRing_40 : decode cX10_firstRing 40 = .ok (.iload_n 3, 1) := by decide +kernel
theorem dX10_firstRing_41 : decode cX10_firstRing 41 = .ok (.iload 6, 2) := by decide +kernel
theorem dX10_firstRing_43 : decode cX10_firstRing 43 = .ok (.iand, 1) := by decide +kernel
theorem dX10_firstRing_44 : decode cX10_firstRing 44 = .ok (.iload 6, 2) := by decide +kernel
theorem dX10_firstRing_46 : decode cX10_firstRing 46 = .ok (.if_icmp .ne 19, 3) := by decide +kernel
theorem dX10_firstRing_49 : decode cX10_firstRing 49 = .ok (.aload_n 0, 1) := by decide +kernel
theorem dX10_firstRing_50 : decode cX10_firstRing 50 = .ok (.aload_n 1, 1) := by decide +kernel
theorem dX10_firstRing_51 : decode cX10_firstRing 51 = .ok (.aload_n 2, 1) := by decide +kernel
theorem dX10_firstRing_52 : decode cX10_firstRing 52 = .ok (.iload 6, 2) := by decide +kernel
theorem dX10_firstRing_54 : decode cX10_firstRing 54 = .ok (.iload 4, 2) := by decide +kernel
theorem dX10_firstRing_56 : decode cX10_firstRing 56 = .ok (.invokevirtual 49, 3) := by decide +kernel
theorem dX10_firstRing_59 : decode cX10_firstRing 59 = .ok (.ifCond .eq 6, 3) := by decide +kernel
theorem dX10_firstRing_62 : decode cX10_firstRing 62 = .ok (.iload 6, 2) := by decide +kernel
theorem dX10_firstRing_64 : decode cX10_firstRing 64 = .ok (.ireturn, 1) := by decide +kernel
theorem dX10_firstRing_71 : decode cX10_firstRing 71 = .ok (.iconst 0, 1) := by decide +kernel
theorem dX10_firstRing_72 : decode cX10_firstRing 72 = .ok (.ireturn, 1) := by decide +kernel
theorem dX10_firstTwo_0 : decode cX10_firstTwo 0 = .ok (.iconst 0, 1) := by decide +kernel
theorem dX10_firstTwo_1 : decode cX10_firstTwo 1 = .ok (.istore 5, 2) := by decide +kernel
theorem dX10_firstTwo_3 : decode cX10_firstTwo 3 = .ok (.iload 5, 2) := by decide +kernel
theorem dX10_firstTwo_5 : decode cX10_firstTwo 5 = .ok (.aload_n 1, 1) := by decide +kernel
theorem dX10_firstTwo_6 : decode cX10_firstTwo 6 = .ok (.getfield 15, 3) := by decide +kernel
theorem dX10_firstTwo_9 : decode cX10_firstTwo 9 = .ok (.if_icmp .ge 66, 3) := by decide +kernel
theorem dX10_firstTwo_12 : decode cX10_firstTwo 12 = .ok (.iload 5, 2) := by decide +kernel
theorem dX10_firstTwo_14 : decode cX10_firstTwo 14 = .ok (.iconst 1, 1) := by decide +kernel
theorem dX10_firstTwo_15 : decode cX10_firstTwo 15 = .ok (.iadd, 1) := by decide +kernel
theorem dX10_firstTwo_16 : decode cX10_firstTwo 16 = .ok (.istore 6, 2) := by decide +kernel
theorem dX10_firstTwo_18 : decode cX10_firstTwo 18 = .ok (.iload 6, 2) := by decide +kernel
theorem dX10_firstTwo_20 : decode cX10_firstTwo 20 = .ok (.aload_n 1, 1) := by decide +kernel
theorem dX10_firstTwo_21 : decode cX10_firstTwo 21 = .ok (.getfield 15, 3) := by decide +kernel
theorem dX10_firstTwo_24 : decode cX10_firstTwo 24 = .ok (.if_icmp .ge 45, 3) := by decide +kernel
theorem dX10_firstTwo_27 : decode cX10_firstTwo 27 = .ok (.iconst 1, 1) := by decide +kernel
theorem dX10_firstTwo_28 : decode cX10_firstTwo 28 = .ok (.iload 5, 2) := by decide +kernel
theorem dX10_firstTwo_30 : decode cX10_firstTwo 30 = .ok (.ishl, 1) := by decide +kernel
theorem dX10_firstTwo_31 : decode cX10_firstTwo 31 = .ok (.iconst 1, 1) := by decide +kernel
theorem dX10_firstTwo_32 : decode cX10_firstTwo 32 = .ok (.iload 6, 2) := by decide +kernel
theorem dX10_firstTwo_34 : decode cX10_firstTwo 34 = .ok (.ishl, 1) := by decide +kernel
theorem dX10_firstTwo_35 : decode cX10_firstTwo 35 = .ok (.ior, 1) := by decide +kernel
theorem dX10_firstTwo_36 : decode cX10_firstTwo 36 = .ok (.istore 7, 2) := by decide +kernel
theorem dX10_firstTwo_38 : decode cX10_firstTwo 38 = .ok (.iload_n 3, 1) := by decide +kernel
theorem dX10_firstTwo_39 : decode cX10_firstTwo 39 = .ok (.iload 7, 2) := by decide +kernel
theorem dX10_firstTwo_41 : decode cX10_firstTwo 41 = .ok (.iand, 1) := by decide +kernel
theorem dX10_firstTwo_42 : decode cX10_firstTwo 42 = .ok (.iload 7, 2) := by decide +kernel
theorem dX10_firstTwo_44 : decode cX10_firstTwo 44 = .ok (.if_icmp .ne 19, 3) := by decide +kernel
theorem dX10_firstTwo_63 : decode cX10_firstTwo 63 = .ok (.iinc 6 1, 3) := by decide +kernel
theorem dX10_firstTwo_66 : decode cX10_firstTwo 66 = .ok (.goto (-48), 3) := by decide +kernel
theorem dX10_firstTwo_47 : decode cX10_firstTwo 47 = .ok (.aload_n 0, 1) := by decide +kernel
theorem dX10_firstTwo_48 : decode cX10_firstTwo 48 = .ok (.aload_n 1, 1) := by decide +kernel
theorem dX10_firstTwo_49 : decode cX10_firstTwo 49 = .ok (.aload_n 2, 1) := by decide +kernel
theorem dX10_firstTwo_50 : decode cX10_firstTwo 50 = .ok (.iload 7, 2) := by decide +kernel
theorem dX10_firstTwo_52 : decode cX10_firstTwo 52 = .ok (.iload 4, 2) := by decide +kernel
theorem dX10_firstTwo_54 : decode cX10_firstTwo 54 = .ok (.invokevirtual 49, 3) := by decide +kernel
theorem dX10_firstTwo_57 : decode cX10_firstTwo 57 = .ok (.ifCond .eq 6, 3) := by decide +kernel
theorem dX10_firstTwo_60 : decode cX10_firstTwo 60 = .ok (.iload 7, 2) := by decide +kernel
theorem dX10_firstTwo_62 : decode cX10_firstTwo 62 = .ok (.ireturn, 1) := by decide +kernel
theorem dX10_firstTwo_69 : decode cX10_firstTwo 69 = .ok (.iinc 5 1, 3) := by decide +kernel
theorem dX10_firstTwo_72 : decode cX10_firstTwo 72 = .ok (.goto (-69), 3) := by decide +kernel
theorem dX10_firstTwo_75 : decode cX10_firstTwo 75 = .ok (.iconst 0, 1) := by decide +kernel
theorem dX10_firstTwo_76 : decode cX10_firstTwo 76 = .ok (.ireturn, 1) := by decide +kernel
theorem dX10_firstTurning_0 : decode cX10_firstTurning 0 = .ok (.aload_n 0, 1) := by decide +kernel
theorem dX10_firstTurning_1 : decode cX10_firstTurning 1 = .ok (.getfield 9, 3) := by decide +kernel
theorem dX10_firstTurning_4 : decode cX10_firstTurning 4 = .ok (.aload_n 1, 1) := by decide +kernel
theorem dX10_firstTurning_5 : decode cX10_firstTurning 5 = .ok (.aload_n 2, 1) := by decide +kernel
theorem dX10_firstTurning_6 : decode cX10_firstTurning 6 = .ok (.iconst 0, 1) := by decide +kernel
theorem dX10_firstTurning_7 : decode cX10_firstTurning 7 = .ok (.ldc 28, 2) := by decide +kernel
theorem dX10_firstTurning_9 : decode cX10_firstTurning 9 = .ok (.invokevirtual 29, 3) := by decide +kernel
theorem dX10_firstTurning_12 : decode cX10_firstTurning 12 = .ok (.istore_n 3, 1) := by decide +kernel
theorem dX10_firstTurning_13 : decode cX10_firstTurning 13 = .ok (.aload_n 0, 1) := by decide +kernel
theorem dX10_firstTurning_14 : decode cX10_firstTurning 14 = .ok (.aload_n 1, 1) := by decide +kernel
theorem dX10_firstTurning_15 : decode cX10_firstTurning 15 = .ok (.aload_n 2, 1) := by decide +kernel
theorem dX10_firstTurning_16 : decode cX10_firstTurning 16 = .ok (.invokevirtual 35, 3) := by decide +kernel
theorem dX10_firstTurning_19 : decode cX10_firstTurning 19 = .ok (.istore 4, 2) := by decide +kernel
theorem dX10_firstTurning_21 : decode cX10_firstTurning 21 = .ok (.aload_n 0, 1) := by decide +kernel
theorem dX10_firstTurning_22 : decode cX10_firstTurning 22 = .ok (.aload_n 1, 1) := by decide +kernel
theorem dX10_firstTurning_23 : decode cX10_firstTurning 23 = .ok (.aload_n 2, 1) := by decide +kernel
theorem dX10_firstTurning_24 : decode cX10_firstTurning 24 = .ok (.iload 4, 2) := by decide +kernel
theorem dX10_firstTurning_26 : decode cX10_firstTurning 26 = .ok (.iload_n 3, 1) := by decide +kernel
theorem dX10_firstTurning_27 : decode cX10_firstTurning 27 = .ok (.invokevirtual 39, 3) := by decide +kernel
theorem dX10_firstTurning_30 : decode cX10_firstTurning 30 = .ok (.istore 5, 2) := by decide +kernel
theorem dX10_firstTurning_32 : decode cX10_firstTurning 32 = .ok (.iload 5, 2) := by decide +kernel
theorem dX10_firstTurning_34 : decode cX10_firstTurning 34 = .ok (.ifCond .ne 14, 3) := by decide +kernel
theorem dX10_firstTurning_48 : decode cX10_firstTurning 48 = .ok (.iload 5, 2) := by decide +kernel
theorem dX10_firstTurning_50 : decode cX10_firstTurning 50 = .ok (.ifCond .ne 15, 3) := by decide +kernel
theorem dX10_firstTurning_65 : decode cX10_firstTurning 65 = .ok (.iload 5, 2) := by decide +kernel
theorem dX10_firstTurning_67 : decode cX10_firstTurning 67 = .ok (.ireturn, 1) := by decide +kernel
theorem dX10_firstTurning_53 : decode cX10_firstTurning 53 = .ok (.aload_n 0, 1) := by decide +kernel
theorem dX10_firstTurning_54 : decode cX10_firstTurning 54 = .ok (.aload_n 1, 1) := by decide +kernel
theorem dX10_firstTurning_55 : decode cX10_firstTurning 55 = .ok (.aload_n 2, 1) := by decide +kernel
theorem dX10_firstTurning_56 : decode cX10_firstTurning 56 = .ok (.iload 4, 2) := by decide +kernel
theorem dX10_firstTurning_58 : decode cX10_firstTurning 58 = .ok (.iload_n 3, 1) := by decide +kernel
theorem dX10_firstTurning_59 : decode cX10_firstTurning 59 = .ok (.invokevirtual 46, 3) := by decide +kernel
theorem dX10_firstTurning_62 : decode cX10_firstTurning 62 = .ok (.goto 5, 3) := by decide +kernel
theorem dX10_firstTurning_37 : decode cX10_firstTurning 37 = .ok (.aload_n 0, 1) := by decide +kernel
theorem dX10_firstTurning_38 : decode cX10_firstTurning 38 = .ok (.aload_n 1, 1) := by decide +kernel
theorem dX10_firstTurning_39 : decode cX10_firstTurning 39 = .ok (.aload_n 2, 1) := by decide +kernel
theorem dX10_firstTurning_40 : decode cX10_firstTurning 40 = .ok (.iload 4, 2) := by decide +kernel
theorem dX10_firstTurning_42 : decode cX10_firstTurning 42 = .ok (.iload_n 3, 1) := by decide +kernel
theorem dX10_firstTurning_43 : decode cX10_firstTurning 43 = .ok (.invokevirtual 43, 3) := by decide +kernel
theorem dX10_firstTurning_46 : decode cX10_firstTurning 46 = .ok (.istore 5, 2) := by decide +kernel
theorem bW_at {w : Cond} (i : Nat) (h : lw_tbl[i]? = some w) (hg : goodWord w = true) : w ∈ bW := List.mem_filter.mpr ⟨List.mem_of_getElem? h, hg⟩
theorem mw_0 : Cond.constant RX2 76 1000000 ∈ bW := bW_at 472 (by decide +kernel) (by decide +kernel)
theorem mw_1 : Cond.fieldLink RX2 73 "OneWays$Town" "corners" "I" ∈ bW := bW_at 232 (by decide +kernel) (by decide +kernel)
theorem mw_2 : Cond.fieldLink RX2 9 "OneWays$Paths" "toGo" "[I" ∈ bW := bW_at 371 (by decide +kernel) (by decide +kernel)
theorem mw_3 : Cond.fieldLink RX8 18 "OneWays$Town" "alleys" "I" ∈ bW := bW_at 235 (by decide +kernel) (by decide +kernel)
theorem mw_4 : Cond.fieldLink RX8 40 "OneWays$Town" "price" "[I" ∈ bW := bW_at 259 (by decide +kernel) (by decide +kernel)
theorem mw_5 : Cond.fieldLink RX8 30 "OneWays$Town" "from" "[I" ∈ bW := bW_at 250 (by decide +kernel) (by decide +kernel)
theorem mw_6 : Cond.fieldLink RX8 34 "OneWays$Town" "to" "[I" ∈ bW := bW_at 253 (by decide +kernel) (by decide +kernel)
theorem mw_7 : Cond.fieldLink RX8 43 "OneWays$Town" "told" "I" ∈ bW := bW_at 262 (by decide +kernel) (by decide +kernel)
theorem mw_8 : Cond.fieldLink RX8 15 "OneWays$Town" "corners" "I" ∈ bW := bW_at 231 (by decide +kernel) (by decide +kernel)
theorem mw_9 : Cond.fieldLink RX8 24 "OneWays$Town" "gridWide" "I" ∈ bW := bW_at 247 (by decide +kernel) (by decide +kernel)
theorem mw_10 : Cond.fieldLink RX8 27 "OneWays$Town" "gridHigh" "I" ∈ bW := bW_at 249 (by decide +kernel) (by decide +kernel)
theorem mw_11 : Cond.fieldLink RX8 63 "OneWays$Town" "firstEnd" "[I" ∈ bW := bW_at 276 (by decide +kernel) (by decide +kernel)
theorem mw_12 : Cond.fieldLink RX8 66 "OneWays$Town" "ends" "[I" ∈ bW := bW_at 278 (by decide +kernel) (by decide +kernel)
theorem mw_13 : Cond.fieldLink RX6 22 "OneWays$Streets" "members" "[I" ∈ bW := bW_at 217 (by decide +kernel) (by decide +kernel)
theorem mw_14 : Cond.fieldLink RX6 18 "OneWays$Streets" "sizes" "[I" ∈ bW := bW_at 214 (by decide +kernel) (by decide +kernel)
theorem mw_15 : Cond.fieldLink RX2 111 "OneWays$Town" "journeys" "LOneWays$Journeys;" ∈ bW := bW_at 271 (by decide +kernel) (by decide +kernel)
theorem mw_16 : Cond.fieldLink RX2 119 "OneWays$Journeys" "size" "I" ∈ bW := bW_at 182 (by decide +kernel) (by decide +kernel)
theorem mw_17 : Cond.fieldLink RX2 118 "OneWays$Journeys" "from" "[I" ∈ bW := bW_at 185 (by decide +kernel) (by decide +kernel)
theorem mw_18 : Cond.fieldLink RX2 115 "OneWays$Journeys" "to" "[I" ∈ bW := bW_at 188 (by decide +kernel) (by decide +kernel)
theorem mw_19 : Cond.fieldLink RX2 15 "OneWays$Paths" "all" "[I" ∈ bW := bW_at 372 (by decide +kernel) (by decide +kernel)
theorem mw_20 : Cond.methodLink RX2 147 Lib.Math.min.name ∈ bW := bW_at 1210 (by decide +kernel) (by decide +kernel)
theorem mw_21 : Cond.static Lib.Math.min.name ∈ bW := bW_at 580 (by decide +kernel) (by decide +kernel)
theorem mw_22 : Cond.initialized "java/lang/Math" ∈ bW := bW_at 117 (by decide +kernel) (by decide +kernel)
theorem mw_23 : Cond.code Lib.Math.min.name Lib.Math.min.code 2 (some .int) ∈ bW := bW_at 581 (by decide +kernel) (by decide +kernel)
theorem mw_24 : Cond.fieldLink RX2 125 "OneWays$Journeys" "carts" "[I" ∈ bW := bW_at 191 (by decide +kernel) (by decide +kernel)
theorem mw_25 : Cond.methodLink RX2 142 Lib.Math.max.name ∈ bW := bW_at 901 (by decide +kernel) (by decide +kernel)
theorem mw_26 : Cond.static Lib.Math.max.name ∈ bW := bW_at 902 (by decide +kernel) (by decide +kernel)
theorem mw_27 : Cond.code Lib.Math.max.name Lib.Math.max.code 2 (some .int) ∈ bW := bW_at 903 (by decide +kernel) (by decide +kernel)
theorem mw_28 : Cond.fieldLink RX2 35 "OneWays$Town" "apart" "[I" ∈ bW := bW_at 281 (by decide +kernel) (by decide +kernel)
theorem mw_29 : Cond.fieldLink RX4 9 "OneWays$Slot" "width" "I" ∈ bW := bW_at 442 (by decide +kernel) (by decide +kernel)
theorem mw_30 : Cond.fieldLink RX4 15 "OneWays$Slot" "size" "I" ∈ bW := bW_at 444 (by decide +kernel) (by decide +kernel)
theorem mw_31 : Cond.fieldLink RX3 57 "OneWays$Town" "price" "[I" ∈ bW := bW_at 260 (by decide +kernel) (by decide +kernel)
theorem mw_32 : Cond.fieldLink RX3 9 "OneWays$Purse" "payable" "[I" ∈ bW := bW_at 422 (by decide +kernel) (by decide +kernel)
theorem mw_33 : Cond.fieldLink RX3 15 "OneWays$Purse" "ownWay" "[I" ∈ bW := bW_at 423 (by decide +kernel) (by decide +kernel)
theorem mw_34 : Cond.fieldLink RX0 35 "OneWays$Town" "alleys" "I" ∈ bW := bW_at 238 (by decide +kernel) (by decide +kernel)
theorem mw_35 : Cond.fieldLink RX0 9 "OneWays$Endings" "openOnes" "[I" ∈ bW := bW_at 399 (by decide +kernel) (by decide +kernel)
theorem mw_36 : Cond.fieldLink RX10 15 "OneWays$Town" "alleys" "I" ∈ bW := bW_at 237 (by decide +kernel) (by decide +kernel)
theorem mw_37 : Cond.fieldLink RX8 37 "OneWays$Town" "minutes" "[I" ∈ bW := bW_at 256 (by decide +kernel) (by decide +kernel)
theorem mw_38 : Cond.fieldLink RX1 15 "OneWays$Journeys" "from" "[I" ∈ bW := bW_at 184 (by decide +kernel) (by decide +kernel)
theorem mw_39 : Cond.fieldLink RX1 9 "OneWays$Journeys" "size" "I" ∈ bW := bW_at 179 (by decide +kernel) (by decide +kernel)
theorem mw_40 : Cond.fieldLink RX1 19 "OneWays$Journeys" "to" "[I" ∈ bW := bW_at 187 (by decide +kernel) (by decide +kernel)
theorem mw_41 : Cond.fieldLink RX1 22 "OneWays$Journeys" "carts" "[I" ∈ bW := bW_at 190 (by decide +kernel) (by decide +kernel)
theorem mw_42 : Cond.fieldLink RX2 21 "OneWays$Paths" "leaving" "[I" ∈ bW := bW_at 376 (by decide +kernel) (by decide +kernel)
theorem mw_43 : Cond.code yJ7_fill_53178 cJ7_fill_53178 4 none ∈ bW := bW_at 475 (by decide +kernel) (by decide +kernel)
theorem mw_44 : Cond.methodLink RX2 61 yJ7_fill_53178 ∈ bW := bW_at 473 (by decide +kernel) (by decide +kernel)
theorem mw_45 : Cond.static yJ7_fill_53178 ∈ bW := bW_at 474 (by decide +kernel) (by decide +kernel)
theorem mw_46 : Cond.initialized RJ7 ∈ bW := bW_at 115 (by decide +kernel) (by decide +kernel)
theorem mw_47 : Cond.fieldLink RX2 24 "OneWays$Paths" "coming" "[I" ∈ bW := bW_at 377 (by decide +kernel) (by decide +kernel)
theorem mw_48 : Cond.fieldLink RX2 46 "OneWays$Town" "alleys" "I" ∈ bW := bW_at 236 (by decide +kernel) (by decide +kernel)
theorem mw_49 : Cond.fieldLink RX2 67 "OneWays$Town" "from" "[I" ∈ bW := bW_at 251 (by decide +kernel) (by decide +kernel)
theorem mw_50 : Cond.fieldLink RX2 70 "OneWays$Town" "to" "[I" ∈ bW := bW_at 254 (by decide +kernel) (by decide +kernel)
theorem mw_51 : Cond.code yX2_joinCorners cX2_joinCorners 7 none ∈ bW := bW_at 491 (by decide +kernel) (by decide +kernel)
theorem mw_52 : Cond.methodLink RX2 49 yX2_joinCorners ∈ bW := bW_at 488 (by decide +kernel) (by decide +kernel)
theorem mw_53 : Cond.instanceMethod yX2_joinCorners ∈ bW := bW_at 490 (by decide +kernel) (by decide +kernel)
theorem mw_54 : Cond.selects RX2 yX2_joinCorners yX2_joinCorners ∈ bW := bW_at 1 (by decide +kernel) (by decide +kernel)
theorem mw_55 : Cond.initialized RX2 ∈ bW := bW_at 110 (by decide +kernel) (by decide +kernel)
theorem mw_56 : Cond.code yX8_allCorners cX8_allCorners 1 (some .int) ∈ bW := bW_at 499 (by decide +kernel) (by decide +kernel)
theorem mw_57 : Cond.methodLink RX2 57 yX8_allCorners ∈ bW := bW_at 496 (by decide +kernel) (by decide +kernel)
theorem mw_58 : Cond.instanceMethod yX8_allCorners ∈ bW := bW_at 497 (by decide +kernel) (by decide +kernel)
theorem mw_59 : Cond.selects RX8 yX8_allCorners yX8_allCorners ∈ bW := bW_at 498 (by decide +kernel) (by decide +kernel)
theorem mw_60 : Cond.initialized RX8 ∈ bW := bW_at 106 (by decide +kernel) (by decide +kernel)
theorem mw_61 : Cond.code yX2_spread cX2_spread 8 (some .int) ∈ bW := bW_at 495 (by decide +kernel) (by decide +kernel)
theorem mw_62 : Cond.methodLink RX2 53 yX2_spread ∈ bW := bW_at 492 (by decide +kernel) (by decide +kernel)
theorem mw_63 : Cond.instanceMethod yX2_spread ∈ bW := bW_at 494 (by decide +kernel) (by decide +kernel)
theorem mw_64 : Cond.selects RX2 yX2_spread yX2_spread ∈ bW := bW_at 2 (by decide +kernel) (by decide +kernel)
theorem mw_65 : Cond.code yX2_nearestOf cX2_nearestOf 6 (some .int) ∈ bW := bW_at 479 (by decide +kernel) (by decide +kernel)
theorem mw_66 : Cond.methodLink RX2 77 yX2_nearestOf ∈ bW := bW_at 476 (by decide +kernel) (by decide +kernel)
theorem mw_67 : Cond.instanceMethod yX2_nearestOf ∈ bW := bW_at 478 (by decide +kernel) (by decide +kernel)
theorem mw_68 : Cond.selects RX2 yX2_nearestOf yX2_nearestOf ∈ bW := bW_at 0 (by decide +kernel) (by decide +kernel)
theorem mw_69 : Cond.fieldLink RX2 81 "OneWays$Town" "firstEnd" "[I" ∈ bW := bW_at 277 (by decide +kernel) (by decide +kernel)
theorem mw_70 : Cond.fieldLink RX2 84 "OneWays$Town" "ends" "[I" ∈ bW := bW_at 279 (by decide +kernel) (by decide +kernel)
theorem mw_71 : Cond.code yX8_otherEnd cX8_otherEnd 3 (some .int) ∈ bW := bW_at 483 (by decide +kernel) (by decide +kernel)
theorem mw_72 : Cond.methodLink RX2 87 yX8_otherEnd ∈ bW := bW_at 480 (by decide +kernel) (by decide +kernel)
theorem mw_73 : Cond.instanceMethod yX8_otherEnd ∈ bW := bW_at 481 (by decide +kernel) (by decide +kernel)
theorem mw_74 : Cond.selects RX8 yX8_otherEnd yX8_otherEnd ∈ bW := bW_at 482 (by decide +kernel) (by decide +kernel)
theorem mw_75 : Cond.fieldLink RX2 91 "OneWays$Town" "minutes" "[I" ∈ bW := bW_at 257 (by decide +kernel) (by decide +kernel)
theorem mw_76 : Cond.code yX8_mayEnter cX8_mayEnter 4 (some .boolean) ∈ bW := bW_at 487 (by decide +kernel) (by decide +kernel)
theorem mw_77 : Cond.methodLink RX2 94 yX8_mayEnter ∈ bW := bW_at 484 (by decide +kernel) (by decide +kernel)
theorem mw_78 : Cond.instanceMethod yX8_mayEnter ∈ bW := bW_at 485 (by decide +kernel) (by decide +kernel)
theorem mw_79 : Cond.selects RX8 yX8_mayEnter yX8_mayEnter ∈ bW := bW_at 486 (by decide +kernel) (by decide +kernel)
theorem mw_80 : Cond.code yX2_goToward cX2_goToward 12 none ∈ bW := bW_at 471 (by decide +kernel) (by decide +kernel)
theorem mw_81 : Cond.methodLink RX2 98 yX2_goToward ∈ bW := bW_at 468 (by decide +kernel) (by decide +kernel)
theorem mw_82 : Cond.instanceMethod yX2_goToward ∈ bW := bW_at 469 (by decide +kernel) (by decide +kernel)
theorem mw_83 : Cond.selects RX2 yX2_goToward yX2_goToward ∈ bW := bW_at 470 (by decide +kernel) (by decide +kernel)
theorem mw_84 : Cond.fieldLink RX2 102 "OneWays$Town" "against" "I" ∈ bW := bW_at 267 (by decide +kernel) (by decide +kernel)
theorem mw_85 : Cond.fieldLink RX2 105 "OneWays$Town" "house" "I" ∈ bW := bW_at 245 (by decide +kernel) (by decide +kernel)
theorem mw_86 : Cond.code yX2_firstAlleyOn cX2_firstAlleyOn 7 (some .int) ∈ bW := bW_at 996 (by decide +kernel) (by decide +kernel)
theorem mw_87 : Cond.methodLink RX2 108 yX2_firstAlleyOn ∈ bW := bW_at 993 (by decide +kernel) (by decide +kernel)
theorem mw_88 : Cond.instanceMethod yX2_firstAlleyOn ∈ bW := bW_at 994 (by decide +kernel) (by decide +kernel)
theorem mw_89 : Cond.selects RX2 yX2_firstAlleyOn yX2_firstAlleyOn ∈ bW := bW_at 995 (by decide +kernel) (by decide +kernel)
theorem mw_90 : Cond.fieldLink RX2 18 "OneWays$Paths" "carried" "[I" ∈ bW := bW_at 374 (by decide +kernel) (by decide +kernel)
theorem mw_91 : Cond.code yX2_alleysOnWay cX2_alleysOnWay 8 (some .int) ∈ bW := bW_at 992 (by decide +kernel) (by decide +kernel)
theorem mw_92 : Cond.methodLink RX2 122 yX2_alleysOnWay ∈ bW := bW_at 989 (by decide +kernel) (by decide +kernel)
theorem mw_93 : Cond.instanceMethod yX2_alleysOnWay ∈ bW := bW_at 991 (by decide +kernel) (by decide +kernel)
theorem mw_94 : Cond.selects RX2 yX2_alleysOnWay yX2_alleysOnWay ∈ bW := bW_at 32 (by decide +kernel) (by decide +kernel)
theorem mw_95 : Cond.code yX2_ringEnd cX2_ringEnd 4 (some .int) ∈ bW := bW_at 988 (by decide +kernel) (by decide +kernel)
theorem mw_96 : Cond.methodLink RX2 128 yX2_ringEnd ∈ bW := bW_at 985 (by decide +kernel) (by decide +kernel)
theorem mw_97 : Cond.instanceMethod yX2_ringEnd ∈ bW := bW_at 987 (by decide +kernel) (by decide +kernel)
theorem mw_98 : Cond.selects RX2 yX2_ringEnd yX2_ringEnd ∈ bW := bW_at 31 (by decide +kernel) (by decide +kernel)
theorem mw_99 : Cond.code yX2_between cX2_between 5 (some .int) ∈ bW := bW_at 862 (by decide +kernel) (by decide +kernel)
theorem mw_100 : Cond.methodLink RX2 131 yX2_between ∈ bW := bW_at 1022 (by decide +kernel) (by decide +kernel)
theorem mw_101 : Cond.instanceMethod yX2_between ∈ bW := bW_at 860 (by decide +kernel) (by decide +kernel)
theorem mw_102 : Cond.selects RX2 yX2_between yX2_between ∈ bW := bW_at 861 (by decide +kernel) (by decide +kernel)
theorem mw_103 : Cond.code yX2_detour cX2_detour 4 (some .int) ∈ bW := bW_at 882 (by decide +kernel) (by decide +kernel)
theorem mw_104 : Cond.methodLink RX2 135 yX2_detour ∈ bW := bW_at 879 (by decide +kernel) (by decide +kernel)
theorem mw_105 : Cond.instanceMethod yX2_detour ∈ bW := bW_at 881 (by decide +kernel) (by decide +kernel)
theorem mw_106 : Cond.selects RX2 yX2_detour yX2_detour ∈ bW := bW_at 21 (by decide +kernel) (by decide +kernel)
theorem mw_107 : Cond.code yX2_roundOf cX2_roundOf 5 (some .int) ∈ bW := bW_at 878 (by decide +kernel) (by decide +kernel)
theorem mw_108 : Cond.methodLink RX2 139 yX2_roundOf ∈ bW := bW_at 900 (by decide +kernel) (by decide +kernel)
theorem mw_109 : Cond.instanceMethod yX2_roundOf ∈ bW := bW_at 876 (by decide +kernel) (by decide +kernel)
theorem mw_110 : Cond.selects RX2 yX2_roundOf yX2_roundOf ∈ bW := bW_at 877 (by decide +kernel) (by decide +kernel)
theorem mw_111 : Cond.constantLong RX8 98 3 ∈ bW := bW_at 762 (by decide +kernel) (by decide +kernel)
theorem mw_112 : Cond.code yX8_isTold cX8_isTold 2 (some .boolean) ∈ bW := bW_at 737 (by decide +kernel) (by decide +kernel)
theorem mw_113 : Cond.methodLink RX8 100 yX8_isTold ∈ bW := bW_at 757 (by decide +kernel) (by decide +kernel)
theorem mw_114 : Cond.instanceMethod yX8_isTold ∈ bW := bW_at 735 (by decide +kernel) (by decide +kernel)
theorem mw_115 : Cond.selects RX8 yX8_isTold yX8_isTold ∈ bW := bW_at 736 (by decide +kernel) (by decide +kernel)
theorem mw_116 : Cond.code yX8_isWayFor cX8_isWayFor 4 (some .boolean) ∈ bW := bW_at 761 (by decide +kernel) (by decide +kernel)
theorem mw_117 : Cond.methodLink RX8 104 yX8_isWayFor ∈ bW := bW_at 758 (by decide +kernel) (by decide +kernel)
theorem mw_118 : Cond.instanceMethod yX8_isWayFor ∈ bW := bW_at 759 (by decide +kernel) (by decide +kernel)
theorem mw_119 : Cond.selects RX8 yX8_isWayFor yX8_isWayFor ∈ bW := bW_at 760 (by decide +kernel) (by decide +kernel)
theorem mw_120 : Cond.methodLink RX8 108 yX8_mayEnter ∈ bW := bW_at 1165 (by decide +kernel) (by decide +kernel)
theorem mw_121 : Cond.fieldLink RX0 19 "OneWays$Town" "bridges" "I" ∈ bW := bW_at 284 (by decide +kernel) (by decide +kernel)
theorem mw_122 : Cond.code yX8_openAlleys cX8_openAlleys 4 (some .int) ∈ bW := bW_at 802 (by decide +kernel) (by decide +kernel)
theorem mw_123 : Cond.methodLink RX0 25 yX8_openAlleys ∈ bW := bW_at 799 (by decide +kernel) (by decide +kernel)
theorem mw_124 : Cond.instanceMethod yX8_openAlleys ∈ bW := bW_at 800 (by decide +kernel) (by decide +kernel)
theorem mw_125 : Cond.selects RX8 yX8_openAlleys yX8_openAlleys ∈ bW := bW_at 801 (by decide +kernel) (by decide +kernel)
theorem mw_126 : Cond.fieldLink RX0 15 "OneWays$Endings" "paths" "LOneWays$Paths;" ∈ bW := bW_at 398 (by decide +kernel) (by decide +kernel)
theorem mw_127 : Cond.code yX2_isWhole cX2_isWhole 4 (some .boolean) ∈ bW := bW_at 790 (by decide +kernel) (by decide +kernel)
theorem mw_128 : Cond.methodLink RX0 29 yX2_isWhole ∈ bW := bW_at 803 (by decide +kernel) (by decide +kernel)
theorem mw_129 : Cond.instanceMethod yX2_isWhole ∈ bW := bW_at 788 (by decide +kernel) (by decide +kernel)
theorem mw_130 : Cond.selects RX2 yX2_isWhole yX2_isWhole ∈ bW := bW_at 789 (by decide +kernel) (by decide +kernel)
theorem mw_131 : Cond.code yX0_canEnd cX0_canEnd 3 (some .boolean) ∈ bW := bW_at 798 (by decide +kernel) (by decide +kernel)
theorem mw_132 : Cond.methodLink RX0 38 yX0_canEnd ∈ bW := bW_at 829 (by decide +kernel) (by decide +kernel)
theorem mw_133 : Cond.instanceMethod yX0_canEnd ∈ bW := bW_at 796 (by decide +kernel) (by decide +kernel)
theorem mw_134 : Cond.selects RX0 yX0_canEnd yX0_canEnd ∈ bW := bW_at 797 (by decide +kernel) (by decide +kernel)
theorem mw_135 : Cond.initialized RX0 ∈ bW := bW_at 111 (by decide +kernel) (by decide +kernel)
theorem mw_136 : Cond.code yX0_canEndWith cX0_canEndWith 7 (some .boolean) ∈ bW := bW_at 833 (by decide +kernel) (by decide +kernel)
theorem mw_137 : Cond.methodLink RX0 41 yX0_canEndWith ∈ bW := bW_at 830 (by decide +kernel) (by decide +kernel)
theorem mw_138 : Cond.instanceMethod yX0_canEndWith ∈ bW := bW_at 832 (by decide +kernel) (by decide +kernel)
theorem mw_139 : Cond.selects RX0 yX0_canEndWith yX0_canEndWith ∈ bW := bW_at 18 (by decide +kernel) (by decide +kernel)
theorem mw_140 : Cond.code yX0_onlyWay cX0_onlyWay 6 (some .int) ∈ bW := bW_at 845 (by decide +kernel) (by decide +kernel)
theorem mw_141 : Cond.methodLink RX0 45 yX0_onlyWay ∈ bW := bW_at 842 (by decide +kernel) (by decide +kernel)
theorem mw_142 : Cond.instanceMethod yX0_onlyWay ∈ bW := bW_at 843 (by decide +kernel) (by decide +kernel)
theorem mw_143 : Cond.selects RX0 yX0_onlyWay yX0_onlyWay ∈ bW := bW_at 844 (by decide +kernel) (by decide +kernel)
theorem mw_144 : Cond.code yX10_isOneWay cX10_isOneWay 1 (some .boolean) ∈ bW := bW_at 958 (by decide +kernel) (by decide +kernel)
theorem mw_145 : Cond.methodLink RX10 21 yX10_isOneWay ∈ bW := bW_at 956 (by decide +kernel) (by decide +kernel)
theorem mw_146 : Cond.static yX10_isOneWay ∈ bW := bW_at 957 (by decide +kernel) (by decide +kernel)
theorem mw_147 : Cond.initialized RX10 ∈ bW := bW_at 112 (by decide +kernel) (by decide +kernel)
theorem mw_148 : Cond.methodLink RX10 25 yX8_isTold ∈ bW := bW_at 959 (by decide +kernel) (by decide +kernel)
theorem mw_149 : Cond.code yX10_turn cX10_turn 5 none ∈ bW := bW_at 971 (by decide +kernel) (by decide +kernel)
theorem mw_150 : Cond.methodLink RX10 57 yX10_turn ∈ bW := bW_at 968 (by decide +kernel) (by decide +kernel)
theorem mw_151 : Cond.instanceMethod yX10_turn ∈ bW := bW_at 969 (by decide +kernel) (by decide +kernel)
theorem mw_152 : Cond.selects RX10 yX10_turn yX10_turn ∈ bW := bW_at 970 (by decide +kernel) (by decide +kernel)
theorem mw_153 : Cond.fieldLink RX10 9 "OneWays$Turnings" "paths" "LOneWays$Paths;" ∈ bW := bW_at 411 (by decide +kernel) (by decide +kernel)
theorem mw_154 : Cond.methodLink RX10 61 yX2_isWhole ∈ bW := bW_at 972 (by decide +kernel) (by decide +kernel)
theorem mw_155 : Cond.code yX2_sumOf cX2_sumOf 10 (some .int) ∈ bW := bW_at 891 (by decide +kernel) (by decide +kernel)
theorem mw_156 : Cond.methodLink RX10 29 yX2_sumOf ∈ bW := bW_at 951 (by decide +kernel) (by decide +kernel)
theorem mw_157 : Cond.instanceMethod yX2_sumOf ∈ bW := bW_at 889 (by decide +kernel) (by decide +kernel)
theorem mw_158 : Cond.selects RX2 yX2_sumOf yX2_sumOf ∈ bW := bW_at 890 (by decide +kernel) (by decide +kernel)
theorem mw_159 : Cond.code yX10_isBetter cX10_isBetter 6 (some .boolean) ∈ bW := bW_at 967 (by decide +kernel) (by decide +kernel)
theorem mw_160 : Cond.methodLink RX10 49 yX10_isBetter ∈ bW := bW_at 964 (by decide +kernel) (by decide +kernel)
theorem mw_161 : Cond.instanceMethod yX10_isBetter ∈ bW := bW_at 966 (by decide +kernel) (by decide +kernel)
theorem mw_162 : Cond.selects RX10 yX10_isBetter yX10_isBetter ∈ bW := bW_at 28 (by decide +kernel) (by decide +kernel)
theorem mw_163 : Cond.code yX2_ringAlleys cX2_ringAlleys 5 (some .int) ∈ bW := bW_at 984 (by decide +kernel) (by decide +kernel)
theorem mw_164 : Cond.methodLink RX10 53 yX2_ringAlleys ∈ bW := bW_at 981 (by decide +kernel) (by decide +kernel)
theorem mw_165 : Cond.instanceMethod yX2_ringAlleys ∈ bW := bW_at 982 (by decide +kernel) (by decide +kernel)
theorem mw_166 : Cond.selects RX2 yX2_ringAlleys yX2_ringAlleys ∈ bW := bW_at 983 (by decide +kernel) (by decide +kernel)
theorem mw_167 : Cond.constant RX10 28 1000000000 ∈ bW := bW_at 950 (by decide +kernel) (by decide +kernel)
theorem mw_168 : Cond.code yX10_turnable cX10_turnable 5 (some .int) ∈ bW := bW_at 955 (by decide +kernel) (by decide +kernel)
theorem mw_169 : Cond.methodLink RX10 35 yX10_turnable ∈ bW := bW_at 952 (by decide +kernel) (by decide +kernel)
theorem mw_170 : Cond.instanceMethod yX10_turnable ∈ bW := bW_at 954 (by decide +kernel) (by decide +kernel)
theorem mw_171 : Cond.selects RX10 yX10_turnable yX10_turnable ∈ bW := bW_at 26 (by decide +kernel) (by decide +kernel)
theorem mw_172 : Cond.code yX10_firstOne cX10_firstOne 7 (some .int) ∈ bW := bW_at 963 (by decide +kernel) (by decide +kernel)
theorem mw_173 : Cond.methodLink RX10 39 yX10_firstOne ∈ bW := bW_at 960 (by decide +kernel) (by decide +kernel)
theorem mw_174 : Cond.instanceMethod yX10_firstOne ∈ bW := bW_at 962 (by decide +kernel) (by decide +kernel)
theorem mw_175 : Cond.selects RX10 yX10_firstOne yX10_firstOne ∈ bW := bW_at 27 (by decide +kernel) (by decide +kernel)
theorem mw_176 : Cond.code yX10_firstRing cX10_firstRing 7 (some .int) ∈ bW := bW_at 980 (by decide +kernel) (by decide +kernel)
theorem mw_177 : Cond.methodLink RX10 46 yX10_firstRing ∈ bW := bW_at 977 (by decide +kernel) (by decide +kernel)
theorem mw_178 : Cond.instanceMethod yX10_firstRing ∈ bW := bW_at 979 (by decide +kernel) (by decide +kernel)
theorem mw_179 : Cond.selects RX10 yX10_firstRing yX10_firstRing ∈ bW := bW_at 30 (by decide +kernel) (by decide +kernel)
theorem mw_180 : Cond.code yX10_firstTwo cX10_firstTwo 8 (some .int) ∈ bW := bW_at 976 (by decide +kernel) (by decide +kernel)
theorem mw_181 : Cond.methodLink RX10 43 yX10_firstTwo ∈ bW := bW_at 973 (by decide +kernel) (by decide +kernel)
theorem mw_182 : Cond.instanceMethod yX10_firstTwo ∈ bW := bW_at 975 (by decide +kernel) (by decide +kernel)
theorem mw_183 : Cond.selects RX10 yX10_firstTwo yX10_firstTwo ∈ bW := bW_at 29 (by decide +kernel) (by decide +kernel)
