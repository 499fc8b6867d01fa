theorem dJ0_coder_7d493_0 : decode cJ0_coder_7d493 0 = .ok (.getstatic 38, 3) := by decide +kernel
theorem dJ0_coder_7d493_3 : decode cJ0_coder_7d493 3 = .ok (.ifCond .eq 10, 3) := by decide +kernel
theorem dJ0_coder_7d493_6 : decode cJ0_coder_7d493 6 = .ok (.aload_n 0, 1) := by decide +kernel
theorem dJ0_coder_7d493_7 : decode cJ0_coder_7d493 7 = .ok (.getfield 15, 3) := by decide +kernel
theorem dJ0_coder_7d493_10 : decode cJ0_coder_7d493 10 = .ok (.goto 4, 3) := by decide +kernel
theorem dJ0_coder_7d493_14 : decode cJ0_coder_7d493 14 = .ok (.ireturn, 1) := by decide +kernel
theorem dJ0_length_8abf5_0 : decode cJ0_length_8abf5 0 = .ok (.aload_n 0, 1) := by decide +kernel
theorem dJ0_length_8abf5_1 : decode cJ0_length_8abf5 1 = .ok (.getfield 9, 3) := by decide +kernel
theorem dJ0_length_8abf5_4 : decode cJ0_length_8abf5 4 = .ok (.arraylength, 1) := by decide +kernel
theorem dJ0_length_8abf5_5 : decode cJ0_length_8abf5 5 = .ok (.aload_n 0, 1) := by decide +kernel
theorem dJ0_length_8abf5_6 : decode cJ0_length_8abf5 6 = .ok (.invokevirtual 335, 3) := by decide +kernel
theorem dJ0_length_8abf5_9 : decode cJ0_length_8abf5 9 = .ok (.ishr, 1) := by decide +kernel
theorem dJ0_length_8abf5_10 : decode cJ0_length_8abf5 10 = .ok (.ireturn, 1) := by decide +kernel
theorem dJ0_isLatin1_aae02_0 : decode cJ0_isLatin1_aae02 0 = .ok (.getstatic 38, 3) := by decide +kernel
theorem dJ0_isLatin1_aae02_3 : decode cJ0_isLatin1_aae02 3 = .ok (.ifCond .eq 14, 3) := by decide +kernel
theorem dJ0_isLatin1_aae02_6 : decode cJ0_isLatin1_aae02 6 = .ok (.aload_n 0, 1) := by decide +kernel
theorem dJ0_isLatin1_aae02_7 : decode cJ0_isLatin1_aae02 7 = .ok (.getfield 15, 3) := by decide +kernel
theorem dJ0_isLatin1_aae02_10 : decode cJ0_isLatin1_aae02 10 = .ok (.ifCond .ne 7, 3) := by decide +kernel
theorem dJ0_isLatin1_aae02_13 : decode cJ0_isLatin1_aae02 13 = .ok (.iconst 1, 1) := by decide +kernel
theorem dJ0_isLatin1_aae02_14 : decode cJ0_isLatin1_aae02 14 = .ok (.goto 4, 3) := by decide +kernel
theorem dJ0_isLatin1_aae02_18 : decode cJ0_isLatin1_aae02 18 = .ok (.ireturn, 1) := by decide +kernel
theorem dJ3_checkIndex_8e157_0 : decode cJ3_checkIndex_8e157 0 = .ok (.iload_n 0, 1) := by decide +kernel
theorem dJ3_checkIndex_8e157_1 : decode cJ3_checkIndex_8e157 1 = .ok (.ifCond .lt 8, 3) := by decide +kernel
theorem dJ3_checkIndex_8e157_4 : decode cJ3_checkIndex_8e157 4 = .ok (.iload_n 0, 1) := by decide +kernel
theorem dJ3_checkIndex_8e157_5 : decode cJ3_checkIndex_8e157 5 = .ok (.iload_n 1, 1) := by decide +kernel
theorem dJ3_checkIndex_8e157_6 : decode cJ3_checkIndex_8e157 6 = .ok (.if_icmp .lt 10, 3) := by decide +kernel
theorem dJ3_checkIndex_8e157_16 : decode cJ3_checkIndex_8e157 16 = .ok (.iload_n 0, 1) := by decide +kernel
theorem dJ3_checkIndex_8e157_17 : decode cJ3_checkIndex_8e157 17 = .ok (.ireturn, 1) := by decide +kernel
theorem dJ0_checkIndex_df160_0 : decode cJ0_checkIndex_df160 0 = .ok (.iload_n 0, 1) := by decide +kernel
theorem dJ0_checkIndex_df160_1 : decode cJ0_checkIndex_df160 1 = .ok (.iload_n 1, 1) := by decide +kernel
theorem dJ0_checkIndex_df160_2 : decode cJ0_checkIndex_df160 2 = .ok (.getstatic 1053, 3) := by decide +kernel
theorem dJ0_checkIndex_df160_5 : decode cJ0_checkIndex_df160 5 = .ok (.invokestatic 1059, 3) := by decide +kernel
theorem dJ0_checkIndex_df160_8 : decode cJ0_checkIndex_df160 8 = .ok (.pop, 1) := by decide +kernel
theorem dJ0_checkIndex_df160_9 : decode cJ0_checkIndex_df160 9 = .ok (.return_, 1) := by decide +kernel
theorem dJ1_charAt_3b067_0 : decode cJ1_charAt_3b067 0 = .ok (.iload_n 1, 1) := by decide +kernel
theorem dJ1_charAt_3b067_1 : decode cJ1_charAt_3b067 1 = .ok (.aload_n 0, 1) := by decide +kernel
theorem dJ1_charAt_3b067_2 : decode cJ1_charAt_3b067 2 = .ok (.arraylength, 1) := by decide +kernel
theorem dJ1_charAt_3b067_3 : decode cJ1_charAt_3b067 3 = .ok (.invokestatic 9, 3) := by decide +kernel
theorem dJ1_charAt_3b067_6 : decode cJ1_charAt_3b067 6 = .ok (.aload_n 0, 1) := by decide +kernel
theorem dJ1_charAt_3b067_7 : decode cJ1_charAt_3b067 7 = .ok (.iload_n 1, 1) := by decide +kernel
theorem dJ1_charAt_3b067_8 : decode cJ1_charAt_3b067 8 = .ok (.baload, 1) := by decide +kernel
theorem dJ1_charAt_3b067_9 : decode cJ1_charAt_3b067 9 = .ok (.sipush 255, 3) := by decide +kernel
theorem dJ1_charAt_3b067_12 : decode cJ1_charAt_3b067 12 = .ok (.iand, 1) := by decide +kernel
theorem dJ1_charAt_3b067_13 : decode cJ1_charAt_3b067 13 = .ok (.i2c, 1) := by decide +kernel
theorem dJ1_charAt_3b067_14 : decode cJ1_charAt_3b067 14 = .ok (.ireturn, 1) := by decide +kernel
theorem dJ0_charAt_5068e_0 : decode cJ0_charAt_5068e 0 = .ok (.aload_n 0, 1) := by decide +kernel
theorem dJ0_charAt_5068e_1 : decode cJ0_charAt_5068e 1 = .ok (.invokevirtual 492, 3) := by decide +kernel
theorem dJ0_charAt_5068e_4 : decode cJ0_charAt_5068e 4 = .ok (.ifCond .eq 12, 3) := by decide +kernel
theorem dJ0_charAt_5068e_7 : decode cJ0_charAt_5068e 7 = .ok (.aload_n 0, 1) := by decide +kernel
theorem dJ0_charAt_5068e_8 : decode cJ0_charAt_5068e 8 = .ok (.getfield 9, 3) := by decide +kernel
theorem dJ0_charAt_5068e_11 : decode cJ0_charAt_5068e 11 = .ok (.iload_n 1, 1) := by decide +kernel
theorem dJ0_charAt_5068e_12 : decode cJ0_charAt_5068e 12 = .ok (.invokestatic 495, 3) := by decide +kernel
theorem dJ0_charAt_5068e_15 : decode cJ0_charAt_5068e 15 = .ok (.ireturn, 1) := by decide +kernel
theorem dX7_isWord_0 : decode cX7_isWord 0 = .ok (.aload_n 0, 1) := by decide +kernel
theorem dX7_isWord_1 : decode cX7_isWord 1 = .ok (.getfield 20, 3) := by decide +kernel
theorem dX7_isWord_4 : decode cX7_isWord 4 = .ok (.iconst 1, 1) := by decide +kernel
theorem dX7_isWord_5 : decode cX7_isWord 5 = .ok (.if_icmp .ne 19, 3) := by decide +kernel
theorem dX7_isWord_24 : decode cX7_isWord 24 = .ok (.iconst 0, 1) := by decide +kernel
theorem dX7_isWord_25 : decode cX7_isWord 25 = .ok (.ireturn, 1) := by decide +kernel
theorem dX7_isWord_8 : decode cX7_isWord 8 = .ok (.aload_n 0, 1) := by decide +kernel
theorem dX7_isWord_9 : decode cX7_isWord 9 = .ok (.getfield 17, 3) := by decide +kernel
theorem dX7_isWord_12 : decode cX7_isWord 12 = .ok (.aload_n 0, 1) := by decide +kernel
theorem dX7_isWord_13 : decode cX7_isWord 13 = .ok (.getfield 23, 3) := by decide +kernel
theorem dX7_isWord_16 : decode cX7_isWord 16 = .ok (.isub, 1) := by decide +kernel
theorem dX7_isWord_17 : decode cX7_isWord 17 = .ok (.aload_n 1, 1) := by decide +kernel
theorem dX7_isWord_18 : decode cX7_isWord 18 = .ok (.invokevirtual 49, 3) := by decide +kernel
theorem dX7_isWord_21 : decode cX7_isWord 21 = .ok (.if_icmp .eq 5, 3) := by decide +kernel
theorem dX7_isWord_26 : decode cX7_isWord 26 = .ok (.iconst 0, 1) := by decide +kernel
theorem dX7_isWord_27 : decode cX7_isWord 27 = .ok (.istore_n 2, 1) := by decide +kernel
theorem dX7_isWord_28 : decode cX7_isWord 28 = .ok (.iload_n 2, 1) := by decide +kernel
theorem dX7_isWord_29 : decode cX7_isWord 29 = .ok (.aload_n 1, 1) := by decide +kernel
theorem dX7_isWord_30 : decode cX7_isWord 30 = .ok (.invokevirtual 49, 3) := by decide +kernel
theorem dX7_isWord_33 : decode cX7_isWord 33 = .ok (.if_icmp .ge 30, 3) := by decide +kernel
theorem dX7_isWord_36 : decode cX7_isWord 36 = .ok (.aload_n 0, 1) := by decide +kernel
theorem dX7_isWord_37 : decode cX7_isWord 37 = .ok (.getfield 7, 3) := by decide +kernel
theorem dX7_isWord_40 : decode cX7_isWord 40 = .ok (.aload_n 0, 1) := by decide +kernel
theorem dX7_isWord_41 : decode cX7_isWord 41 = .ok (.getfield 23, 3) := by decide +kernel
theorem dX7_isWord_44 : decode cX7_isWord 44 = .ok (.iload_n 2, 1) := by decide +kernel
theorem dX7_isWord_45 : decode cX7_isWord 45 = .ok (.iadd, 1) := by decide +kernel
theorem dX7_isWord_46 : decode cX7_isWord 46 = .ok (.baload, 1) := by decide +kernel
theorem dX7_isWord_47 : decode cX7_isWord 47 = .ok (.aload_n 1, 1) := by decide +kernel
theorem dX7_isWord_48 : decode cX7_isWord 48 = .ok (.iload_n 2, 1) := by decide +kernel
theorem dX7_isWord_49 : decode cX7_isWord 49 = .ok (.invokevirtual 55, 3) := by decide +kernel
theorem dX7_isWord_52 : decode cX7_isWord 52 = .ok (.if_icmp .eq 5, 3) := by decide +kernel
theorem dX7_isWord_57 : decode cX7_isWord 57 = .ok (.iinc 2 1, 3) := by decide +kernel
theorem dX7_isWord_60 : decode cX7_isWord 60 = .ok (.goto (-32), 3) := by decide +kernel
theorem dX7_isWord_55 : decode cX7_isWord 55 = .ok (.iconst 0, 1) := by decide +kernel
theorem dX7_isWord_56 : decode cX7_isWord 56 = .ok (.ireturn, 1) := by decide +kernel
theorem dX7_isWord_63 : decode cX7_isWord 63 = .ok (.iconst 1, 1) := by decide +kernel
theorem dX7_isWord_64 : decode cX7_isWord 64 = .ok (.ireturn, 1) := by decide +kernel
theorem dX7_open_0 : decode cX7_open 0 = .ok (.aload_n 0, 1) := by decide +kernel
theorem dX7_open_1 : decode cX7_open 1 = .ok (.aload_n 1, 1) := by decide +kernel
theorem dX7_open_2 : decode cX7_open 2 = .ok (.putfield 7, 3) := by decide +kernel
theorem dX7_open_5 : decode cX7_open 5 = .ok (.aload_n 0, 1) := by decide +kernel
theorem dX7_open_6 : decode cX7_open 6 = .ok (.iload_n 2, 1) := by decide +kernel
theorem dX7_open_7 : decode cX7_open 7 = .ok (.aload_n 1, 1) := by decide +kernel
theorem dX7_open_8 : decode cX7_open 8 = .ok (.arraylength, 1) := by decide +kernel
theorem dX7_open_9 : decode cX7_open 9 = .ok (.invokestatic 29, 3) := by decide +kernel
theorem dX7_open_12 : decode cX7_open 12 = .ok (.putfield 13, 3) := by decide +kernel
theorem dX7_open_15 : decode cX7_open 15 = .ok (.aload_n 0, 1) := by decide +kernel
theorem dX7_open_16 : decode cX7_open 16 = .ok (.iconst 0, 1) := by decide +kernel
theorem dX7_open_17 : decode cX7_open 17 = .ok (.putfield 17, 3) := by decide +kernel
theorem dX7_open_20 : decode cX7_open 20 = .ok (.aload_n 0, 1) := by decide +kernel
theorem dX7_open_21 : decode cX7_open 21 = .ok (.invokevirtual 35, 3) := by decide +kernel
theorem dX7_open_24 : decode cX7_open 24 = .ok (.return_, 1) := by decide +kernel
theorem dX9_refuse_0 : decode cX9_refuse 0 = .ok (.aload_n 0, 1) := by decide +kernel
theorem dX9_refuse_1 : decode cX9_refuse 1 = .ok (.iload_n 1, 1) := by decide +kernel
theorem dX9_refuse_2 : decode cX9_refuse 2 = .ok (.putfield 25, 3) := by decide +kernel
theorem dX9_refuse_5 : decode cX9_refuse 5 = .ok (.aload_n 0, 1) := by decide +kernel
theorem dX9_refuse_6 : decode cX9_refuse 6 = .ok (.aload_n 0, 1) := by decide +kernel
theorem dX9_refuse_7 : decode cX9_refuse 7 = .ok (.getfield 12, 3) := by decide +kernel
theorem dX9_refuse_10 : decode cX9_refuse 10 = .ok (.getfield 48, 3) := by decide +kernel
theorem dX9_refuse_13 : decode cX9_refuse 13 = .ok (.putfield 29, 3) := by decide +kernel
theorem dX9_refuse_16 : decode cX9_refuse 16 = .ok (.return_, 1) := by decide +kernel
theorem dX9_takeNumber_0 : decode cX9_takeNumber 0 = .ok (.aload_n 0, 1) := by decide +kernel
theorem dX9_takeNumber_1 : decode cX9_takeNumber 1 = .ok (.getfield 25, 3) := by decide +kernel
theorem dX9_takeNumber_4 : decode cX9_takeNumber 4 = .ok (.ifCond .eq 5, 3) := by decide +kernel
theorem dX9_takeNumber_9 : decode cX9_takeNumber 9 = .ok (.aload_n 0, 1) := by decide +kernel
theorem dX9_takeNumber_10 : decode cX9_takeNumber 10 = .ok (.getfield 12, 3) := by decide +kernel
theorem dX9_takeNumber_13 : decode cX9_takeNumber 13 = .ok (.getfield 39, 3) := by decide +kernel
theorem dX9_takeNumber_16 : decode cX9_takeNumber 16 = .ok (.iconst 2, 1) := by decide +kernel
theorem dX9_takeNumber_17 : decode cX9_takeNumber 17 = .ok (.if_icmp .eq 10, 3) := by decide +kernel
theorem dX9_takeNumber_27 : decode cX9_takeNumber 27 = .ok (.aload_n 0, 1) := by decide +kernel
theorem dX9_takeNumber_28 : decode cX9_takeNumber 28 = .ok (.getfield 12, 3) := by decide +kernel
theorem dX9_takeNumber_31 : decode cX9_takeNumber 31 = .ok (.getfield 159, 3) := by decide +kernel
theorem dX9_takeNumber_34 : decode cX9_takeNumber 34 = .ok (.istore 4, 2) := by decide +kernel
theorem dX9_takeNumber_36 : decode cX9_takeNumber 36 = .ok (.iload 4, 2) := by decide +kernel
theorem dX9_takeNumber_38 : decode cX9_takeNumber 38 = .ok (.iload_n 1, 1) := by decide +kernel
theorem dX9_takeNumber_39 : decode cX9_takeNumber 39 = .ok (.if_icmp .lt 15, 3) := by decide +kernel
theorem dX9_takeNumber_54 : decode cX9_takeNumber 54 = .ok (.aload_n 0, 1) := by decide +kernel
theorem dX9_takeNumber_55 : decode cX9_takeNumber 55 = .ok (.iconst 2, 1) := by decide +kernel
theorem dX9_takeNumber_56 : decode cX9_takeNumber 56 = .ok (.invokevirtual 85, 3) := by decide +kernel
theorem dX9_takeNumber_59 : decode cX9_takeNumber 59 = .ok (.iload_n 1, 1) := by decide +kernel
theorem dX9_takeNumber_60 : decode cX9_takeNumber 60 = .ok (.ireturn, 1) := by decide +kernel
theorem dX9_takeNumber_42 : decode cX9_takeNumber 42 = .ok (.iload 4, 2) := by decide +kernel
theorem dX9_takeNumber_44 : decode cX9_takeNumber 44 = .ok (.iload_n 2, 1) := by decide +kernel
theorem dX9_takeNumber_45 : decode cX9_takeNumber 45 = .ok (.if_icmp .gt 9, 3) := by decide +kernel
theorem dX9_takeNumber_48 : decode cX9_takeNumber 48 = .ok (.iload 4, 2) := by decide +kernel
theorem dX9_takeNumber_50 : decode cX9_takeNumber 50 = .ok (.iload_n 3, 1) := by decide +kernel
theorem dX9_takeNumber_51 : decode cX9_takeNumber 51 = .ok (.if_icmp .ne 10, 3) := by decide +kernel
theorem dX9_takeNumber_61 : decode cX9_takeNumber 61 = .ok (.aload_n 0, 1) := by decide +kernel
theorem dX9_takeNumber_62 : decode cX9_takeNumber 62 = .ok (.getfield 12, 3) := by decide +kernel
theorem dX9_takeNumber_65 : decode cX9_takeNumber 65 = .ok (.invokevirtual 89, 3) := by decide +kernel
theorem dX9_takeNumber_68 : decode cX9_takeNumber 68 = .ok (.iload 4, 2) := by decide +kernel
theorem dX9_takeNumber_70 : decode cX9_takeNumber 70 = .ok (.ireturn, 1) := by decide +kernel
theorem dX9_takeNumber_20 : decode cX9_takeNumber 20 = .ok (.aload_n 0, 1) := by decide +kernel
theorem dX9_takeNumber_21 : decode cX9_takeNumber 21 = .ok (.iconst 1, 1) := by decide +kernel
theorem dX9_takeNumber_22 : decode cX9_takeNumber 22 = .ok (.invokevirtual 85, 3) := by decide +kernel
theorem dX9_takeNumber_25 : decode cX9_takeNumber 25 = .ok (.iload_n 1, 1) := by decide +kernel
theorem dX9_takeNumber_26 : decode cX9_takeNumber 26 = .ok (.ireturn, 1) := by decide +kernel
theorem dX9_takeNumber_7 : decode cX9_takeNumber 7 = .ok (.iload_n 1, 1) := by decide +kernel
theorem dX9_takeNumber_8 : decode cX9_takeNumber 8 = .ok (.ireturn, 1) := by decide +kernel
theorem dX9_hasWord_0 : decode cX9_hasWord 0 = .ok (.aload_n 0, 1) := by decide +kernel
theorem dX9_hasWord_1 : decode cX9_hasWord 1 = .ok (.getfield 25, 3) := by decide +kernel
theorem dX9_hasWord_4 : decode cX9_hasWord 4 = .ok (.ifCond .ne 14, 3) := by decide +kernel
theorem dX9_hasWord_18 : decode cX9_hasWord 18 = .ok (.iconst 0, 1) := by decide +kernel
theorem dX9_hasWord_19 : decode cX9_hasWord 19 = .ok (.ireturn, 1) := by decide +kernel
theorem dX9_hasWord_7 : decode cX9_hasWord 7 = .ok (.aload_n 0, 1) := by decide +kernel
theorem dX9_hasWord_8 : decode cX9_hasWord 8 = .ok (.getfield 12, 3) := by decide +kernel
theorem dX9_hasWord_11 : decode cX9_hasWord 11 = .ok (.aload_n 1, 1) := by decide +kernel
theorem dX9_hasWord_12 : decode cX9_hasWord 12 = .ok (.invokevirtual 53, 3) := by decide +kernel
theorem dX9_hasWord_15 : decode cX9_hasWord 15 = .ok (.ifCond .ne 5, 3) := by decide +kernel
theorem dX9_hasWord_20 : decode cX9_hasWord 20 = .ok (.aload_n 0, 1) := by decide +kernel
theorem dX9_hasWord_21 : decode cX9_hasWord 21 = .ok (.getfield 12, 3) := by decide +kernel
theorem dX9_hasWord_24 : decode cX9_hasWord 24 = .ok (.invokevirtual 89, 3) := by decide +kernel
theorem dX9_hasWord_27 : decode cX9_hasWord 27 = .ok (.iconst 1, 1) := by decide +kernel
theorem dX9_hasWord_28 : decode cX9_hasWord 28 = .ok (.ireturn, 1) := by decide +kernel
theorem dX9_takeWord_0 : decode cX9_takeWord 0 = .ok (.aload_n 0, 1) := by decide +kernel
theorem dX9_takeWord_1 : decode cX9_takeWord 1 = .ok (.aload_n 1, 1) := by decide +kernel
theorem dX9_takeWord_2 : decode cX9_takeWord 2 = .ok (.invokevirtual 118, 3) := by decide +kernel
theorem dX9_takeWord_5 : decode cX9_takeWord 5 = .ok (.ifCond .ne 15, 3) := by decide +kernel
theorem dX9_takeWord_20 : decode cX9_takeWord 20 = .ok (.return_, 1) := by decide +kernel
theorem dX9_takeWord_8 : decode cX9_takeWord 8 = .ok (.aload_n 0, 1) := by decide +kernel
theorem dX9_takeWord_9 : decode cX9_takeWord 9 = .ok (.getfield 25, 3) := by decide +kernel
theorem dX9_takeWord_12 : decode cX9_takeWord 12 = .ok (.ifCond .ne 8, 3) := by decide +kernel
theorem dX9_takeWord_15 : decode cX9_takeWord 15 = .ok (.aload_n 0, 1) := by decide +kernel
theorem dX9_takeWord_16 : decode cX9_takeWord 16 = .ok (.iconst 1, 1) := by decide +kernel
theorem dX9_takeWord_17 : decode cX9_takeWord 17 = .ok (.invokevirtual 85, 3) := by decide +kernel
theorem dX9_takeSign_0 : decode cX9_takeSign 0 = .ok (.aload_n 0, 1) := by decide +kernel
theorem dX9_takeSign_1 : decode cX9_takeSign 1 = .ok (.getfield 25, 3) := by decide +kernel
theorem dX9_takeSign_4 : decode cX9_takeSign 4 = .ok (.ifCond .eq 4, 3) := by decide +kernel
theorem dX9_takeSign_8 : decode cX9_takeSign 8 = .ok (.aload_n 0, 1) := by decide +kernel
theorem dX9_takeSign_9 : decode cX9_takeSign 9 = .ok (.getfield 12, 3) := by decide +kernel
theorem dX9_takeSign_12 : decode cX9_takeSign 12 = .ok (.getfield 39, 3) := by decide +kernel
theorem dX9_takeSign_15 : decode cX9_takeSign 15 = .ok (.iconst 3, 1) := by decide +kernel
theorem dX9_takeSign_16 : decode cX9_takeSign 16 = .ok (.if_icmp .ne 13, 3) := by decide +kernel
theorem dX9_takeSign_29 : decode cX9_takeSign 29 = .ok (.aload_n 0, 1) := by decide +kernel
theorem dX9_takeSign_30 : decode cX9_takeSign 30 = .ok (.iconst 1, 1) := by decide +kernel
theorem dX9_takeSign_31 : decode cX9_takeSign 31 = .ok (.invokevirtual 85, 3) := by decide +kernel
theorem dX9_takeSign_34 : decode cX9_takeSign 34 = .ok (.return_, 1) := by decide +kernel
theorem dX9_takeSign_19 : decode cX9_takeSign 19 = .ok (.aload_n 0, 1) := by decide +kernel
theorem dX9_takeSign_20 : decode cX9_takeSign 20 = .ok (.getfield 12, 3) := by decide +kernel
theorem dX9_takeSign_23 : decode cX9_takeSign 23 = .ok (.invokevirtual 89, 3) := by decide +kernel
theorem dX9_takeSign_26 : decode cX9_takeSign 26 = .ok (.goto 8, 3) := by decide +kernel
theorem dX9_takeSign_7 : decode cX9_takeSign 7 = .ok (.return_, 1) := by decide +kernel
theorem dX9_readGrid_0 : decode cX9_readGrid 0 = .ok (.aload_n 0, 1) := by decide +kernel
theorem dX9_readGrid_1 : decode cX9_readGrid 1 = .ok (.getfield 12, 3) := by decide +kernel
theorem dX9_readGrid_4 : decode cX9_readGrid 4 = .ok (.invokevirtual 89, 3) := by decide +kernel
theorem dX9_readGrid_7 : decode cX9_readGrid 7 = .ok (.aload_n 0, 1) := by decide +kernel
theorem dX9_readGrid_8 : decode cX9_readGrid 8 = .ok (.iconst 2, 1) := by decide +kernel
theorem dX9_readGrid_9 : decode cX9_readGrid 9 = .ok (.iconst 4, 1) := by decide +kernel
theorem dX9_readGrid_10 : decode cX9_readGrid 10 = .ok (.iconst (-1), 1) := by decide +kernel
theorem dX9_readGrid_11 : decode cX9_readGrid 11 = .ok (.invokevirtual 92, 3) := by decide +kernel
theorem dX9_readGrid_14 : decode cX9_readGrid 14 = .ok (.istore_n 1, 1) := by decide +kernel
theorem dX9_readGrid_15 : decode cX9_readGrid 15 = .ok (.aload_n 0, 1) := by decide +kernel
theorem dX9_readGrid_16 : decode cX9_readGrid 16 = .ok (.ldc 101, 2) := by decide +kernel
theorem dX9_readGrid_18 : decode cX9_readGrid 18 = .ok (.invokevirtual 103, 3) := by decide +kernel
theorem dX9_readGrid_21 : decode cX9_readGrid 21 = .ok (.aload_n 0, 1) := by decide +kernel
theorem dX9_readGrid_22 : decode cX9_readGrid 22 = .ok (.iconst 2, 1) := by decide +kernel
theorem dX9_readGrid_23 : decode cX9_readGrid 23 = .ok (.iconst 4, 1) := by decide +kernel
theorem dX9_readGrid_24 : decode cX9_readGrid 24 = .ok (.iconst (-1), 1) := by decide +kernel
theorem dX9_readGrid_25 : decode cX9_readGrid 25 = .ok (.invokevirtual 92, 3) := by decide +kernel
theorem dX9_readGrid_28 : decode cX9_readGrid 28 = .ok (.istore_n 2, 1) := by decide +kernel
theorem dX9_readGrid_29 : decode cX9_readGrid 29 = .ok (.aload_n 0, 1) := by decide +kernel
theorem dX9_readGrid_30 : decode cX9_readGrid 30 = .ok (.ldc 107, 2) := by decide +kernel
theorem dX9_readGrid_32 : decode cX9_readGrid 32 = .ok (.invokevirtual 103, 3) := by decide +kernel
theorem dX9_readGrid_35 : decode cX9_readGrid 35 = .ok (.aload_n 0, 1) := by decide +kernel
theorem dX9_readGrid_36 : decode cX9_readGrid 36 = .ok (.iconst 1, 1) := by decide +kernel
theorem dX9_readGrid_37 : decode cX9_readGrid 37 = .ok (.bipush 60, 2) := by decide +kernel
theorem dX9_readGrid_39 : decode cX9_readGrid 39 = .ok (.iconst (-1), 1) := by decide +kernel
theorem dX9_readGrid_40 : decode cX9_readGrid 40 = .ok (.invokevirtual 92, 3) := by decide +kernel
theorem dX9_readGrid_43 : decode cX9_readGrid 43 = .ok (.istore_n 3, 1) := by decide +kernel
theorem dX9_readGrid_44 : decode cX9_readGrid 44 = .ok (.aload_n 0, 1) := by decide +kernel
theorem dX9_readGrid_45 : decode cX9_readGrid 45 = .ok (.invokevirtual 96, 3) := by decide +kernel
theorem dX9_readGrid_48 : decode cX9_readGrid 48 = .ok (.aload_n 0, 1) := by decide +kernel
theorem dX9_readGrid_49 : decode cX9_readGrid 49 = .ok (.getfield 25, 3) := by decide +kernel
theorem dX9_readGrid_52 : decode cX9_readGrid 52 = .ok (.ifCond .ne 13, 3) := by decide +kernel
theorem dX9_readGrid_65 : decode cX9_readGrid 65 = .ok (.return_, 1) := by decide +kernel
theorem dX9_readGrid_55 : decode cX9_readGrid 55 = .ok (.aload_n 0, 1) := by decide +kernel
theorem dX9_readGrid_56 : decode cX9_readGrid 56 = .ok (.getfield 21, 3) := by decide +kernel
theorem dX9_readGrid_59 : decode cX9_readGrid 59 = .ok (.iload_n 1, 1) := by decide +kernel
theorem dX9_readGrid_60 : decode cX9_readGrid 60 = .ok (.iload_n 2, 1) := by decide +kernel
theorem dX9_readGrid_61 : decode cX9_readGrid 61 = .ok (.iload_n 3, 1) := by decide +kernel
theorem dX9_readGrid_62 : decode cX9_readGrid 62 = .ok (.invokevirtual 109, 3) := by decide +kernel
theorem dX9_readCorners_0 : decode cX9_readCorners 0 = .ok (.aload_n 0, 1) := by decide +kernel
theorem dX9_readCorners_1 : decode cX9_readCorners 1 = .ok (.getfield 12, 3) := by decide +kernel
theorem dX9_readCorners_4 : decode cX9_readCorners 4 = .ok (.invokevirtual 89, 3) := by decide +kernel
theorem dX9_readCorners_7 : decode cX9_readCorners 7 = .ok (.aload_n 0, 1) := by decide +kernel
theorem dX9_readCorners_8 : decode cX9_readCorners 8 = .ok (.iconst 2, 1) := by decide +kernel
theorem dX9_readCorners_9 : decode cX9_readCorners 9 = .ok (.bipush 16, 2) := by decide +kernel
theorem dX9_readCorners_11 : decode cX9_readCorners 11 = .ok (.iconst (-1), 1) := by decide +kernel
theorem dX9_readCorners_12 : decode cX9_readCorners 12 = .ok (.invokevirtual 92, 3) := by decide +kernel
theorem dX9_readCorners_15 : decode cX9_readCorners 15 = .ok (.istore_n 1, 1) := by decide +kernel
theorem dX9_readCorners_16 : decode cX9_readCorners 16 = .ok (.aload_n 0, 1) := by decide +kernel
theorem dX9_readCorners_17 : decode cX9_readCorners 17 = .ok (.invokevirtual 96, 3) := by decide +kernel
theorem dX9_readCorners_20 : decode cX9_readCorners 20 = .ok (.aload_n 0, 1) := by decide +kernel
theorem dX9_readCorners_21 : decode cX9_readCorners 21 = .ok (.getfield 25, 3) := by decide +kernel
theorem dX9_readCorners_24 : decode cX9_readCorners 24 = .ok (.ifCond .ne 11, 3) := by decide +kernel
theorem dX9_readCorners_35 : decode cX9_readCorners 35 = .ok (.return_, 1) := by decide +kernel
theorem dX9_readCorners_27 : decode cX9_readCorners 27 = .ok (.aload_n 0, 1) := by decide +kernel
theorem dX9_readCorners_28 : decode cX9_readCorners 28 = .ok (.getfield 21, 3) := by decide +kernel
theorem dX9_readCorners_31 : decode cX9_readCorners 31 = .ok (.iload_n 1, 1) := by decide +kernel
theorem dX9_readCorners_32 : decode cX9_readCorners 32 = .ok (.putfield 99, 3) := by decide +kernel
theorem dX9_readHouse_0 : decode cX9_readHouse 0 = .ok (.aload_n 0, 1) := by decide +kernel
theorem dX9_readHouse_1 : decode cX9_readHouse 1 = .ok (.getfield 21, 3) := by decide +kernel
theorem dX9_readHouse_4 : decode cX9_readHouse 4 = .ok (.getfield 147, 3) := by decide +kernel
theorem dX9_readHouse_7 : decode cX9_readHouse 7 = .ok (.iconst (-1), 1) := by decide +kernel
theorem dX9_readHouse_8 : decode cX9_readHouse 8 = .ok (.if_icmp .eq 9, 3) := by decide +kernel
theorem dX9_readHouse_17 : decode cX9_readHouse 17 = .ok (.aload_n 0, 1) := by decide +kernel
theorem dX9_readHouse_18 : decode cX9_readHouse 18 = .ok (.getfield 12, 3) := by decide +kernel
theorem dX9_readHouse_21 : decode cX9_readHouse 21 = .ok (.invokevirtual 89, 3) := by decide +kernel
theorem dX9_readHouse_24 : decode cX9_readHouse 24 = .ok (.aload_n 0, 1) := by decide +kernel
theorem dX9_readHouse_25 : decode cX9_readHouse 25 = .ok (.iconst 0, 1) := by decide +kernel
theorem dX9_readHouse_26 : decode cX9_readHouse 26 = .ok (.aload_n 0, 1) := by decide +kernel
theorem dX9_readHouse_27 : decode cX9_readHouse 27 = .ok (.getfield 21, 3) := by decide +kernel
theorem dX9_readHouse_30 : decode cX9_readHouse 30 = .ok (.getfield 99, 3) := by decide +kernel
theorem dX9_readHouse_33 : decode cX9_readHouse 33 = .ok (.iconst 1, 1) := by decide +kernel
theorem dX9_readHouse_34 : decode cX9_readHouse 34 = .ok (.isub, 1) := by decide +kernel
theorem dX9_readHouse_35 : decode cX9_readHouse 35 = .ok (.iconst (-1), 1) := by decide +kernel
theorem dX9_readHouse_36 : decode cX9_readHouse 36 = .ok (.invokevirtual 92, 3) := by decide +kernel
theorem dX9_readHouse_39 : decode cX9_readHouse 39 = .ok (.istore_n 1, 1) := by decide +kernel
theorem dX9_readHouse_40 : decode cX9_readHouse 40 = .ok (.aload_n 0, 1) := by decide +kernel
theorem dX9_readHouse_41 : decode cX9_readHouse 41 = .ok (.invokevirtual 96, 3) := by decide +kernel
theorem dX9_readHouse_44 : decode cX9_readHouse 44 = .ok (.aload_n 0, 1) := by decide +kernel
theorem dX9_readHouse_45 : decode cX9_readHouse 45 = .ok (.getfield 25, 3) := by decide +kernel
theorem dX9_readHouse_48 : decode cX9_readHouse 48 = .ok (.ifCond .ne 11, 3) := by decide +kernel
theorem dX9_readHouse_59 : decode cX9_readHouse 59 = .ok (.return_, 1) := by decide +kernel
theorem dX9_readHouse_51 : decode cX9_readHouse 51 = .ok (.aload_n 0, 1) := by decide +kernel
theorem dX9_readHouse_52 : decode cX9_readHouse 52 = .ok (.getfield 21, 3) := by decide +kernel
theorem dX9_readHouse_55 : decode cX9_readHouse 55 = .ok (.iload_n 1, 1) := by decide +kernel
theorem dX9_readHouse_56 : decode cX9_readHouse 56 = .ok (.putfield 147, 3) := by decide +kernel
theorem dX9_readHouse_11 : decode cX9_readHouse 11 = .ok (.aload_n 0, 1) := by decide +kernel
theorem dX9_readHouse_12 : decode cX9_readHouse 12 = .ok (.iconst 3, 1) := by decide +kernel
theorem dX9_readHouse_13 : decode cX9_readHouse 13 = .ok (.invokevirtual 85, 3) := by decide +kernel
theorem dX9_readHouse_16 : decode cX9_readHouse 16 = .ok (.return_, 1) := by decide +kernel
theorem dX9_takeMember_0 : decode cX9_takeMember 0 = .ok (.aload_n 0, 1) := by decide +kernel
theorem dX9_takeMember_1 : decode cX9_takeMember 1 = .ok (.getfield 25, 3) := by decide +kernel
theorem dX9_takeMember_4 : decode cX9_takeMember 4 = .ok (.ifCond .eq 4, 3) := by decide +kernel
theorem dX9_takeMember_8 : decode cX9_takeMember 8 = .ok (.aload_n 0, 1) := by decide +kernel
theorem dX9_takeMember_9 : decode cX9_takeMember 9 = .ok (.getfield 12, 3) := by decide +kernel
theorem dX9_takeMember_12 : decode cX9_takeMember 12 = .ok (.getfield 39, 3) := by decide +kernel
theorem dX9_takeMember_15 : decode cX9_takeMember 15 = .ok (.iconst 2, 1) := by decide +kernel
theorem dX9_takeMember_16 : decode cX9_takeMember 16 = .ok (.if_icmp .eq 11, 3) := by decide +kernel
theorem dX9_takeMember_27 : decode cX9_takeMember 27 = .ok (.aload_n 0, 1) := by decide +kernel
theorem dX9_takeMember_28 : decode cX9_takeMember 28 = .ok (.getfield 12, 3) := by decide +kernel
theorem dX9_takeMember_31 : decode cX9_takeMember 31 = .ok (.getfield 159, 3) := by decide +kernel
theorem dX9_takeMember_34 : decode cX9_takeMember 34 = .ok (.aload_n 0, 1) := by decide +kernel
theorem dX9_takeMember_35 : decode cX9_takeMember 35 = .ok (.getfield 21, 3) := by decide +kernel
theorem dX9_takeMember_38 : decode cX9_takeMember 38 = .ok (.getfield 113, 3) := by decide +kernel
theorem dX9_takeMember_41 : decode cX9_takeMember 41 = .ok (.if_icmp .ge 26, 3) := by decide +kernel
theorem dX9_takeMember_67 : decode cX9_takeMember 67 = .ok (.aload_n 0, 1) := by decide +kernel
theorem dX9_takeMember_68 : decode cX9_takeMember 68 = .ok (.iconst 2, 1) := by decide +kernel
theorem dX9_takeMember_69 : decode cX9_takeMember 69 = .ok (.invokevirtual 85, 3) := by decide +kernel
theorem dX9_takeMember_72 : decode cX9_takeMember 72 = .ok (.goto 61, 3) := by decide +kernel
theorem dX9_takeMember_133 : decode cX9_takeMember 133 = .ok (.return_, 1) := by decide +kernel
theorem dX9_takeMember_44 : decode cX9_takeMember 44 = .ok (.aload_n 0, 1) := by decide +kernel
theorem dX9_takeMember_45 : decode cX9_takeMember 45 = .ok (.getfield 21, 3) := by decide +kernel
theorem dX9_takeMember_48 : decode cX9_takeMember 48 = .ok (.getfield 149, 3) := by decide +kernel
theorem dX9_takeMember_51 : decode cX9_takeMember 51 = .ok (.getfield 162, 3) := by decide +kernel
theorem dX9_takeMember_54 : decode cX9_takeMember 54 = .ok (.aload_n 0, 1) := by decide +kernel
theorem dX9_takeMember_55 : decode cX9_takeMember 55 = .ok (.getfield 12, 3) := by decide +kernel
theorem dX9_takeMember_58 : decode cX9_takeMember 58 = .ok (.getfield 159, 3) := by decide +kernel
theorem dX9_takeMember_61 : decode cX9_takeMember 61 = .ok (.ishr, 1) := by decide +kernel
theorem dX9_takeMember_62 : decode cX9_takeMember 62 = .ok (.iconst 1, 1) := by decide +kernel
theorem dX9_takeMember_63 : decode cX9_takeMember 63 = .ok (.iand, 1) := by decide +kernel
theorem dX9_takeMember_64 : decode cX9_takeMember 64 = .ok (.ifCond .eq 11, 3) := by decide +kernel
theorem dX9_takeMember_75 : decode cX9_takeMember 75 = .ok (.aload_n 0, 1) := by decide +kernel
theorem dX9_takeMember_76 : decode cX9_takeMember 76 = .ok (.getfield 21, 3) := by decide +kernel
theorem dX9_takeMember_79 : decode cX9_takeMember 79 = .ok (.getfield 149, 3) := by decide +kernel
theorem dX9_takeMember_82 : decode cX9_takeMember 82 = .ok (.getfield 165, 3) := by decide +kernel
theorem dX9_takeMember_85 : decode cX9_takeMember 85 = .ok (.aload_n 0, 1) := by decide +kernel
theorem dX9_takeMember_86 : decode cX9_takeMember 86 = .ok (.getfield 21, 3) := by decide +kernel
theorem dX9_takeMember_89 : decode cX9_takeMember 89 = .ok (.getfield 149, 3) := by decide +kernel
theorem dX9_takeMember_92 : decode cX9_takeMember 92 = .ok (.getfield 153, 3) := by decide +kernel
theorem dX9_takeMember_95 : decode cX9_takeMember 95 = .ok (.iaload, 1) := by decide +kernel
theorem dX9_takeMember_96 : decode cX9_takeMember 96 = .ok (.bipush 6, 2) := by decide +kernel
theorem dX9_takeMember_98 : decode cX9_takeMember 98 = .ok (.if_icmp .lt 11, 3) := by decide +kernel
theorem dX9_takeMember_109 : decode cX9_takeMember 109 = .ok (.aload_n 0, 1) := by decide +kernel
theorem dX9_takeMember_110 : decode cX9_takeMember 110 = .ok (.getfield 21, 3) := by decide +kernel
theorem dX9_takeMember_113 : decode cX9_takeMember 113 = .ok (.getfield 149, 3) := by decide +kernel
theorem dX9_takeMember_116 : decode cX9_takeMember 116 = .ok (.aload_n 0, 1) := by decide +kernel
theorem dX9_takeMember_117 : decode cX9_takeMember 117 = .ok (.getfield 12, 3) := by decide +kernel
theorem dX9_takeMember_120 : decode cX9_takeMember 120 = .ok (.getfield 159, 3) := by decide +kernel
theorem dX9_takeMember_123 : decode cX9_takeMember 123 = .ok (.invokevirtual 169, 3) := by decide +kernel
theorem dX9_takeMember_126 : decode cX9_takeMember 126 = .ok (.aload_n 0, 1) := by decide +kernel
theorem dX9_takeMember_127 : decode cX9_takeMember 127 = .ok (.getfield 12, 3) := by decide +kernel
theorem dX9_takeMember_130 : decode cX9_takeMember 130 = .ok (.invokevirtual 89, 3) := by decide +kernel
theorem dX9_takeMember_101 : decode cX9_takeMember 101 = .ok (.aload_n 0, 1) := by decide +kernel
theorem dX9_takeMember_102 : decode cX9_takeMember 102 = .ok (.iconst 3, 1) := by decide +kernel
theorem dX9_takeMember_103 : decode cX9_takeMember 103 = .ok (.invokevirtual 85, 3) := by decide +kernel
theorem dX9_takeMember_106 : decode cX9_takeMember 106 = .ok (.goto 27, 3) := by decide +kernel
theorem dX9_takeMember_19 : decode cX9_takeMember 19 = .ok (.aload_n 0, 1) := by decide +kernel
theorem dX9_takeMember_20 : decode cX9_takeMember 20 = .ok (.iconst 1, 1) := by decide +kernel
theorem dX9_takeMember_21 : decode cX9_takeMember 21 = .ok (.invokevirtual 85, 3) := by decide +kernel
theorem dX9_takeMember_24 : decode cX9_takeMember 24 = .ok (.goto 109, 3) := by decide +kernel
theorem dX9_takeMember_7 : decode cX9_takeMember 7 = .ok (.return_, 1) := by decide +kernel
theorem dX9_readStreet_0 : decode cX9_readStreet 0 = .ok (.aload_n 0, 1) := by decide +kernel
theorem dX9_readStreet_1 : decode cX9_readStreet 1 = .ok (.getfield 21, 3) := by decide +kernel
theorem dX9_readStreet_4 : decode cX9_readStreet 4 = .ok (.getfield 149, 3) := by decide +kernel
theorem dX9_readStreet_7 : decode cX9_readStreet 7 = .ok (.getfield 153, 3) := by decide +kernel
theorem dX9_readStreet_10 : decode cX9_readStreet 10 = .ok (.bipush 6, 2) := by decide +kernel
theorem dX9_readStreet_12 : decode cX9_readStreet 12 = .ok (.if_icmp .lt 9, 3) := by decide +kernel
theorem dX9_readStreet_21 : decode cX9_readStreet 21 = .ok (.aload_n 0, 1) := by decide +kernel
theorem dX9_readStreet_22 : decode cX9_readStreet 22 = .ok (.getfield 12, 3) := by decide +kernel
theorem dX9_readStreet_25 : decode cX9_readStreet 25 = .ok (.invokevirtual 89, 3) := by decide +kernel
theorem dX9_readStreet_28 : decode cX9_readStreet 28 = .ok (.aload_n 0, 1) := by decide +kernel
theorem dX9_readStreet_29 : decode cX9_readStreet 29 = .ok (.invokevirtual 156, 3) := by decide +kernel
theorem dX9_readStreet_32 : decode cX9_readStreet 32 = .ok (.aload_n 0, 1) := by decide +kernel
theorem dX9_readStreet_33 : decode cX9_readStreet 33 = .ok (.invokevirtual 156, 3) := by decide +kernel
theorem dX9_readStreet_36 : decode cX9_readStreet 36 = .ok (.iconst 2, 1) := by decide +kernel
theorem dX9_readStreet_37 : decode cX9_readStreet 37 = .ok (.istore_n 1, 1) := by decide +kernel
theorem dX9_readStreet_38 : decode cX9_readStreet 38 = .ok (.iload_n 1, 1) := by decide +kernel
theorem dX9_readStreet_39 : decode cX9_readStreet 39 = .ok (.bipush 6, 2) := by decide +kernel
theorem dX9_readStreet_41 : decode cX9_readStreet 41 = .ok (.if_icmp .gt 24, 3) := by decide +kernel
theorem dX9_readStreet_44 : decode cX9_readStreet 44 = .ok (.aload_n 0, 1) := by decide +kernel
theorem dX9_readStreet_45 : decode cX9_readStreet 45 = .ok (.getfield 12, 3) := by decide +kernel
theorem dX9_readStreet_48 : decode cX9_readStreet 48 = .ok (.getfield 39, 3) := by decide +kernel
theorem dX9_readStreet_51 : decode cX9_readStreet 51 = .ok (.iconst 2, 1) := by decide +kernel
theorem dX9_readStreet_52 : decode cX9_readStreet 52 = .ok (.if_icmp .ne 13, 3) := by decide +kernel
theorem dX9_readStreet_55 : decode cX9_readStreet 55 = .ok (.aload_n 0, 1) := by decide +kernel
theorem dX9_readStreet_56 : decode cX9_readStreet 56 = .ok (.invokevirtual 156, 3) := by decide +kernel
theorem dX9_readStreet_59 : decode cX9_readStreet 59 = .ok (.iinc 1 1, 3) := by decide +kernel
theorem dX9_readStreet_62 : decode cX9_readStreet 62 = .ok (.goto (-24), 3) := by decide +kernel
theorem dX9_readStreet_65 : decode cX9_readStreet 65 = .ok (.aload_n 0, 1) := by decide +kernel
theorem dX9_readStreet_66 : decode cX9_readStreet 66 = .ok (.invokevirtual 96, 3) := by decide +kernel
theorem dX9_readStreet_69 : decode cX9_readStreet 69 = .ok (.aload_n 0, 1) := by decide +kernel
theorem dX9_readStreet_70 : decode cX9_readStreet 70 = .ok (.getfield 25, 3) := by decide +kernel
theorem dX9_readStreet_73 : decode cX9_readStreet 73 = .ok (.ifCond .ne 19, 3) := by decide +kernel
theorem dX9_readStreet_92 : decode cX9_readStreet 92 = .ok (.return_, 1) := by decide +kernel
theorem dX9_readStreet_76 : decode cX9_readStreet 76 = .ok (.aload_n 0, 1) := by decide +kernel
theorem dX9_readStreet_77 : decode cX9_readStreet 77 = .ok (.getfield 21, 3) := by decide +kernel
theorem dX9_readStreet_80 : decode cX9_readStreet 80 = .ok (.getfield 149, 3) := by decide +kernel
theorem dX9_readStreet_83 : decode cX9_readStreet 83 = .ok (.dup, 1) := by decide +kernel
theorem dX9_readStreet_84 : decode cX9_readStreet 84 = .ok (.getfield 153, 3) := by decide +kernel
theorem dX9_readStreet_87 : decode cX9_readStreet 87 = .ok (.iconst 1, 1) := by decide +kernel
theorem dX9_readStreet_88 : decode cX9_readStreet 88 = .ok (.iadd, 1) := by decide +kernel
theorem dX9_readStreet_89 : decode cX9_readStreet 89 = .ok (.putfield 153, 3) := by decide +kernel
theorem dX9_readStreet_15 : decode cX9_readStreet 15 = .ok (.aload_n 0, 1) := by decide +kernel
theorem dX9_readStreet_16 : decode cX9_readStreet 16 = .ok (.iconst 3, 1) := by decide +kernel
theorem dX9_readStreet_17 : decode cX9_readStreet 17 = .ok (.invokevirtual 85, 3) := by decide +kernel
theorem dX9_readStreet_20 : decode cX9_readStreet 20 = .ok (.return_, 1) := by decide +kernel
theorem dX9_readJourney_0 : decode cX9_readJourney 0 = .ok (.aload_n 0, 1) := by decide +kernel
theorem dX9_readJourney_1 : decode cX9_readJourney 1 = .ok (.getfield 21, 3) := by decide +kernel
theorem dX9_readJourney_4 : decode cX9_readJourney 4 = .ok (.getfield 133, 3) := by decide +kernel
theorem dX9_readJourney_7 : decode cX9_readJourney 7 = .ok (.getfield 137, 3) := by decide +kernel
theorem dX9_readJourney_10 : decode cX9_readJourney 10 = .ok (.bipush 10, 2) := by decide +kernel
theorem dX9_readJourney_12 : decode cX9_readJourney 12 = .ok (.if_icmp .lt 9, 3) := by decide +kernel
theorem dX9_readJourney_21 : decode cX9_readJourney 21 = .ok (.aload_n 0, 1) := by decide +kernel
theorem dX9_readJourney_22 : decode cX9_readJourney 22 = .ok (.getfield 12, 3) := by decide +kernel
theorem dX9_readJourney_25 : decode cX9_readJourney 25 = .ok (.invokevirtual 89, 3) := by decide +kernel
theorem dX9_readJourney_28 : decode cX9_readJourney 28 = .ok (.aload_n 0, 1) := by decide +kernel
theorem dX9_readJourney_29 : decode cX9_readJourney 29 = .ok (.iconst 0, 1) := by decide +kernel
theorem dX9_readJourney_30 : decode cX9_readJourney 30 = .ok (.aload_n 0, 1) := by decide +kernel
theorem dX9_readJourney_31 : decode cX9_readJourney 31 = .ok (.getfield 21, 3) := by decide +kernel
theorem dX9_readJourney_34 : decode cX9_readJourney 34 = .ok (.getfield 99, 3) := by decide +kernel
theorem dX9_readJourney_37 : decode cX9_readJourney 37 = .ok (.iconst 1, 1) := by decide +kernel
theorem dX9_readJourney_38 : decode cX9_readJourney 38 = .ok (.isub, 1) := by decide +kernel
theorem dX9_readJourney_39 : decode cX9_readJourney 39 = .ok (.iconst (-1), 1) := by decide +kernel
theorem dX9_readJourney_40 : decode cX9_readJourney 40 = .ok (.invokevirtual 92, 3) := by decide +kernel
theorem dX9_readJourney_43 : decode cX9_readJourney 43 = .ok (.istore_n 1, 1) := by decide +kernel
theorem dX9_readJourney_44 : decode cX9_readJourney 44 = .ok (.aload_n 0, 1) := by decide +kernel
theorem dX9_readJourney_45 : decode cX9_readJourney 45 = .ok (.iconst 0, 1) := by decide +kernel
theorem dX9_readJourney_46 : decode cX9_readJourney 46 = .ok (.aload_n 0, 1) := by decide +kernel
theorem dX9_readJourney_47 : decode cX9_readJourney 47 = .ok (.getfield 21, 3) := by decide +kernel
theorem dX9_readJourney_50 : decode cX9_readJourney 50 = .ok (.getfield 99, 3) := by decide +kernel
theorem dX9_readJourney_53 : decode cX9_readJourney 53 = .ok (.iconst 1, 1) := by decide +kernel
theorem dX9_readJourney_54 : decode cX9_readJourney 54 = .ok (.isub, 1) := by decide +kernel
theorem dX9_readJourney_55 : decode cX9_readJourney 55 = .ok (.iload_n 1, 1) := by decide +kernel
theorem dX9_readJourney_56 : decode cX9_readJourney 56 = .ok (.invokevirtual 92, 3) := by decide +kernel
theorem dX9_readJourney_59 : decode cX9_readJourney 59 = .ok (.istore_n 2, 1) := by decide +kernel
theorem dX9_readJourney_60 : decode cX9_readJourney 60 = .ok (.aload_n 0, 1) := by decide +kernel
theorem dX9_readJourney_61 : decode cX9_readJourney 61 = .ok (.ldc 142, 2) := by decide +kernel
theorem dX9_readJourney_63 : decode cX9_readJourney 63 = .ok (.invokevirtual 103, 3) := by decide +kernel
theorem dX9_readJourney_66 : decode cX9_readJourney 66 = .ok (.aload_n 0, 1) := by decide +kernel
theorem dX9_readJourney_67 : decode cX9_readJourney 67 = .ok (.iconst 1, 1) := by decide +kernel
theorem dX9_readJourney_68 : decode cX9_readJourney 68 = .ok (.bipush 99, 2) := by decide +kernel
theorem dX9_readJourney_70 : decode cX9_readJourney 70 = .ok (.iconst (-1), 1) := by decide +kernel
theorem dX9_readJourney_71 : decode cX9_readJourney 71 = .ok (.invokevirtual 92, 3) := by decide +kernel
theorem dX9_readJourney_74 : decode cX9_readJourney 74 = .ok (.istore_n 3, 1) := by decide +kernel
theorem dX9_readJourney_75 : decode cX9_readJourney 75 = .ok (.aload_n 0, 1) := by decide +kernel
theorem dX9_readJourney_76 : decode cX9_readJourney 76 = .ok (.invokevirtual 96, 3) := by decide +kernel
theorem dX9_readJourney_79 : decode cX9_readJourney 79 = .ok (.aload_n 0, 1) := by decide +kernel
theorem dX9_readJourney_80 : decode cX9_readJourney 80 = .ok (.getfield 25, 3) := by decide +kernel
theorem dX9_readJourney_83 : decode cX9_readJourney 83 = .ok (.ifCond .ne 16, 3) := by decide +kernel
theorem dX9_readJourney_99 : decode cX9_readJourney 99 = .ok (.return_, 1) := by decide +kernel
theorem dX9_readJourney_86 : decode cX9_readJourney 86 = .ok (.aload_n 0, 1) := by decide +kernel
theorem dX9_readJourney_87 : decode cX9_readJourney 87 = .ok (.getfield 21, 3) := by decide +kernel
theorem dX9_readJourney_90 : decode cX9_readJourney 90 = .ok (.getfield 133, 3) := by decide +kernel
theorem dX9_readJourney_93 : decode cX9_readJourney 93 = .ok (.iload_n 1, 1) := by decide +kernel
theorem dX9_readJourney_94 : decode cX9_readJourney 94 = .ok (.iload_n 2, 1) := by decide +kernel
theorem dX9_readJourney_95 : decode cX9_readJourney 95 = .ok (.iload_n 3, 1) := by decide +kernel
theorem dX9_readJourney_96 : decode cX9_readJourney 96 = .ok (.invokevirtual 144, 3) := by decide +kernel
theorem dX9_readJourney_15 : decode cX9_readJourney 15 = .ok (.aload_n 0, 1) := by decide +kernel
theorem dX9_readJourney_16 : decode cX9_readJourney 16 = .ok (.iconst 3, 1) := by decide +kernel
theorem dX9_readJourney_17 : decode cX9_readJourney 17 = .ok (.invokevirtual 85, 3) := by decide +kernel
theorem dX9_readJourney_20 : decode cX9_readJourney 20 = .ok (.return_, 1) := by decide +kernel
theorem dX9_readAlley_0 : decode cX9_readAlley 0 = .ok (.aload_n 0, 1) := by decide +kernel
theorem dX9_readAlley_1 : decode cX9_readAlley 1 = .ok (.getfield 21, 3) := by decide +kernel
theorem dX9_readAlley_4 : decode cX9_readAlley 4 = .ok (.getfield 113, 3) := by decide +kernel
theorem dX9_readAlley_7 : decode cX9_readAlley 7 = .ok (.bipush 28, 2) := by decide +kernel
theorem dX9_readAlley_9 : decode cX9_readAlley 9 = .ok (.if_icmp .lt 9, 3) := by decide +kernel
theorem dX9_readAlley_18 : decode cX9_readAlley 18 = .ok (.aload_n 0, 1) := by decide +kernel
theorem dX9_readAlley_19 : decode cX9_readAlley 19 = .ok (.getfield 12, 3) := by decide +kernel
theorem dX9_readAlley_22 : decode cX9_readAlley 22 = .ok (.invokevirtual 89, 3) := by decide +kernel
theorem dX9_readAlley_25 : decode cX9_readAlley 25 = .ok (.aload_n 0, 1) := by decide +kernel
theorem dX9_readAlley_26 : decode cX9_readAlley 26 = .ok (.iconst 0, 1) := by decide +kernel
theorem dX9_readAlley_27 : decode cX9_readAlley 27 = .ok (.aload_n 0, 1) := by decide +kernel
theorem dX9_readAlley_28 : decode cX9_readAlley 28 = .ok (.getfield 21, 3) := by decide +kernel
theorem dX9_readAlley_31 : decode cX9_readAlley 31 = .ok (.getfield 99, 3) := by decide +kernel
theorem dX9_readAlley_34 : decode cX9_readAlley 34 = .ok (.iconst 1, 1) := by decide +kernel
theorem dX9_readAlley_35 : decode cX9_readAlley 35 = .ok (.isub, 1) := by decide +kernel
theorem dX9_readAlley_36 : decode cX9_readAlley 36 = .ok (.iconst (-1), 1) := by decide +kernel
theorem dX9_readAlley_37 : decode cX9_readAlley 37 = .ok (.invokevirtual 92, 3) := by decide +kernel
theorem dX9_readAlley_40 : decode cX9_readAlley 40 = .ok (.istore_n 1, 1) := by decide +kernel
theorem dX9_readAlley_41 : decode cX9_readAlley 41 = .ok (.aload_n 0, 1) := by decide +kernel
theorem dX9_readAlley_42 : decode cX9_readAlley 42 = .ok (.iconst 0, 1) := by decide +kernel
theorem dX9_readAlley_43 : decode cX9_readAlley 43 = .ok (.aload_n 0, 1) := by decide +kernel
theorem dX9_readAlley_44 : decode cX9_readAlley 44 = .ok (.getfield 21, 3) := by decide +kernel
theorem dX9_readAlley_47 : decode cX9_readAlley 47 = .ok (.getfield 99, 3) := by decide +kernel
theorem dX9_readAlley_50 : decode cX9_readAlley 50 = .ok (.iconst 1, 1) := by decide +kernel
theorem dX9_readAlley_51 : decode cX9_readAlley 51 = .ok (.isub, 1) := by decide +kernel
theorem dX9_readAlley_52 : decode cX9_readAlley 52 = .ok (.iload_n 1, 1) := by decide +kernel
theorem dX9_readAlley_53 : decode cX9_readAlley 53 = .ok (.invokevirtual 92, 3) := by decide +kernel
theorem dX9_readAlley_56 : decode cX9_readAlley 56 = .ok (.istore_n 2, 1) := by decide +kernel
theorem dX9_readAlley_57 : decode cX9_readAlley 57 = .ok (.aload_n 0, 1) := by decide +kernel
theorem dX9_readAlley_58 : decode cX9_readAlley 58 = .ok (.ldc 107, 2) := by decide +kernel
theorem dX9_readAlley_60 : decode cX9_readAlley 60 = .ok (.invokevirtual 103, 3) := by decide +kernel
theorem dX9_readAlley_63 : decode cX9_readAlley 63 = .ok (.aload_n 0, 1) := by decide +kernel
theorem dX9_readAlley_64 : decode cX9_readAlley 64 = .ok (.iconst 1, 1) := by decide +kernel
theorem dX9_readAlley_65 : decode cX9_readAlley 65 = .ok (.bipush 60, 2) := by decide +kernel
theorem dX9_readAlley_67 : decode cX9_readAlley 67 = .ok (.iconst (-1), 1) := by decide +kernel
theorem dX9_readAlley_68 : decode cX9_readAlley 68 = .ok (.invokevirtual 92, 3) := by decide +kernel
theorem dX9_readAlley_71 : decode cX9_readAlley 71 = .ok (.istore_n 3, 1) := by decide +kernel
theorem dX9_readAlley_72 : decode cX9_readAlley 72 = .ok (.aload_n 0, 1) := by decide +kernel
theorem dX9_readAlley_73 : decode cX9_readAlley 73 = .ok (.ldc 116, 2) := by decide +kernel
theorem dX9_readAlley_75 : decode cX9_readAlley 75 = .ok (.invokevirtual 118, 3) := by decide +kernel
theorem dX9_readAlley_78 : decode cX9_readAlley 78 = .ok (.ifCond .eq 15, 3) := by decide +kernel
theorem dX9_readAlley_93 : decode cX9_readAlley 93 = .ok (.iconst (-1), 1) := by decide +kernel
theorem dX9_readAlley_94 : decode cX9_readAlley 94 = .ok (.istore 4, 2) := by decide +kernel
theorem dX9_readAlley_96 : decode cX9_readAlley 96 = .ok (.aload_n 0, 1) := by decide +kernel
theorem dX9_readAlley_97 : decode cX9_readAlley 97 = .ok (.ldc 121, 2) := by decide +kernel
theorem dX9_readAlley_99 : decode cX9_readAlley 99 = .ok (.invokevirtual 118, 3) := by decide +kernel
theorem dX9_readAlley_102 : decode cX9_readAlley 102 = .ok (.istore 5, 2) := by decide +kernel
theorem dX9_readAlley_104 : decode cX9_readAlley 104 = .ok (.aload_n 0, 1) := by decide +kernel
theorem dX9_readAlley_105 : decode cX9_readAlley 105 = .ok (.ldc 123, 2) := by decide +kernel
theorem dX9_readAlley_107 : decode cX9_readAlley 107 = .ok (.invokevirtual 118, 3) := by decide +kernel
theorem dX9_readAlley_110 : decode cX9_readAlley 110 = .ok (.istore 6, 2) := by decide +kernel
theorem dX9_readAlley_112 : decode cX9_readAlley 112 = .ok (.aload_n 0, 1) := by decide +kernel
theorem dX9_readAlley_113 : decode cX9_readAlley 113 = .ok (.invokevirtual 96, 3) := by decide +kernel
theorem dX9_readAlley_116 : decode cX9_readAlley 116 = .ok (.aload_n 0, 1) := by decide +kernel
theorem dX9_readAlley_117 : decode cX9_readAlley 117 = .ok (.getfield 25, 3) := by decide +kernel
theorem dX9_readAlley_120 : decode cX9_readAlley 120 = .ok (.ifCond .ne 72, 3) := by decide +kernel
theorem dX9_readAlley_192 : decode cX9_readAlley 192 = .ok (.return_, 1) := by decide +kernel
theorem dX9_readAlley_123 : decode cX9_readAlley 123 = .ok (.iconst 1, 1) := by decide +kernel
theorem dX9_readAlley_124 : decode cX9_readAlley 124 = .ok (.aload_n 0, 1) := by decide +kernel
theorem dX9_readAlley_125 : decode cX9_readAlley 125 = .ok (.getfield 21, 3) := by decide +kernel
theorem dX9_readAlley_128 : decode cX9_readAlley 128 = .ok (.getfield 113, 3) := by decide +kernel
theorem dX9_readAlley_131 : decode cX9_readAlley 131 = .ok (.ishl, 1) := by decide +kernel
theorem dX9_readAlley_132 : decode cX9_readAlley 132 = .ok (.istore 7, 2) := by decide +kernel
theorem dX9_readAlley_134 : decode cX9_readAlley 134 = .ok (.aload_n 0, 1) := by decide +kernel
theorem dX9_readAlley_135 : decode cX9_readAlley 135 = .ok (.getfield 21, 3) := by decide +kernel
theorem dX9_readAlley_138 : decode cX9_readAlley 138 = .ok (.dup, 1) := by decide +kernel
theorem dX9_readAlley_139 : decode cX9_readAlley 139 = .ok (.getfield 125, 3) := by decide +kernel
theorem dX9_readAlley_142 : decode cX9_readAlley 142 = .ok (.iload 5, 2) := by decide +kernel
theorem dX9_readAlley_144 : decode cX9_readAlley 144 = .ok (.ifCond .eq 8, 3) := by decide +kernel
theorem dX9_readAlley_152 : decode cX9_readAlley 152 = .ok (.iconst 0, 1) := by decide +kernel
theorem dX9_readAlley_153 : decode cX9_readAlley 153 = .ok (.ior, 1) := by decide +kernel
theorem dX9_readAlley_154 : decode cX9_readAlley 154 = .ok (.putfield 125, 3) := by decide +kernel
theorem dX9_readAlley_157 : decode cX9_readAlley 157 = .ok (.aload_n 0, 1) := by decide +kernel
theorem dX9_readAlley_158 : decode cX9_readAlley 158 = .ok (.getfield 21, 3) := by decide +kernel
theorem dX9_readAlley_161 : decode cX9_readAlley 161 = .ok (.dup, 1) := by decide +kernel
theorem dX9_readAlley_162 : decode cX9_readAlley 162 = .ok (.getfield 127, 3) := by decide +kernel
theorem dX9_readAlley_165 : decode cX9_readAlley 165 = .ok (.iload 6, 2) := by decide +kernel
theorem dX9_readAlley_167 : decode cX9_readAlley 167 = .ok (.ifCond .eq 8, 3) := by decide +kernel
theorem dX9_readAlley_175 : decode cX9_readAlley 175 = .ok (.iconst 0, 1) := by decide +kernel
theorem dX9_readAlley_176 : decode cX9_readAlley 176 = .ok (.ior, 1) := by decide +kernel
theorem dX9_readAlley_177 : decode cX9_readAlley 177 = .ok (.putfield 127, 3) := by decide +kernel
theorem dX9_readAlley_180 : decode cX9_readAlley 180 = .ok (.aload_n 0, 1) := by decide +kernel
theorem dX9_readAlley_181 : decode cX9_readAlley 181 = .ok (.getfield 21, 3) := by decide +kernel
theorem dX9_readAlley_184 : decode cX9_readAlley 184 = .ok (.iload_n 1, 1) := by decide +kernel
theorem dX9_readAlley_185 : decode cX9_readAlley 185 = .ok (.iload_n 2, 1) := by decide +kernel
theorem dX9_readAlley_186 : decode cX9_readAlley 186 = .ok (.iload_n 3, 1) := by decide +kernel
theorem dX9_readAlley_187 : decode cX9_readAlley 187 = .ok (.iload 4, 2) := by decide +kernel
theorem dX9_readAlley_189 : decode cX9_readAlley 189 = .ok (.invokevirtual 129, 3) := by decide +kernel
theorem dX9_readAlley_170 : decode cX9_readAlley 170 = .ok (.iload 7, 2) := by decide +kernel
theorem dX9_readAlley_172 : decode cX9_readAlley 172 = .ok (.goto 4, 3) := by decide +kernel
theorem dX9_readAlley_147 : decode cX9_readAlley 147 = .ok (.iload 7, 2) := by decide +kernel
theorem dX9_readAlley_149 : decode cX9_readAlley 149 = .ok (.goto 4, 3) := by decide +kernel
theorem dX9_readAlley_81 : decode cX9_readAlley 81 = .ok (.aload_n 0, 1) := by decide +kernel
theorem dX9_readAlley_82 : decode cX9_readAlley 82 = .ok (.iconst 0, 1) := by decide +kernel
theorem dX9_readAlley_83 : decode cX9_readAlley 83 = .ok (.sipush 999, 3) := by decide +kernel
theorem dX9_readAlley_86 : decode cX9_readAlley 86 = .ok (.iconst (-1), 1) := by decide +kernel
theorem dX9_readAlley_87 : decode cX9_readAlley 87 = .ok (.invokevirtual 92, 3) := by decide +kernel
theorem dX9_readAlley_90 : decode cX9_readAlley 90 = .ok (.goto 4, 3) := by decide +kernel
theorem dX9_readAlley_12 : decode cX9_readAlley 12 = .ok (.aload_n 0, 1) := by decide +kernel
theorem dX9_readAlley_13 : decode cX9_readAlley 13 = .ok (.iconst 3, 1) := by decide +kernel
theorem dX9_readAlley_14 : decode cX9_readAlley 14 = .ok (.invokevirtual 85, 3) := by decide +kernel
theorem dX9_readAlley_17 : decode cX9_readAlley 17 = .ok (.return_, 1) := by decide +kernel
theorem dX9_readLine_0 : decode cX9_readLine 0 = .ok (.aload_n 0, 1) := by decide +kernel
theorem dX9_readLine_1 : decode cX9_readLine 1 = .ok (.getfield 12, 3) := by decide +kernel
theorem dX9_readLine_4 : decode cX9_readLine 4 = .ok (.ldc 51, 2) := by decide +kernel
theorem dX9_readLine_6 : decode cX9_readLine 6 = .ok (.invokevirtual 53, 3) := by decide +kernel
theorem dX9_readLine_9 : decode cX9_readLine 9 = .ok (.ifCond .eq 10, 3) := by decide +kernel
theorem dX9_readLine_19 : decode cX9_readLine 19 = .ok (.aload_n 0, 1) := by decide +kernel
theorem dX9_readLine_20 : decode cX9_readLine 20 = .ok (.getfield 12, 3) := by decide +kernel
theorem dX9_readLine_23 : decode cX9_readLine 23 = .ok (.ldc 60, 2) := by decide +kernel
theorem dX9_readLine_25 : decode cX9_readLine 25 = .ok (.invokevirtual 53, 3) := by decide +kernel
theorem dX9_readLine_28 : decode cX9_readLine 28 = .ok (.ifCond .eq 10, 3) := by decide +kernel
theorem dX9_readLine_38 : decode cX9_readLine 38 = .ok (.aload_n 0, 1) := by decide +kernel
theorem dX9_readLine_39 : decode cX9_readLine 39 = .ok (.getfield 12, 3) := by decide +kernel
theorem dX9_readLine_42 : decode cX9_readLine 42 = .ok (.ldc 65, 2) := by decide +kernel
theorem dX9_readLine_44 : decode cX9_readLine 44 = .ok (.invokevirtual 53, 3) := by decide +kernel
theorem dX9_readLine_47 : decode cX9_readLine 47 = .ok (.ifCond .eq 10, 3) := by decide +kernel
theorem dX9_readLine_57 : decode cX9_readLine 57 = .ok (.aload_n 0, 1) := by decide +kernel
theorem dX9_readLine_58 : decode cX9_readLine 58 = .ok (.getfield 12, 3) := by decide +kernel
theorem dX9_readLine_61 : decode cX9_readLine 61 = .ok (.ldc 70, 2) := by decide +kernel
theorem dX9_readLine_63 : decode cX9_readLine 63 = .ok (.invokevirtual 53, 3) := by decide +kernel
theorem dX9_readLine_66 : decode cX9_readLine 66 = .ok (.ifCond .eq 10, 3) := by decide +kernel
theorem dX9_readLine_76 : decode cX9_readLine 76 = .ok (.aload_n 0, 1) := by decide +kernel
theorem dX9_readLine_77 : decode cX9_readLine 77 = .ok (.getfield 12, 3) := by decide +kernel
theorem dX9_readLine_80 : decode cX9_readLine 80 = .ok (.ldc 75, 2) := by decide +kernel
theorem dX9_readLine_82 : decode cX9_readLine 82 = .ok (.invokevirtual 53, 3) := by decide +kernel
theorem dX9_readLine_85 : decode cX9_readLine 85 = .ok (.ifCond .eq 20, 3) := by decide +kernel
theorem dX9_readLine_105 : decode cX9_readLine 105 = .ok (.aload_n 0, 1) := by decide +kernel
theorem dX9_readLine_106 : decode cX9_readLine 106 = .ok (.getfield 12, 3) := by decide +kernel
theorem dX9_readLine_109 : decode cX9_readLine 109 = .ok (.ldc 80, 2) := by decide +kernel
theorem dX9_readLine_111 : decode cX9_readLine 111 = .ok (.invokevirtual 53, 3) := by decide +kernel
theorem dX9_readLine_114 : decode cX9_readLine 114 = .ok (.ifCond .eq 20, 3) := by decide +kernel
theorem dX9_readLine_134 : decode cX9_readLine 134 = .ok (.aload_n 0, 1) := by decide +kernel
theorem dX9_readLine_135 : decode cX9_readLine 135 = .ok (.iconst 1, 1) := by decide +kernel
theorem dX9_readLine_136 : decode cX9_readLine 136 = .ok (.invokevirtual 85, 3) := by decide +kernel
theorem dX9_readLine_139 : decode cX9_readLine 139 = .ok (.return_, 1) := by decide +kernel
theorem dX9_readLine_117 : decode cX9_readLine 117 = .ok (.aload_n 0, 1) := by decide +kernel
theorem dX9_readLine_118 : decode cX9_readLine 118 = .ok (.getfield 21, 3) := by decide +kernel
theorem dX9_readLine_121 : decode cX9_readLine 121 = .ok (.getfield 45, 3) := by decide +kernel
theorem dX9_readLine_124 : decode cX9_readLine 124 = .ok (.ifCond .ne 10, 3) := by decide +kernel
theorem dX9_readLine_127 : decode cX9_readLine 127 = .ok (.aload_n 0, 1) := by decide +kernel
theorem dX9_readLine_128 : decode cX9_readLine 128 = .ok (.invokevirtual 82, 3) := by decide +kernel
theorem dX9_readLine_131 : decode cX9_readLine 131 = .ok (.goto 8, 3) := by decide +kernel
theorem dX9_readLine_88 : decode cX9_readLine 88 = .ok (.aload_n 0, 1) := by decide +kernel
theorem dX9_readLine_89 : decode cX9_readLine 89 = .ok (.getfield 21, 3) := by decide +kernel
theorem dX9_readLine_92 : decode cX9_readLine 92 = .ok (.getfield 45, 3) := by decide +kernel
theorem dX9_readLine_95 : decode cX9_readLine 95 = .ok (.ifCond .ne 10, 3) := by decide +kernel
theorem dX9_readLine_98 : decode cX9_readLine 98 = .ok (.aload_n 0, 1) := by decide +kernel
theorem dX9_readLine_99 : decode cX9_readLine 99 = .ok (.invokevirtual 77, 3) := by decide +kernel
theorem dX9_readLine_102 : decode cX9_readLine 102 = .ok (.goto 37, 3) := by decide +kernel
theorem dX9_readLine_69 : decode cX9_readLine 69 = .ok (.aload_n 0, 1) := by decide +kernel
theorem dX9_readLine_70 : decode cX9_readLine 70 = .ok (.invokevirtual 72, 3) := by decide +kernel
theorem dX9_readLine_73 : decode cX9_readLine 73 = .ok (.goto 66, 3) := by decide +kernel
theorem dX9_readLine_50 : decode cX9_readLine 50 = .ok (.aload_n 0, 1) := by decide +kernel
theorem dX9_readLine_51 : decode cX9_readLine 51 = .ok (.invokevirtual 67, 3) := by decide +kernel
theorem dX9_readLine_54 : decode cX9_readLine 54 = .ok (.goto 85, 3) := by decide +kernel
theorem dX9_readLine_31 : decode cX9_readLine 31 = .ok (.aload_n 0, 1) := by decide +kernel
theorem dX9_readLine_32 : decode cX9_readLine 32 = .ok (.invokevirtual 62, 3) := by decide +kernel
theorem dX9_readLine_35 : decode cX9_readLine 35 = .ok (.goto 104, 3) := by decide +kernel
theorem dX9_readLine_12 : decode cX9_readLine 12 = .ok (.aload_n 0, 1) := by decide +kernel
theorem dX9_readLine_13 : decode cX9_readLine 13 = .ok (.invokevirtual 57, 3) := by decide +kernel
theorem dX9_readLine_16 : decode cX9_readLine 16 = .ok (.goto 123, 3) := by decide +kernel
theorem dX9_read_0 : decode cX9_read 0 = .ok (.aload_n 0, 1) := by decide +kernel
theorem dX9_read_1 : decode cX9_read 1 = .ok (.getfield 21, 3) := by decide +kernel
theorem dX9_read_4 : decode cX9_read 4 = .ok (.invokevirtual 32, 3) := by decide +kernel
theorem dX9_read_7 : decode cX9_read 7 = .ok (.aload_n 0, 1) := by decide +kernel
theorem dX9_read_8 : decode cX9_read 8 = .ok (.iconst 0, 1) := by decide +kernel
theorem dX9_read_9 : decode cX9_read 9 = .ok (.putfield 25, 3) := by decide +kernel
theorem dX9_read_12 : decode cX9_read 12 = .ok (.aload_n 0, 1) := by decide +kernel
theorem dX9_read_13 : decode cX9_read 13 = .ok (.iconst (-1), 1) := by decide +kernel
theorem dX9_read_14 : decode cX9_read 14 = .ok (.putfield 29, 3) := by decide +kernel
theorem dX9_read_17 : decode cX9_read 17 = .ok (.aload_n 0, 1) := by decide +kernel
theorem dX9_read_18 : decode cX9_read 18 = .ok (.getfield 12, 3) := by decide +kernel
theorem dX9_read_21 : decode cX9_read 21 = .ok (.aload_n 1, 1) := by decide +kernel
theorem dX9_read_22 : decode cX9_read 22 = .ok (.iload_n 2, 1) := by decide +kernel
theorem dX9_read_23 : decode cX9_read 23 = .ok (.invokevirtual 35, 3) := by decide +kernel
theorem dX9_read_26 : decode cX9_read 26 = .ok (.iconst 0, 1) := by decide +kernel
theorem dX9_read_27 : decode cX9_read 27 = .ok (.istore_n 3, 1) := by decide +kernel
theorem dX9_read_28 : decode cX9_read 28 = .ok (.iload_n 3, 1) := by decide +kernel
theorem dX9_read_29 : decode cX9_read 29 = .ok (.iload_n 2, 1) := by decide +kernel
theorem dX9_read_30 : decode cX9_read 30 = .ok (.if_icmp .ge 43, 3) := by decide +kernel
theorem dX9_read_33 : decode cX9_read 33 = .ok (.aload_n 0, 1) := by decide +kernel
theorem dX9_read_34 : decode cX9_read 34 = .ok (.getfield 25, 3) := by decide +kernel
theorem dX9_read_37 : decode cX9_read 37 = .ok (.ifCond .ne 36, 3) := by decide +kernel
theorem dX9_read_40 : decode cX9_read 40 = .ok (.aload_n 0, 1) := by decide +kernel
theorem dX9_read_41 : decode cX9_read 41 = .ok (.getfield 12, 3) := by decide +kernel
theorem dX9_read_44 : decode cX9_read 44 = .ok (.getfield 39, 3) := by decide +kernel
theorem dX9_read_47 : decode cX9_read 47 = .ok (.ifCond .eq 26, 3) := by decide +kernel
theorem dX9_read_50 : decode cX9_read 50 = .ok (.aload_n 0, 1) := by decide +kernel
theorem dX9_read_51 : decode cX9_read 51 = .ok (.invokevirtual 42, 3) := by decide +kernel
theorem dX9_read_54 : decode cX9_read 54 = .ok (.aload_n 0, 1) := by decide +kernel
theorem dX9_read_55 : decode cX9_read 55 = .ok (.getfield 21, 3) := by decide +kernel
theorem dX9_read_58 : decode cX9_read 58 = .ok (.dup, 1) := by decide +kernel
theorem dX9_read_59 : decode cX9_read 59 = .ok (.getfield 45, 3) := by decide +kernel
theorem dX9_read_62 : decode cX9_read 62 = .ok (.iconst 1, 1) := by decide +kernel
theorem dX9_read_63 : decode cX9_read 63 = .ok (.iadd, 1) := by decide +kernel
theorem dX9_read_64 : decode cX9_read 64 = .ok (.putfield 45, 3) := by decide +kernel
theorem dX9_read_67 : decode cX9_read 67 = .ok (.iinc 3 1, 3) := by decide +kernel
theorem dX9_read_70 : decode cX9_read 70 = .ok (.goto (-42), 3) := by decide +kernel
theorem dX9_read_73 : decode cX9_read 73 = .ok (.aload_n 0, 1) := by decide +kernel
theorem dX9_read_74 : decode cX9_read 74 = .ok (.getfield 25, 3) := by decide +kernel
theorem dX9_read_77 : decode cX9_read 77 = .ok (.ifCond .ne 7, 3) := by decide +kernel
theorem dX9_read_84 : decode cX9_read 84 = .ok (.iconst 0, 1) := by decide +kernel
theorem dX9_read_85 : decode cX9_read 85 = .ok (.ireturn, 1) := by decide +kernel
theorem dX9_read_80 : decode cX9_read 80 = .ok (.iconst 1, 1) := by decide +kernel
theorem dX9_read_81 : decode cX9_read 81 = .ok (.goto 4, 3) := by decide +kernel
theorem dX11_text_0 : decode cX11_text 0 = .ok (.aload_n 0, 1) := by decide +kernel
theorem dX11_text_1 : decode cX11_text 1 = .ok (.getfield 20, 3) := by decide +kernel
theorem dX11_text_4 : decode cX11_text 4 = .ok (.aload_n 0, 1) := by decide +kernel
theorem dX11_text_5 : decode cX11_text 5 = .ok (.getfield 9, 3) := by decide +kernel
theorem dX11_text_8 : decode cX11_text 8 = .ok (.aload_n 0, 1) := by decide +kernel
theorem dX11_text_9 : decode cX11_text 9 = .ok (.getfield 13, 3) := by decide +kernel
theorem dX11_text_12 : decode cX11_text 12 = .ok (.invokevirtual 100, 3) := by decide +kernel
theorem dX11_text_15 : decode cX11_text 15 = .ok (.ifCond .ne 6, 3) := by decide +kernel
theorem dX11_text_21 : decode cX11_text 21 = .ok (.aload_n 0, 1) := by decide +kernel
theorem dX11_text_22 : decode cX11_text 22 = .ok (.iconst 0, 1) := by decide +kernel
theorem dX11_text_23 : decode cX11_text 23 = .ok (.putfield 13, 3) := by decide +kernel
theorem dX11_text_26 : decode cX11_text 26 = .ok (.aload_n 0, 1) := by decide +kernel
theorem dX11_text_27 : decode cX11_text 27 = .ok (.getfield 27, 3) := by decide +kernel
theorem dX11_text_30 : decode cX11_text 30 = .ok (.getfield 88, 3) := by decide +kernel
theorem dX11_text_33 : decode cX11_text 33 = .ok (.astore_n 1, 1) := by decide +kernel
theorem dX11_text_34 : decode cX11_text 34 = .ok (.aload_n 0, 1) := by decide +kernel
theorem dX11_text_35 : decode cX11_text 35 = .ok (.getfield 27, 3) := by decide +kernel
theorem dX11_text_38 : decode cX11_text 38 = .ok (.aload_n 0, 1) := by decide +kernel
theorem dX11_text_39 : decode cX11_text 39 = .ok (.getfield 20, 3) := by decide +kernel
theorem dX11_text_42 : decode cX11_text 42 = .ok (.getfield 104, 3) := by decide +kernel
theorem dX11_text_45 : decode cX11_text 45 = .ok (.putfield 88, 3) := by decide +kernel
theorem dX11_text_48 : decode cX11_text 48 = .ok (.aload_n 0, 1) := by decide +kernel
theorem dX11_text_49 : decode cX11_text 49 = .ok (.getfield 20, 3) := by decide +kernel
theorem dX11_text_52 : decode cX11_text 52 = .ok (.aload_n 1, 1) := by decide +kernel
theorem dX11_text_53 : decode cX11_text 53 = .ok (.putfield 104, 3) := by decide +kernel
theorem dX11_text_56 : decode cX11_text 56 = .ok (.aload_n 0, 1) := by decide +kernel
theorem dX11_text_57 : decode cX11_text 57 = .ok (.getfield 44, 3) := by decide +kernel
theorem dX11_text_60 : decode cX11_text 60 = .ok (.aload_n 0, 1) := by decide +kernel
theorem dX11_text_61 : decode cX11_text 61 = .ok (.getfield 27, 3) := by decide +kernel
theorem dX11_text_64 : decode cX11_text 64 = .ok (.getfield 88, 3) := by decide +kernel
theorem dX11_text_67 : decode cX11_text 67 = .ok (.invokevirtual 92, 3) := by decide +kernel
theorem dX11_text_70 : decode cX11_text 70 = .ok (.iconst 0, 1) := by decide +kernel
theorem dX11_text_71 : decode cX11_text 71 = .ok (.istore_n 2, 1) := by decide +kernel
theorem dX11_text_72 : decode cX11_text 72 = .ok (.iload_n 2, 1) := by decide +kernel
theorem dX11_text_73 : decode cX11_text 73 = .ok (.iconst 2, 1) := by decide +kernel
theorem dX11_text_74 : decode cX11_text 74 = .ok (.if_icmp .ge 18, 3) := by decide +kernel
theorem dX11_text_77 : decode cX11_text 77 = .ok (.aload_n 0, 1) := by decide +kernel
theorem dX11_text_78 : decode cX11_text 78 = .ok (.getfield 27, 3) := by decide +kernel
theorem dX11_text_81 : decode cX11_text 81 = .ok (.iload_n 2, 1) := by decide +kernel
theorem dX11_text_82 : decode cX11_text 82 = .ok (.invokevirtual 107, 3) := by decide +kernel
theorem dX11_text_85 : decode cX11_text 85 = .ok (.pop, 1) := by decide +kernel
theorem dX11_text_86 : decode cX11_text 86 = .ok (.iinc 2 1, 3) := by decide +kernel
theorem dX11_text_89 : decode cX11_text 89 = .ok (.goto (-17), 3) := by decide +kernel
theorem dX11_text_92 : decode cX11_text 92 = .ok (.aload_n 0, 1) := by decide +kernel
theorem dX11_text_93 : decode cX11_text 93 = .ok (.getfield 27, 3) := by decide +kernel
theorem dX11_text_96 : decode cX11_text 96 = .ok (.getfield 88, 3) := by decide +kernel
theorem dX11_text_99 : decode cX11_text 99 = .ok (.getfield 111, 3) := by decide +kernel
theorem dX11_text_102 : decode cX11_text 102 = .ok (.ireturn, 1) := by decide +kernel
theorem dX11_text_18 : decode cX11_text 18 = .ok (.bipush (-4), 2) := by decide +kernel
theorem dX11_text_20 : decode cX11_text 20 = .ok (.ireturn, 1) := by decide +kernel
theorem mw_796 : Cond.fieldLink RJ0 38 "java/lang/String" "COMPACT_STRINGS" "Z" ∈ bW := bW_at 613 (by decide +kernel) (by decide +kernel)
theorem mw_797 : Cond.fieldLink RJ0 15 "java/lang/String" "coder" "B" ∈ bW := bW_at 1927 (by decide +kernel) (by decide +kernel)
theorem mw_798 : Cond.fieldLink RJ0 9 "java/lang/String" "value" "[B" ∈ bW := bW_at 1926 (by decide +kernel) (by decide +kernel)
theorem mw_799 : Cond.code yJ0_coder_7d493 cJ0_coder_7d493 1 (some .byte) ∈ bW := bW_at 612 (by decide +kernel) (by decide +kernel)
theorem mw_800 : Cond.methodLink RJ0 335 yJ0_coder_7d493 ∈ bW := bW_at 609 (by decide +kernel) (by decide +kernel)
theorem mw_801 : Cond.instanceMethod yJ0_coder_7d493 ∈ bW := bW_at 610 (by decide +kernel) (by decide +kernel)
theorem mw_802 : Cond.selects RJ0 yJ0_coder_7d493 yJ0_coder_7d493 ∈ bW := bW_at 611 (by decide +kernel) (by decide +kernel)
theorem mw_803 : Cond.initialized RJ0 ∈ bW := bW_at 118 (by decide +kernel) (by decide +kernel)
theorem mw_804 : Cond.fieldLink RJ0 1053 "jdk/internal/util/Preconditions" "SIOOBE_FORMATTER" "Ljava/util/function/BiFunction;" ∈ bW := bW_at 629 (by decide +kernel) (by decide +kernel)
theorem mw_805 : Cond.code yJ3_checkIndex_8e157 cJ3_checkIndex_8e157 3 (some .int) ∈ bW := bW_at 633 (by decide +kernel) (by decide +kernel)
theorem mw_806 : Cond.methodLink RJ0 1059 yJ3_checkIndex_8e157 ∈ bW := bW_at 631 (by decide +kernel) (by decide +kernel)
theorem mw_807 : Cond.static yJ3_checkIndex_8e157 ∈ bW := bW_at 632 (by decide +kernel) (by decide +kernel)
theorem mw_808 : Cond.initialized RJ3 ∈ bW := bW_at 120 (by decide +kernel) (by decide +kernel)
theorem mw_809 : Cond.code yJ0_checkIndex_df160 cJ0_checkIndex_df160 2 none ∈ bW := bW_at 628 (by decide +kernel) (by decide +kernel)
theorem mw_810 : Cond.methodLink RJ1 9 yJ0_checkIndex_df160 ∈ bW := bW_at 626 (by decide +kernel) (by decide +kernel)
theorem mw_811 : Cond.static yJ0_checkIndex_df160 ∈ bW := bW_at 627 (by decide +kernel) (by decide +kernel)
theorem mw_812 : Cond.code yJ0_isLatin1_aae02 cJ0_isLatin1_aae02 1 (some .boolean) ∈ bW := bW_at 622 (by decide +kernel) (by decide +kernel)
theorem mw_813 : Cond.methodLink RJ0 492 yJ0_isLatin1_aae02 ∈ bW := bW_at 619 (by decide +kernel) (by decide +kernel)
theorem mw_814 : Cond.instanceMethod yJ0_isLatin1_aae02 ∈ bW := bW_at 620 (by decide +kernel) (by decide +kernel)
theorem mw_815 : Cond.selects RJ0 yJ0_isLatin1_aae02 yJ0_isLatin1_aae02 ∈ bW := bW_at 621 (by decide +kernel) (by decide +kernel)
theorem mw_816 : Cond.code yJ1_charAt_3b067 cJ1_charAt_3b067 2 (some .char) ∈ bW := bW_at 625 (by decide +kernel) (by decide +kernel)
theorem mw_817 : Cond.methodLink RJ0 495 yJ1_charAt_3b067 ∈ bW := bW_at 623 (by decide +kernel) (by decide +kernel)
theorem mw_818 : Cond.static yJ1_charAt_3b067 ∈ bW := bW_at 624 (by decide +kernel) (by decide +kernel)
theorem mw_819 : Cond.initialized RJ1 ∈ bW := bW_at 119 (by decide +kernel) (by decide +kernel)
theorem mw_820 : Cond.code yJ0_length_8abf5 cJ0_length_8abf5 1 (some .int) ∈ bW := bW_at 608 (by decide +kernel) (by decide +kernel)
theorem mw_821 : Cond.methodLink RX7 49 yJ0_length_8abf5 ∈ bW := bW_at 605 (by decide +kernel) (by decide +kernel)
theorem mw_822 : Cond.instanceMethod yJ0_length_8abf5 ∈ bW := bW_at 606 (by decide +kernel) (by decide +kernel)
theorem mw_823 : Cond.selects RJ0 yJ0_length_8abf5 yJ0_length_8abf5 ∈ bW := bW_at 607 (by decide +kernel) (by decide +kernel)
theorem mw_824 : Cond.code yJ0_charAt_5068e cJ0_charAt_5068e 2 (some .char) ∈ bW := bW_at 618 (by decide +kernel) (by decide +kernel)
theorem mw_825 : Cond.methodLink RX7 55 yJ0_charAt_5068e ∈ bW := bW_at 615 (by decide +kernel) (by decide +kernel)
theorem mw_826 : Cond.instanceMethod yJ0_charAt_5068e ∈ bW := bW_at 616 (by decide +kernel) (by decide +kernel)
theorem mw_827 : Cond.selects RJ0 yJ0_charAt_5068e yJ0_charAt_5068e ∈ bW := bW_at 617 (by decide +kernel) (by decide +kernel)
theorem mw_828 : Cond.code yX7_advance cX7_advance 1 none ∈ bW := bW_at 585 (by decide +kernel) (by decide +kernel)
theorem mw_829 : Cond.methodLink RX7 35 yX7_advance ∈ bW := bW_at 582 (by decide +kernel) (by decide +kernel)
theorem mw_830 : Cond.instanceMethod yX7_advance ∈ bW := bW_at 583 (by decide +kernel) (by decide +kernel)
theorem mw_831 : Cond.selects RX7 yX7_advance yX7_advance ∈ bW := bW_at 584 (by decide +kernel) (by decide +kernel)
theorem mw_832 : Cond.fieldLink RX9 25 "OneWays$TownReader" "fault" "I" ∈ bW := bW_at 326 (by decide +kernel) (by decide +kernel)
theorem mw_833 : Cond.fieldLink RX9 12 "OneWays$TownReader" "tokens" "LOneWays$Tokens;" ∈ bW := bW_at 323 (by decide +kernel) (by decide +kernel)
theorem mw_834 : Cond.fieldLink RX9 48 "OneWays$Tokens" "start" "I" ∈ bW := bW_at 150 (by decide +kernel) (by decide +kernel)
theorem mw_835 : Cond.fieldLink RX9 29 "OneWays$TownReader" "place" "I" ∈ bW := bW_at 328 (by decide +kernel) (by decide +kernel)
theorem mw_836 : Cond.fieldLink RX9 39 "OneWays$Tokens" "kind" "I" ∈ bW := bW_at 148 (by decide +kernel) (by decide +kernel)
theorem mw_837 : Cond.fieldLink RX9 159 "OneWays$Tokens" "value" "I" ∈ bW := bW_at 152 (by decide +kernel) (by decide +kernel)
theorem mw_838 : Cond.code yX9_refuse cX9_refuse 2 none ∈ bW := bW_at 660 (by decide +kernel) (by decide +kernel)
theorem mw_839 : Cond.methodLink RX9 85 yX9_refuse ∈ bW := bW_at 657 (by decide +kernel) (by decide +kernel)
theorem mw_840 : Cond.instanceMethod yX9_refuse ∈ bW := bW_at 659 (by decide +kernel) (by decide +kernel)
theorem mw_841 : Cond.selects RX9 yX9_refuse yX9_refuse ∈ bW := bW_at 6 (by decide +kernel) (by decide +kernel)
theorem mw_842 : Cond.initialized RX9 ∈ bW := bW_at 104 (by decide +kernel) (by decide +kernel)
theorem mw_843 : Cond.methodLink RX9 89 yX7_advance ∈ bW := bW_at 661 (by decide +kernel) (by decide +kernel)
theorem mw_844 : Cond.code yX7_isWord cX7_isWord 3 (some .boolean) ∈ bW := bW_at 604 (by decide +kernel) (by decide +kernel)
theorem mw_845 : Cond.methodLink RX9 53 yX7_isWord ∈ bW := bW_at 601 (by decide +kernel) (by decide +kernel)
theorem mw_846 : Cond.instanceMethod yX7_isWord ∈ bW := bW_at 602 (by decide +kernel) (by decide +kernel)
theorem mw_847 : Cond.selects RX7 yX7_isWord yX7_isWord ∈ bW := bW_at 603 (by decide +kernel) (by decide +kernel)
theorem mw_848 : Cond.code yX9_hasWord cX9_hasWord 2 (some .boolean) ∈ bW := bW_at 674 (by decide +kernel) (by decide +kernel)
theorem mw_849 : Cond.methodLink RX9 118 yX9_hasWord ∈ bW := bW_at 671 (by decide +kernel) (by decide +kernel)
theorem mw_850 : Cond.instanceMethod yX9_hasWord ∈ bW := bW_at 673 (by decide +kernel) (by decide +kernel)
theorem mw_851 : Cond.selects RX9 yX9_hasWord yX9_hasWord ∈ bW := bW_at 9 (by decide +kernel) (by decide +kernel)
theorem mw_852 : Cond.code yX9_takeNumber cX9_takeNumber 5 (some .int) ∈ bW := bW_at 665 (by decide +kernel) (by decide +kernel)
theorem mw_853 : Cond.methodLink RX9 92 yX9_takeNumber ∈ bW := bW_at 662 (by decide +kernel) (by decide +kernel)
theorem mw_854 : Cond.instanceMethod yX9_takeNumber ∈ bW := bW_at 664 (by decide +kernel) (by decide +kernel)
theorem mw_855 : Cond.selects RX9 yX9_takeNumber yX9_takeNumber ∈ bW := bW_at 7 (by decide +kernel) (by decide +kernel)
theorem mw_856 : Cond.code yX9_takeWord cX9_takeWord 2 none ∈ bW := bW_at 670 (by decide +kernel) (by decide +kernel)
theorem mw_857 : Cond.methodLink RX9 103 yX9_takeWord ∈ bW := bW_at 667 (by decide +kernel) (by decide +kernel)
theorem mw_858 : Cond.instanceMethod yX9_takeWord ∈ bW := bW_at 669 (by decide +kernel) (by decide +kernel)
theorem mw_859 : Cond.selects RX9 yX9_takeWord yX9_takeWord ∈ bW := bW_at 8 (by decide +kernel) (by decide +kernel)
theorem mw_860 : Cond.code yX9_takeSign cX9_takeSign 1 none ∈ bW := bW_at 681 (by decide +kernel) (by decide +kernel)
theorem mw_861 : Cond.methodLink RX9 96 yX9_takeSign ∈ bW := bW_at 678 (by decide +kernel) (by decide +kernel)
theorem mw_862 : Cond.instanceMethod yX9_takeSign ∈ bW := bW_at 680 (by decide +kernel) (by decide +kernel)
theorem mw_863 : Cond.selects RX9 yX9_takeSign yX9_takeSign ∈ bW := bW_at 10 (by decide +kernel) (by decide +kernel)
theorem mw_864 : Cond.fieldLink RX9 21 "OneWays$TownReader" "draft" "LOneWays$Town;" ∈ bW := bW_at 324 (by decide +kernel) (by decide +kernel)
theorem mw_865 : Cond.code yX8_addGrid cX8_addGrid 6 none ∈ bW := bW_at 728 (by decide +kernel) (by decide +kernel)
theorem mw_866 : Cond.methodLink RX9 109 yX8_addGrid ∈ bW := bW_at 725 (by decide +kernel) (by decide +kernel)
theorem mw_867 : Cond.instanceMethod yX8_addGrid ∈ bW := bW_at 726 (by decide +kernel) (by decide +kernel)
theorem mw_868 : Cond.selects RX8 yX8_addGrid yX8_addGrid ∈ bW := bW_at 727 (by decide +kernel) (by decide +kernel)
theorem mw_869 : Cond.fieldLink RX9 99 "OneWays$Town" "corners" "I" ∈ bW := bW_at 233 (by decide +kernel) (by decide +kernel)
theorem mw_870 : Cond.fieldLink RX9 147 "OneWays$Town" "house" "I" ∈ bW := bW_at 244 (by decide +kernel) (by decide +kernel)
theorem mw_871 : Cond.fieldLink RX9 113 "OneWays$Town" "alleys" "I" ∈ bW := bW_at 241 (by decide +kernel) (by decide +kernel)
theorem mw_872 : Cond.fieldLink RX9 149 "OneWays$Town" "streets" "LOneWays$Streets;" ∈ bW := bW_at 274 (by decide +kernel) (by decide +kernel)
theorem mw_873 : Cond.fieldLink RX9 162 "OneWays$Streets" "taken" "I" ∈ bW := bW_at 213 (by decide +kernel) (by decide +kernel)
theorem mw_874 : Cond.fieldLink RX9 165 "OneWays$Streets" "sizes" "[I" ∈ bW := bW_at 215 (by decide +kernel) (by decide +kernel)
theorem mw_875 : Cond.fieldLink RX9 153 "OneWays$Streets" "size" "I" ∈ bW := bW_at 210 (by decide +kernel) (by decide +kernel)
theorem mw_876 : Cond.code yX6_addMember cX6_addMember 2 none ∈ bW := bW_at 708 (by decide +kernel) (by decide +kernel)
theorem mw_877 : Cond.methodLink RX9 169 yX6_addMember ∈ bW := bW_at 705 (by decide +kernel) (by decide +kernel)
theorem mw_878 : Cond.instanceMethod yX6_addMember ∈ bW := bW_at 706 (by decide +kernel) (by decide +kernel)
theorem mw_879 : Cond.selects RX6 yX6_addMember yX6_addMember ∈ bW := bW_at 707 (by decide +kernel) (by decide +kernel)
theorem mw_880 : Cond.code yX9_takeMember cX9_takeMember 1 none ∈ bW := bW_at 704 (by decide +kernel) (by decide +kernel)
theorem mw_881 : Cond.methodLink RX9 156 yX9_takeMember ∈ bW := bW_at 701 (by decide +kernel) (by decide +kernel)
theorem mw_882 : Cond.instanceMethod yX9_takeMember ∈ bW := bW_at 703 (by decide +kernel) (by decide +kernel)
theorem mw_883 : Cond.selects RX9 yX9_takeMember yX9_takeMember ∈ bW := bW_at 13 (by decide +kernel) (by decide +kernel)
theorem mw_884 : Cond.fieldLink RX9 133 "OneWays$Town" "journeys" "LOneWays$Journeys;" ∈ bW := bW_at 270 (by decide +kernel) (by decide +kernel)
theorem mw_885 : Cond.fieldLink RX9 137 "OneWays$Journeys" "size" "I" ∈ bW := bW_at 181 (by decide +kernel) (by decide +kernel)
theorem mw_886 : Cond.code yX1_add cX1_add 4 none ∈ bW := bW_at 695 (by decide +kernel) (by decide +kernel)
theorem mw_887 : Cond.methodLink RX9 144 yX1_add ∈ bW := bW_at 692 (by decide +kernel) (by decide +kernel)
theorem mw_888 : Cond.instanceMethod yX1_add ∈ bW := bW_at 693 (by decide +kernel) (by decide +kernel)
theorem mw_889 : Cond.selects RX1 yX1_add yX1_add ∈ bW := bW_at 694 (by decide +kernel) (by decide +kernel)
theorem mw_890 : Cond.fieldLink RX9 125 "OneWays$Town" "told" "I" ∈ bW := bW_at 263 (by decide +kernel) (by decide +kernel)
theorem mw_891 : Cond.fieldLink RX9 127 "OneWays$Town" "against" "I" ∈ bW := bW_at 266 (by decide +kernel) (by decide +kernel)
theorem mw_892 : Cond.methodLink RX9 129 yX8_addAlley ∈ bW := bW_at 682 (by decide +kernel) (by decide +kernel)
theorem mw_893 : Cond.fieldLink RX9 45 "OneWays$Town" "lines" "I" ∈ bW := bW_at 229 (by decide +kernel) (by decide +kernel)
theorem mw_894 : Cond.code yX9_readGrid cX9_readGrid 4 none ∈ bW := bW_at 723 (by decide +kernel) (by decide +kernel)
theorem mw_895 : Cond.methodLink RX9 82 yX9_readGrid ∈ bW := bW_at 720 (by decide +kernel) (by decide +kernel)
theorem mw_896 : Cond.instanceMethod yX9_readGrid ∈ bW := bW_at 722 (by decide +kernel) (by decide +kernel)
theorem mw_897 : Cond.selects RX9 yX9_readGrid yX9_readGrid ∈ bW := bW_at 16 (by decide +kernel) (by decide +kernel)
theorem mw_898 : Cond.code yX9_readCorners cX9_readCorners 2 none ∈ bW := bW_at 718 (by decide +kernel) (by decide +kernel)
theorem mw_899 : Cond.methodLink RX9 77 yX9_readCorners ∈ bW := bW_at 715 (by decide +kernel) (by decide +kernel)
theorem mw_900 : Cond.instanceMethod yX9_readCorners ∈ bW := bW_at 717 (by decide +kernel) (by decide +kernel)
theorem mw_901 : Cond.selects RX9 yX9_readCorners yX9_readCorners ∈ bW := bW_at 15 (by decide +kernel) (by decide +kernel)
theorem mw_902 : Cond.code yX9_readHouse cX9_readHouse 2 none ∈ bW := bW_at 713 (by decide +kernel) (by decide +kernel)
theorem mw_903 : Cond.methodLink RX9 72 yX9_readHouse ∈ bW := bW_at 710 (by decide +kernel) (by decide +kernel)
theorem mw_904 : Cond.instanceMethod yX9_readHouse ∈ bW := bW_at 712 (by decide +kernel) (by decide +kernel)
theorem mw_905 : Cond.selects RX9 yX9_readHouse yX9_readHouse ∈ bW := bW_at 14 (by decide +kernel) (by decide +kernel)
theorem mw_906 : Cond.code yX9_readStreet cX9_readStreet 2 none ∈ bW := bW_at 700 (by decide +kernel) (by decide +kernel)
theorem mw_907 : Cond.methodLink RX9 67 yX9_readStreet ∈ bW := bW_at 697 (by decide +kernel) (by decide +kernel)
theorem mw_908 : Cond.instanceMethod yX9_readStreet ∈ bW := bW_at 699 (by decide +kernel) (by decide +kernel)
theorem mw_909 : Cond.selects RX9 yX9_readStreet yX9_readStreet ∈ bW := bW_at 12 (by decide +kernel) (by decide +kernel)
theorem mw_910 : Cond.code yX9_readJourney cX9_readJourney 4 none ∈ bW := bW_at 690 (by decide +kernel) (by decide +kernel)
theorem mw_911 : Cond.methodLink RX9 62 yX9_readJourney ∈ bW := bW_at 687 (by decide +kernel) (by decide +kernel)
theorem mw_912 : Cond.instanceMethod yX9_readJourney ∈ bW := bW_at 689 (by decide +kernel) (by decide +kernel)
theorem mw_913 : Cond.selects RX9 yX9_readJourney yX9_readJourney ∈ bW := bW_at 11 (by decide +kernel) (by decide +kernel)
theorem mw_914 : Cond.code yX9_readAlley cX9_readAlley 8 none ∈ bW := bW_at 656 (by decide +kernel) (by decide +kernel)
theorem mw_915 : Cond.methodLink RX9 57 yX9_readAlley ∈ bW := bW_at 653 (by decide +kernel) (by decide +kernel)
theorem mw_916 : Cond.instanceMethod yX9_readAlley ∈ bW := bW_at 655 (by decide +kernel) (by decide +kernel)
theorem mw_917 : Cond.selects RX9 yX9_readAlley yX9_readAlley ∈ bW := bW_at 5 (by decide +kernel) (by decide +kernel)
theorem mw_918 : Cond.code yX8_drop cX8_drop 1 none ∈ bW := bW_at 569 (by decide +kernel) (by decide +kernel)
theorem mw_919 : Cond.methodLink RX9 32 yX8_drop ∈ bW := bW_at 566 (by decide +kernel) (by decide +kernel)
theorem mw_920 : Cond.instanceMethod yX8_drop ∈ bW := bW_at 567 (by decide +kernel) (by decide +kernel)
theorem mw_921 : Cond.selects RX8 yX8_drop yX8_drop ∈ bW := bW_at 568 (by decide +kernel) (by decide +kernel)
theorem mw_922 : Cond.code yX7_open cX7_open 3 none ∈ bW := bW_at 578 (by decide +kernel) (by decide +kernel)
theorem mw_923 : Cond.methodLink RX9 35 yX7_open ∈ bW := bW_at 575 (by decide +kernel) (by decide +kernel)
theorem mw_924 : Cond.instanceMethod yX7_open ∈ bW := bW_at 576 (by decide +kernel) (by decide +kernel)
theorem mw_925 : Cond.selects RX7 yX7_open yX7_open ∈ bW := bW_at 577 (by decide +kernel) (by decide +kernel)
theorem mw_926 : Cond.code yX9_readLine cX9_readLine 1 none ∈ bW := bW_at 599 (by decide +kernel) (by decide +kernel)
theorem mw_927 : Cond.methodLink RX9 42 yX9_readLine ∈ bW := bW_at 596 (by decide +kernel) (by decide +kernel)
theorem mw_928 : Cond.instanceMethod yX9_readLine ∈ bW := bW_at 598 (by decide +kernel) (by decide +kernel)
theorem mw_929 : Cond.selects RX9 yX9_readLine yX9_readLine ∈ bW := bW_at 4 (by decide +kernel) (by decide +kernel)
theorem mw_930 : Cond.code yX9_read cX9_read 4 (some .boolean) ∈ bW := bW_at 565 (by decide +kernel) (by decide +kernel)
theorem mw_931 : Cond.methodLink RX11 100 yX9_read ∈ bW := bW_at 562 (by decide +kernel) (by decide +kernel)
theorem mw_932 : Cond.instanceMethod yX9_read ∈ bW := bW_at 563 (by decide +kernel) (by decide +kernel)
theorem mw_933 : Cond.selects RX9 yX9_read yX9_read ∈ bW := bW_at 564 (by decide +kernel) (by decide +kernel)
theorem mw_934 : Cond.fieldLink RX11 104 "OneWays$TownReader" "draft" "LOneWays$Town;" ∈ bW := bW_at 325 (by decide +kernel) (by decide +kernel)
theorem mw_935 : Cond.code yX2_settle cX2_settle 3 none ∈ bW := bW_at 459 (by decide +kernel) (by decide +kernel)
theorem mw_936 : Cond.methodLink RX11 92 yX2_settle ∈ bW := bW_at 456 (by decide +kernel) (by decide +kernel)
theorem mw_937 : Cond.instanceMethod yX2_settle ∈ bW := bW_at 457 (by decide +kernel) (by decide +kernel)
theorem mw_938 : Cond.selects RX2 yX2_settle yX2_settle ∈ bW := bW_at 458 (by decide +kernel) (by decide +kernel)
