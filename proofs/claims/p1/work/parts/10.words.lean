theorem dX11_init_0 : decode cX11_init 0 = .ok (.aload_n 0, 1) := by decide +kernel
theorem dX11_init_1 : decode cX11_init 1 = .ok (.invokespecial 1, 3) := by decide +kernel
theorem dX11_init_4 : decode cX11_init 4 = .ok (.aload_n 0, 1) := by decide +kernel
theorem dX11_init_5 : decode cX11_init 5 = .ok (.sipush 800, 3) := by decide +kernel
theorem dX11_init_8 : decode cX11_init 8 = .ok (.newarray .byte, 2) := by decide +kernel
theorem dX11_init_10 : decode cX11_init 10 = .ok (.putfield 9, 3) := by decide +kernel
theorem dX11_init_13 : decode cX11_init 13 = .ok (.aload_n 0, 1) := by decide +kernel
theorem dX11_init_14 : decode cX11_init 14 = .ok (.iconst 0, 1) := by decide +kernel
theorem dX11_init_15 : decode cX11_init 15 = .ok (.putfield 13, 3) := by decide +kernel
theorem dX11_init_18 : decode cX11_init 18 = .ok (.aload_n 0, 1) := by decide +kernel
theorem dX11_init_19 : decode cX11_init 19 = .ok (.new 17, 3) := by decide +kernel
theorem dX11_init_22 : decode cX11_init 22 = .ok (.dup, 1) := by decide +kernel
theorem dX11_init_23 : decode cX11_init 23 = .ok (.invokespecial 19, 3) := by decide +kernel
theorem dX9_init_0 : decode cX9_init 0 = .ok (.aload_n 0, 1) := by decide +kernel
theorem dX9_init_1 : decode cX9_init 1 = .ok (.invokespecial 3, 3) := by decide +kernel
theorem dX9_init_4 : decode cX9_init 4 = .ok (.aload_n 0, 1) := by decide +kernel
theorem dX9_init_5 : decode cX9_init 5 = .ok (.new 9, 3) := by decide +kernel
theorem dX9_init_8 : decode cX9_init 8 = .ok (.dup, 1) := by decide +kernel
theorem dX9_init_9 : decode cX9_init 9 = .ok (.invokespecial 11, 3) := by decide +kernel
theorem dX7_init_0 : decode cX7_init 0 = .ok (.aload_n 0, 1) := by decide +kernel
theorem dX7_init_1 : decode cX7_init 1 = .ok (.invokespecial 1, 3) := by decide +kernel
theorem dX7_init_4 : decode cX7_init 4 = .ok (.aload_n 0, 1) := by decide +kernel
theorem dX7_init_5 : decode cX7_init 5 = .ok (.iconst 0, 1) := by decide +kernel
theorem dX7_init_6 : decode cX7_init 6 = .ok (.newarray .byte, 2) := by decide +kernel
theorem dX7_init_8 : decode cX7_init 8 = .ok (.putfield 7, 3) := by decide +kernel
theorem dX7_init_11 : decode cX7_init 11 = .ok (.aload_n 0, 1) := by decide +kernel
theorem dX7_init_12 : decode cX7_init 12 = .ok (.iconst 0, 1) := by decide +kernel
theorem dX7_init_13 : decode cX7_init 13 = .ok (.putfield 13, 3) := by decide +kernel
theorem dX7_init_16 : decode cX7_init 16 = .ok (.aload_n 0, 1) := by decide +kernel
theorem dX7_init_17 : decode cX7_init 17 = .ok (.iconst 0, 1) := by decide +kernel
theorem dX7_init_18 : decode cX7_init 18 = .ok (.putfield 17, 3) := by decide +kernel
theorem dX7_init_21 : decode cX7_init 21 = .ok (.aload_n 0, 1) := by decide +kernel
theorem dX7_init_22 : decode cX7_init 22 = .ok (.iconst 0, 1) := by decide +kernel
theorem dX7_init_23 : decode cX7_init 23 = .ok (.putfield 20, 3) := by decide +kernel
theorem dX7_init_26 : decode cX7_init 26 = .ok (.aload_n 0, 1) := by decide +kernel
theorem dX7_init_27 : decode cX7_init 27 = .ok (.iconst 0, 1) := by decide +kernel
theorem dX7_init_28 : decode cX7_init 28 = .ok (.putfield 23, 3) := by decide +kernel
theorem dX7_init_31 : decode cX7_init 31 = .ok (.aload_n 0, 1) := by decide +kernel
theorem dX7_init_32 : decode cX7_init 32 = .ok (.iconst 0, 1) := by decide +kernel
theorem dX7_init_33 : decode cX7_init 33 = .ok (.putfield 26, 3) := by decide +kernel
theorem dX7_init_36 : decode cX7_init 36 = .ok (.return_, 1) := by decide +kernel
theorem dX9_init_12 : decode cX9_init 12 = .ok (.putfield 12, 3) := by decide +kernel
theorem dX9_init_15 : decode cX9_init 15 = .ok (.aload_n 0, 1) := by decide +kernel
theorem dX9_init_16 : decode cX9_init 16 = .ok (.new 18, 3) := by decide +kernel
theorem dX9_init_19 : decode cX9_init 19 = .ok (.dup, 1) := by decide +kernel
theorem dX9_init_20 : decode cX9_init 20 = .ok (.invokespecial 20, 3) := by decide +kernel
theorem dX8_init_0 : decode cX8_init 0 = .ok (.aload_n 0, 1) := by decide +kernel
theorem dX8_init_1 : decode cX8_init 1 = .ok (.invokespecial 3, 3) := by decide +kernel
theorem dX8_init_4 : decode cX8_init 4 = .ok (.aload_n 0, 1) := by decide +kernel
theorem dX8_init_5 : decode cX8_init 5 = .ok (.iconst 0, 1) := by decide +kernel
theorem dX8_init_6 : decode cX8_init 6 = .ok (.putfield 9, 3) := by decide +kernel
theorem dX8_init_9 : decode cX8_init 9 = .ok (.aload_n 0, 1) := by decide +kernel
theorem dX8_init_10 : decode cX8_init 10 = .ok (.iconst 2, 1) := by decide +kernel
theorem dX8_init_11 : decode cX8_init 11 = .ok (.putfield 15, 3) := by decide +kernel
theorem dX8_init_14 : decode cX8_init 14 = .ok (.aload_n 0, 1) := by decide +kernel
theorem dX8_init_15 : decode cX8_init 15 = .ok (.iconst 0, 1) := by decide +kernel
theorem dX8_init_16 : decode cX8_init 16 = .ok (.putfield 18, 3) := by decide +kernel
theorem dX8_init_19 : decode cX8_init 19 = .ok (.aload_n 0, 1) := by decide +kernel
theorem dX8_init_20 : decode cX8_init 20 = .ok (.iconst (-1), 1) := by decide +kernel
theorem dX8_init_21 : decode cX8_init 21 = .ok (.putfield 21, 3) := by decide +kernel
theorem dX8_init_24 : decode cX8_init 24 = .ok (.aload_n 0, 1) := by decide +kernel
theorem dX8_init_25 : decode cX8_init 25 = .ok (.iconst 0, 1) := by decide +kernel
theorem dX8_init_26 : decode cX8_init 26 = .ok (.putfield 24, 3) := by decide +kernel
theorem dX8_init_29 : decode cX8_init 29 = .ok (.aload_n 0, 1) := by decide +kernel
theorem dX8_init_30 : decode cX8_init 30 = .ok (.iconst 0, 1) := by decide +kernel
theorem dX8_init_31 : decode cX8_init 31 = .ok (.putfield 27, 3) := by decide +kernel
theorem dX8_init_34 : decode cX8_init 34 = .ok (.aload_n 0, 1) := by decide +kernel
theorem dX8_init_35 : decode cX8_init 35 = .ok (.bipush 28, 2) := by decide +kernel
theorem dX8_init_37 : decode cX8_init 37 = .ok (.newarray .int, 2) := by decide +kernel
theorem dX8_init_39 : decode cX8_init 39 = .ok (.putfield 30, 3) := by decide +kernel
theorem dX8_init_42 : decode cX8_init 42 = .ok (.aload_n 0, 1) := by decide +kernel
theorem dX8_init_43 : decode cX8_init 43 = .ok (.bipush 28, 2) := by decide +kernel
theorem dX8_init_45 : decode cX8_init 45 = .ok (.newarray .int, 2) := by decide +kernel
theorem dX8_init_47 : decode cX8_init 47 = .ok (.putfield 34, 3) := by decide +kernel
theorem dX8_init_50 : decode cX8_init 50 = .ok (.aload_n 0, 1) := by decide +kernel
theorem dX8_init_51 : decode cX8_init 51 = .ok (.bipush 28, 2) := by decide +kernel
theorem dX8_init_53 : decode cX8_init 53 = .ok (.newarray .int, 2) := by decide +kernel
theorem dX8_init_55 : decode cX8_init 55 = .ok (.putfield 37, 3) := by decide +kernel
theorem dX8_init_58 : decode cX8_init 58 = .ok (.aload_n 0, 1) := by decide +kernel
theorem dX8_init_59 : decode cX8_init 59 = .ok (.bipush 28, 2) := by decide +kernel
theorem dX8_init_61 : decode cX8_init 61 = .ok (.newarray .int, 2) := by decide +kernel
theorem dX8_init_63 : decode cX8_init 63 = .ok (.putfield 40, 3) := by decide +kernel
theorem dX8_init_66 : decode cX8_init 66 = .ok (.aload_n 0, 1) := by decide +kernel
theorem dX8_init_67 : decode cX8_init 67 = .ok (.iconst 0, 1) := by decide +kernel
theorem dX8_init_68 : decode cX8_init 68 = .ok (.putfield 43, 3) := by decide +kernel
theorem dX8_init_71 : decode cX8_init 71 = .ok (.aload_n 0, 1) := by decide +kernel
theorem dX8_init_72 : decode cX8_init 72 = .ok (.iconst 0, 1) := by decide +kernel
theorem dX8_init_73 : decode cX8_init 73 = .ok (.putfield 46, 3) := by decide +kernel
theorem dX8_init_76 : decode cX8_init 76 = .ok (.aload_n 0, 1) := by decide +kernel
theorem dX8_init_77 : decode cX8_init 77 = .ok (.new 49, 3) := by decide +kernel
theorem dX8_init_80 : decode cX8_init 80 = .ok (.dup, 1) := by decide +kernel
theorem dX8_init_81 : decode cX8_init 81 = .ok (.invokespecial 51, 3) := by decide +kernel
theorem dX1_init_0 : decode cX1_init 0 = .ok (.aload_n 0, 1) := by decide +kernel
theorem dX1_init_1 : decode cX1_init 1 = .ok (.invokespecial 3, 3) := by decide +kernel
theorem dX1_init_4 : decode cX1_init 4 = .ok (.aload_n 0, 1) := by decide +kernel
theorem dX1_init_5 : decode cX1_init 5 = .ok (.iconst 0, 1) := by decide +kernel
theorem dX1_init_6 : decode cX1_init 6 = .ok (.putfield 9, 3) := by decide +kernel
theorem dX1_init_9 : decode cX1_init 9 = .ok (.aload_n 0, 1) := by decide +kernel
theorem dX1_init_10 : decode cX1_init 10 = .ok (.bipush 10, 2) := by decide +kernel
theorem dX1_init_12 : decode cX1_init 12 = .ok (.newarray .int, 2) := by decide +kernel
theorem dX1_init_14 : decode cX1_init 14 = .ok (.putfield 15, 3) := by decide +kernel
theorem dX1_init_17 : decode cX1_init 17 = .ok (.aload_n 0, 1) := by decide +kernel
theorem dX1_init_18 : decode cX1_init 18 = .ok (.bipush 10, 2) := by decide +kernel
theorem dX1_init_20 : decode cX1_init 20 = .ok (.newarray .int, 2) := by decide +kernel
theorem dX1_init_22 : decode cX1_init 22 = .ok (.putfield 19, 3) := by decide +kernel
theorem dX1_init_25 : decode cX1_init 25 = .ok (.aload_n 0, 1) := by decide +kernel
theorem dX1_init_26 : decode cX1_init 26 = .ok (.bipush 10, 2) := by decide +kernel
theorem dX1_init_28 : decode cX1_init 28 = .ok (.newarray .int, 2) := by decide +kernel
theorem dX1_init_30 : decode cX1_init 30 = .ok (.putfield 22, 3) := by decide +kernel
theorem dX1_init_33 : decode cX1_init 33 = .ok (.return_, 1) := by decide +kernel
theorem dX8_init_84 : decode cX8_init 84 = .ok (.putfield 52, 3) := by decide +kernel
theorem dX8_init_87 : decode cX8_init 87 = .ok (.aload_n 0, 1) := by decide +kernel
theorem dX8_init_88 : decode cX8_init 88 = .ok (.new 56, 3) := by decide +kernel
theorem dX8_init_91 : decode cX8_init 91 = .ok (.dup, 1) := by decide +kernel
theorem dX8_init_92 : decode cX8_init 92 = .ok (.invokespecial 58, 3) := by decide +kernel
theorem dX6_init_0 : decode cX6_init 0 = .ok (.aload_n 0, 1) := by decide +kernel
theorem dX6_init_1 : decode cX6_init 1 = .ok (.invokespecial 3, 3) := by decide +kernel
theorem dX6_init_4 : decode cX6_init 4 = .ok (.aload_n 0, 1) := by decide +kernel
theorem dX6_init_5 : decode cX6_init 5 = .ok (.iconst 0, 1) := by decide +kernel
theorem dX6_init_6 : decode cX6_init 6 = .ok (.putfield 9, 3) := by decide +kernel
theorem dX6_init_9 : decode cX6_init 9 = .ok (.aload_n 0, 1) := by decide +kernel
theorem dX6_init_10 : decode cX6_init 10 = .ok (.iconst 0, 1) := by decide +kernel
theorem dX6_init_11 : decode cX6_init 11 = .ok (.putfield 15, 3) := by decide +kernel
theorem dX6_init_14 : decode cX6_init 14 = .ok (.aload_n 0, 1) := by decide +kernel
theorem dX6_init_15 : decode cX6_init 15 = .ok (.bipush 6, 2) := by decide +kernel
theorem dX6_init_17 : decode cX6_init 17 = .ok (.newarray .int, 2) := by decide +kernel
theorem dX6_init_19 : decode cX6_init 19 = .ok (.putfield 18, 3) := by decide +kernel
theorem dX6_init_22 : decode cX6_init 22 = .ok (.aload_n 0, 1) := by decide +kernel
theorem dX6_init_23 : decode cX6_init 23 = .ok (.bipush 36, 2) := by decide +kernel
theorem dX6_init_25 : decode cX6_init 25 = .ok (.newarray .int, 2) := by decide +kernel
theorem dX6_init_27 : decode cX6_init 27 = .ok (.putfield 22, 3) := by decide +kernel
theorem dX6_init_30 : decode cX6_init 30 = .ok (.return_, 1) := by decide +kernel
theorem dX8_init_95 : decode cX8_init 95 = .ok (.putfield 59, 3) := by decide +kernel
theorem dX8_init_98 : decode cX8_init 98 = .ok (.aload_n 0, 1) := by decide +kernel
theorem dX8_init_99 : decode cX8_init 99 = .ok (.bipush 17, 2) := by decide +kernel
theorem dX8_init_101 : decode cX8_init 101 = .ok (.newarray .int, 2) := by decide +kernel
theorem dX8_init_103 : decode cX8_init 103 = .ok (.putfield 63, 3) := by decide +kernel
theorem dX8_init_106 : decode cX8_init 106 = .ok (.aload_n 0, 1) := by decide +kernel
theorem dX8_init_107 : decode cX8_init 107 = .ok (.bipush 56, 2) := by decide +kernel
theorem dX8_init_109 : decode cX8_init 109 = .ok (.newarray .int, 2) := by decide +kernel
theorem dX8_init_111 : decode cX8_init 111 = .ok (.putfield 66, 3) := by decide +kernel
theorem dX8_init_114 : decode cX8_init 114 = .ok (.aload_n 0, 1) := by decide +kernel
theorem dX8_init_115 : decode cX8_init 115 = .ok (.sipush 256, 3) := by decide +kernel
theorem dX8_init_118 : decode cX8_init 118 = .ok (.newarray .int, 2) := by decide +kernel
theorem dX8_init_120 : decode cX8_init 120 = .ok (.putfield 69, 3) := by decide +kernel
theorem dX8_init_123 : decode cX8_init 123 = .ok (.aload_n 0, 1) := by decide +kernel
theorem dX8_init_124 : decode cX8_init 124 = .ok (.iconst 0, 1) := by decide +kernel
theorem dX8_init_125 : decode cX8_init 125 = .ok (.putfield 72, 3) := by decide +kernel
theorem dX8_init_128 : decode cX8_init 128 = .ok (.return_, 1) := by decide +kernel
theorem dX9_init_23 : decode cX9_init 23 = .ok (.putfield 21, 3) := by decide +kernel
theorem dX9_init_26 : decode cX9_init 26 = .ok (.aload_n 0, 1) := by decide +kernel
theorem dX9_init_27 : decode cX9_init 27 = .ok (.iconst 0, 1) := by decide +kernel
theorem dX9_init_28 : decode cX9_init 28 = .ok (.putfield 25, 3) := by decide +kernel
theorem dX9_init_31 : decode cX9_init 31 = .ok (.aload_n 0, 1) := by decide +kernel
theorem dX9_init_32 : decode cX9_init 32 = .ok (.iconst (-1), 1) := by decide +kernel
theorem dX9_init_33 : decode cX9_init 33 = .ok (.putfield 29, 3) := by decide +kernel
theorem dX9_init_36 : decode cX9_init 36 = .ok (.return_, 1) := by decide +kernel
theorem dX11_init_26 : decode cX11_init 26 = .ok (.putfield 20, 3) := by decide +kernel
theorem dX11_init_29 : decode cX11_init 29 = .ok (.aload_n 0, 1) := by decide +kernel
theorem dX11_init_30 : decode cX11_init 30 = .ok (.new 24, 3) := by decide +kernel
theorem dX11_init_33 : decode cX11_init 33 = .ok (.dup, 1) := by decide +kernel
theorem dX11_init_34 : decode cX11_init 34 = .ok (.invokespecial 26, 3) := by decide +kernel
theorem dX5_init_0 : decode cX5_init 0 = .ok (.aload_n 0, 1) := by decide +kernel
theorem dX5_init_1 : decode cX5_init 1 = .ok (.invokespecial 3, 3) := by decide +kernel
theorem dX5_init_4 : decode cX5_init 4 = .ok (.aload_n 0, 1) := by decide +kernel
theorem dX5_init_5 : decode cX5_init 5 = .ok (.new 9, 3) := by decide +kernel
theorem dX5_init_8 : decode cX5_init 8 = .ok (.dup, 1) := by decide +kernel
theorem dX5_init_9 : decode cX5_init 9 = .ok (.invokespecial 11, 3) := by decide +kernel
theorem dX5_init_12 : decode cX5_init 12 = .ok (.putfield 12, 3) := by decide +kernel
theorem dX5_init_15 : decode cX5_init 15 = .ok (.aload_n 0, 1) := by decide +kernel
theorem dX5_init_16 : decode cX5_init 16 = .ok (.iconst 2, 1) := by decide +kernel
theorem dX5_init_17 : decode cX5_init 17 = .ok (.bipush 28, 2) := by decide +kernel
theorem dX5_init_19 : decode cX5_init 19 = .ok (.multianewarray 18 2, 4) := by decide +kernel
theorem dX5_init_23 : decode cX5_init 23 = .ok (.putfield 20, 3) := by decide +kernel
theorem dX5_init_26 : decode cX5_init 26 = .ok (.aload_n 0, 1) := by decide +kernel
theorem dX5_init_27 : decode cX5_init 27 = .ok (.iconst 0, 1) := by decide +kernel
theorem dX5_init_28 : decode cX5_init 28 = .ok (.putfield 23, 3) := by decide +kernel
theorem dX5_init_31 : decode cX5_init 31 = .ok (.return_, 1) := by decide +kernel
theorem dX11_init_37 : decode cX11_init 37 = .ok (.putfield 27, 3) := by decide +kernel
theorem dX11_init_40 : decode cX11_init 40 = .ok (.aload_n 0, 1) := by decide +kernel
theorem dX11_init_41 : decode cX11_init 41 = .ok (.iconst 3, 1) := by decide +kernel
theorem dX11_init_42 : decode cX11_init 42 = .ok (.anewarray 24, 3) := by decide +kernel
theorem dX11_init_45 : decode cX11_init 45 = .ok (.putfield 31, 3) := by decide +kernel
theorem dX11_init_48 : decode cX11_init 48 = .ok (.aload_n 0, 1) := by decide +kernel
theorem dX11_init_49 : decode cX11_init 49 = .ok (.iconst 4, 1) := by decide +kernel
theorem dX11_init_50 : decode cX11_init 50 = .ok (.anewarray 35, 3) := by decide +kernel
theorem dX11_init_53 : decode cX11_init 53 = .ok (.putfield 37, 3) := by decide +kernel
theorem dX11_init_56 : decode cX11_init 56 = .ok (.aload_n 0, 1) := by decide +kernel
theorem dX11_init_57 : decode cX11_init 57 = .ok (.new 41, 3) := by decide +kernel
theorem dX11_init_60 : decode cX11_init 60 = .ok (.dup, 1) := by decide +kernel
theorem dX11_init_61 : decode cX11_init 61 = .ok (.invokespecial 43, 3) := by decide +kernel
theorem dX2_init_0 : decode cX2_init 0 = .ok (.aload_n 0, 1) := by decide +kernel
theorem dX2_init_1 : decode cX2_init 1 = .ok (.invokespecial 3, 3) := by decide +kernel
theorem dX2_init_4 : decode cX2_init 4 = .ok (.aload_n 0, 1) := by decide +kernel
theorem dX2_init_5 : decode cX2_init 5 = .ok (.bipush 16, 2) := by decide +kernel
theorem dX2_init_7 : decode cX2_init 7 = .ok (.newarray .int, 2) := by decide +kernel
theorem dX2_init_9 : decode cX2_init 9 = .ok (.putfield 9, 3) := by decide +kernel
theorem dX2_init_12 : decode cX2_init 12 = .ok (.aload_n 0, 1) := by decide +kernel
theorem dX2_init_13 : decode cX2_init 13 = .ok (.sipush 256, 3) := by decide +kernel
theorem dX2_init_16 : decode cX2_init 16 = .ok (.newarray .int, 2) := by decide +kernel
theorem dX2_init_18 : decode cX2_init 18 = .ok (.putfield 15, 3) := by decide +kernel
theorem dX2_init_21 : decode cX2_init 21 = .ok (.aload_n 0, 1) := by decide +kernel
theorem dX2_init_22 : decode cX2_init 22 = .ok (.bipush 28, 2) := by decide +kernel
theorem dX2_init_24 : decode cX2_init 24 = .ok (.newarray .int, 2) := by decide +kernel
theorem dX2_init_26 : decode cX2_init 26 = .ok (.putfield 18, 3) := by decide +kernel
theorem dX2_init_29 : decode cX2_init 29 = .ok (.aload_n 0, 1) := by decide +kernel
theorem dX2_init_30 : decode cX2_init 30 = .ok (.bipush 16, 2) := by decide +kernel
theorem dX2_init_32 : decode cX2_init 32 = .ok (.newarray .int, 2) := by decide +kernel
theorem dX2_init_34 : decode cX2_init 34 = .ok (.putfield 21, 3) := by decide +kernel
theorem dX2_init_37 : decode cX2_init 37 = .ok (.aload_n 0, 1) := by decide +kernel
theorem dX2_init_38 : decode cX2_init 38 = .ok (.bipush 16, 2) := by decide +kernel
theorem dX2_init_40 : decode cX2_init 40 = .ok (.newarray .int, 2) := by decide +kernel
theorem dX2_init_42 : decode cX2_init 42 = .ok (.putfield 24, 3) := by decide +kernel
theorem dX2_init_45 : decode cX2_init 45 = .ok (.aload_n 0, 1) := by decide +kernel
theorem dX2_init_46 : decode cX2_init 46 = .ok (.bipush 28, 2) := by decide +kernel
theorem dX2_init_48 : decode cX2_init 48 = .ok (.newarray .int, 2) := by decide +kernel
theorem dX2_init_50 : decode cX2_init 50 = .ok (.putfield 27, 3) := by decide +kernel
theorem dX2_init_53 : decode cX2_init 53 = .ok (.return_, 1) := by decide +kernel
theorem dX11_init_64 : decode cX11_init 64 = .ok (.putfield 44, 3) := by decide +kernel
theorem dX11_init_67 : decode cX11_init 67 = .ok (.aload_n 0, 1) := by decide +kernel
theorem dX11_init_68 : decode cX11_init 68 = .ok (.new 48, 3) := by decide +kernel
theorem dX11_init_71 : decode cX11_init 71 = .ok (.dup, 1) := by decide +kernel
theorem dX11_init_72 : decode cX11_init 72 = .ok (.aload_n 0, 1) := by decide +kernel
theorem dX11_init_73 : decode cX11_init 73 = .ok (.getfield 44, 3) := by decide +kernel
theorem dX11_init_76 : decode cX11_init 76 = .ok (.invokespecial 50, 3) := by decide +kernel
theorem dX0_init_0 : decode cX0_init 0 = .ok (.aload_n 0, 1) := by decide +kernel
theorem dX0_init_1 : decode cX0_init 1 = .ok (.invokespecial 3, 3) := by decide +kernel
theorem dX0_init_4 : decode cX0_init 4 = .ok (.aload_n 0, 1) := by decide +kernel
theorem dX0_init_5 : decode cX0_init 5 = .ok (.bipush 10, 2) := by decide +kernel
theorem dX0_init_7 : decode cX0_init 7 = .ok (.newarray .int, 2) := by decide +kernel
theorem dX0_init_9 : decode cX0_init 9 = .ok (.putfield 9, 3) := by decide +kernel
theorem dX0_init_12 : decode cX0_init 12 = .ok (.aload_n 0, 1) := by decide +kernel
theorem dX0_init_13 : decode cX0_init 13 = .ok (.aload_n 1, 1) := by decide +kernel
theorem dX0_init_14 : decode cX0_init 14 = .ok (.putfield 15, 3) := by decide +kernel
theorem dX0_init_17 : decode cX0_init 17 = .ok (.return_, 1) := by decide +kernel
theorem dX11_init_79 : decode cX11_init 79 = .ok (.putfield 53, 3) := by decide +kernel
theorem dX11_init_82 : decode cX11_init 82 = .ok (.aload_n 0, 1) := by decide +kernel
theorem dX11_init_83 : decode cX11_init 83 = .ok (.new 57, 3) := by decide +kernel
theorem dX11_init_86 : decode cX11_init 86 = .ok (.dup, 1) := by decide +kernel
theorem dX11_init_87 : decode cX11_init 87 = .ok (.aload_n 0, 1) := by decide +kernel
theorem dX11_init_88 : decode cX11_init 88 = .ok (.getfield 44, 3) := by decide +kernel
theorem dX11_init_91 : decode cX11_init 91 = .ok (.invokespecial 59, 3) := by decide +kernel
theorem dX10_init_0 : decode cX10_init 0 = .ok (.aload_n 0, 1) := by decide +kernel
theorem dX10_init_1 : decode cX10_init 1 = .ok (.invokespecial 3, 3) := by decide +kernel
theorem dX10_init_4 : decode cX10_init 4 = .ok (.aload_n 0, 1) := by decide +kernel
theorem dX10_init_5 : decode cX10_init 5 = .ok (.aload_n 1, 1) := by decide +kernel
theorem dX10_init_6 : decode cX10_init 6 = .ok (.putfield 9, 3) := by decide +kernel
theorem dX10_init_9 : decode cX10_init 9 = .ok (.return_, 1) := by decide +kernel
theorem dX11_init_94 : decode cX11_init 94 = .ok (.putfield 60, 3) := by decide +kernel
theorem dX11_init_97 : decode cX11_init 97 = .ok (.aload_n 0, 1) := by decide +kernel
theorem dX11_init_98 : decode cX11_init 98 = .ok (.new 64, 3) := by decide +kernel
theorem dX11_init_101 : decode cX11_init 101 = .ok (.dup, 1) := by decide +kernel
theorem dX11_init_102 : decode cX11_init 102 = .ok (.aload_n 0, 1) := by decide +kernel
theorem dX11_init_103 : decode cX11_init 103 = .ok (.getfield 44, 3) := by decide +kernel
theorem dX11_init_106 : decode cX11_init 106 = .ok (.invokespecial 66, 3) := by decide +kernel
theorem dX3_init_0 : decode cX3_init 0 = .ok (.aload_n 0, 1) := by decide +kernel
theorem dX3_init_1 : decode cX3_init 1 = .ok (.invokespecial 3, 3) := by decide +kernel
theorem dX3_init_4 : decode cX3_init 4 = .ok (.aload_n 0, 1) := by decide +kernel
theorem dX3_init_5 : decode cX3_init 5 = .ok (.bipush 9, 2) := by decide +kernel
theorem dX3_init_7 : decode cX3_init 7 = .ok (.newarray .int, 2) := by decide +kernel
theorem dX3_init_9 : decode cX3_init 9 = .ok (.putfield 9, 3) := by decide +kernel
theorem dX3_init_12 : decode cX3_init 12 = .ok (.aload_n 0, 1) := by decide +kernel
theorem dX3_init_13 : decode cX3_init 13 = .ok (.bipush 9, 2) := by decide +kernel
theorem dX3_init_15 : decode cX3_init 15 = .ok (.newarray .int, 2) := by decide +kernel
theorem dX3_init_17 : decode cX3_init 17 = .ok (.putfield 15, 3) := by decide +kernel
theorem dX3_init_20 : decode cX3_init 20 = .ok (.aload_n 0, 1) := by decide +kernel
theorem dX3_init_21 : decode cX3_init 21 = .ok (.sipush 512, 3) := by decide +kernel
theorem dX3_init_24 : decode cX3_init 24 = .ok (.newarray .int, 2) := by decide +kernel
theorem dX3_init_26 : decode cX3_init 26 = .ok (.putfield 18, 3) := by decide +kernel
theorem dX3_init_29 : decode cX3_init 29 = .ok (.aload_n 0, 1) := by decide +kernel
theorem dX3_init_30 : decode cX3_init 30 = .ok (.sipush 512, 3) := by decide +kernel
theorem dX3_init_33 : decode cX3_init 33 = .ok (.newarray .int, 2) := by decide +kernel
theorem dX3_init_35 : decode cX3_init 35 = .ok (.putfield 21, 3) := by decide +kernel
theorem dX3_init_38 : decode cX3_init 38 = .ok (.aload_n 0, 1) := by decide +kernel
theorem dX3_init_39 : decode cX3_init 39 = .ok (.aload_n 1, 1) := by decide +kernel
theorem dX3_init_40 : decode cX3_init 40 = .ok (.putfield 24, 3) := by decide +kernel
theorem dX3_init_43 : decode cX3_init 43 = .ok (.return_, 1) := by decide +kernel
theorem dX11_init_109 : decode cX11_init 109 = .ok (.putfield 67, 3) := by decide +kernel
theorem dX11_init_112 : decode cX11_init 112 = .ok (.aload_n 0, 1) := by decide +kernel
theorem dX11_init_113 : decode cX11_init 113 = .ok (.bipush 28, 2) := by decide +kernel
theorem dX11_init_115 : decode cX11_init 115 = .ok (.newarray .int, 2) := by decide +kernel
theorem dX11_init_117 : decode cX11_init 117 = .ok (.putfield 71, 3) := by decide +kernel
theorem dX11_init_120 : decode cX11_init 120 = .ok (.aload_n 0, 1) := by decide +kernel
theorem dX11_init_121 : decode cX11_init 121 = .ok (.iconst (-1), 1) := by decide +kernel
theorem dX11_init_122 : decode cX11_init 122 = .ok (.putfield 75, 3) := by decide +kernel
theorem dX11_init_125 : decode cX11_init 125 = .ok (.aload_n 0, 1) := by decide +kernel
theorem dX11_init_126 : decode cX11_init 126 = .ok (.iconst (-1), 1) := by decide +kernel
theorem dX11_init_127 : decode cX11_init 127 = .ok (.putfield 78, 3) := by decide +kernel
theorem dX11_init_130 : decode cX11_init 130 = .ok (.aload_n 0, 1) := by decide +kernel
theorem dX11_init_131 : decode cX11_init 131 = .ok (.iconst (-1), 1) := by decide +kernel
theorem dX11_init_132 : decode cX11_init 132 = .ok (.putfield 81, 3) := by decide +kernel
theorem dX11_init_135 : decode cX11_init 135 = .ok (.aload_n 0, 1) := by decide +kernel
theorem dX11_init_136 : decode cX11_init 136 = .ok (.iconst (-1), 1) := by decide +kernel
theorem dX11_init_137 : decode cX11_init 137 = .ok (.putfield 84, 3) := by decide +kernel
theorem dX11_init_140 : decode cX11_init 140 = .ok (.iconst 0, 1) := by decide +kernel
theorem dX11_init_141 : decode cX11_init 141 = .ok (.istore_n 1, 1) := by decide +kernel
theorem dX11_init_142 : decode cX11_init 142 = .ok (.iload_n 1, 1) := by decide +kernel
theorem dX11_init_143 : decode cX11_init 143 = .ok (.iconst 3, 1) := by decide +kernel
theorem dX11_init_144 : decode cX11_init 144 = .ok (.if_icmp .ge 22, 3) := by decide +kernel
theorem dX11_init_147 : decode cX11_init 147 = .ok (.aload_n 0, 1) := by decide +kernel
theorem dX11_init_148 : decode cX11_init 148 = .ok (.getfield 31, 3) := by decide +kernel
theorem dX11_init_151 : decode cX11_init 151 = .ok (.iload_n 1, 1) := by decide +kernel
theorem dX11_init_152 : decode cX11_init 152 = .ok (.new 24, 3) := by decide +kernel
theorem dX11_init_155 : decode cX11_init 155 = .ok (.dup, 1) := by decide +kernel
theorem dX11_init_156 : decode cX11_init 156 = .ok (.invokespecial 26, 3) := by decide +kernel
theorem dX11_init_159 : decode cX11_init 159 = .ok (.aastore, 1) := by decide +kernel
theorem dX11_init_160 : decode cX11_init 160 = .ok (.iinc 1 1, 3) := by decide +kernel
theorem dX11_init_163 : decode cX11_init 163 = .ok (.goto (-21), 3) := by decide +kernel
theorem dX11_init_166 : decode cX11_init 166 = .ok (.iconst 0, 1) := by decide +kernel
theorem dX11_init_167 : decode cX11_init 167 = .ok (.istore_n 1, 1) := by decide +kernel
theorem dX11_init_168 : decode cX11_init 168 = .ok (.iload_n 1, 1) := by decide +kernel
theorem dX11_init_169 : decode cX11_init 169 = .ok (.iconst 4, 1) := by decide +kernel
theorem dX11_init_170 : decode cX11_init 170 = .ok (.if_icmp .ge 22, 3) := by decide +kernel
theorem dX11_init_173 : decode cX11_init 173 = .ok (.aload_n 0, 1) := by decide +kernel
theorem dX11_init_174 : decode cX11_init 174 = .ok (.getfield 37, 3) := by decide +kernel
theorem dX11_init_177 : decode cX11_init 177 = .ok (.iload_n 1, 1) := by decide +kernel
theorem dX11_init_178 : decode cX11_init 178 = .ok (.new 35, 3) := by decide +kernel
theorem dX11_init_181 : decode cX11_init 181 = .ok (.dup, 1) := by decide +kernel
theorem dX11_init_182 : decode cX11_init 182 = .ok (.invokespecial 87, 3) := by decide +kernel
theorem dX4_init_0 : decode cX4_init 0 = .ok (.aload_n 0, 1) := by decide +kernel
theorem dX4_init_1 : decode cX4_init 1 = .ok (.invokespecial 3, 3) := by decide +kernel
theorem dX4_init_4 : decode cX4_init 4 = .ok (.aload_n 0, 1) := by decide +kernel
theorem dX4_init_5 : decode cX4_init 5 = .ok (.iconst (-1), 1) := by decide +kernel
theorem dX4_init_6 : decode cX4_init 6 = .ok (.putfield 9, 3) := by decide +kernel
theorem dX4_init_9 : decode cX4_init 9 = .ok (.aload_n 0, 1) := by decide +kernel
theorem dX4_init_10 : decode cX4_init 10 = .ok (.iconst 0, 1) := by decide +kernel
theorem dX4_init_11 : decode cX4_init 11 = .ok (.putfield 15, 3) := by decide +kernel
theorem dX4_init_14 : decode cX4_init 14 = .ok (.aload_n 0, 1) := by decide +kernel
theorem dX4_init_15 : decode cX4_init 15 = .ok (.bipush 60, 2) := by decide +kernel
theorem dX4_init_17 : decode cX4_init 17 = .ok (.newarray .long, 2) := by decide +kernel
theorem dX4_init_19 : decode cX4_init 19 = .ok (.putfield 18, 3) := by decide +kernel
theorem dX4_init_22 : decode cX4_init 22 = .ok (.return_, 1) := by decide +kernel
theorem dX11_init_185 : decode cX11_init 185 = .ok (.aastore, 1) := by decide +kernel
theorem dX11_init_186 : decode cX11_init 186 = .ok (.iinc 1 1, 3) := by decide +kernel
theorem dX11_init_189 : decode cX11_init 189 = .ok (.goto (-21), 3) := by decide +kernel
theorem dX11_init_192 : decode cX11_init 192 = .ok (.aload_n 0, 1) := by decide +kernel
theorem dX11_init_193 : decode cX11_init 193 = .ok (.getfield 44, 3) := by decide +kernel
theorem dX11_init_196 : decode cX11_init 196 = .ok (.aload_n 0, 1) := by decide +kernel
theorem dX11_init_197 : decode cX11_init 197 = .ok (.getfield 27, 3) := by decide +kernel
theorem dX11_init_200 : decode cX11_init 200 = .ok (.getfield 88, 3) := by decide +kernel
theorem dX11_init_203 : decode cX11_init 203 = .ok (.invokevirtual 92, 3) := by decide +kernel
theorem dX2_settle_0 : decode cX2_settle 0 = .ok (.aload_n 1, 1) := by decide +kernel
theorem dX2_settle_1 : decode cX2_settle 1 = .ok (.invokevirtual 30, 3) := by decide +kernel
theorem dX8_listEnds_0 : decode cX8_listEnds 0 = .ok (.iconst 0, 1) := by decide +kernel
theorem dX8_listEnds_1 : decode cX8_listEnds 1 = .ok (.istore_n 1, 1) := by decide +kernel
theorem dX8_listEnds_2 : decode cX8_listEnds 2 = .ok (.iconst 0, 1) := by decide +kernel
theorem dX8_listEnds_3 : decode cX8_listEnds 3 = .ok (.istore_n 2, 1) := by decide +kernel
theorem dX8_listEnds_4 : decode cX8_listEnds 4 = .ok (.iload_n 2, 1) := by decide +kernel
theorem dX8_listEnds_5 : decode cX8_listEnds 5 = .ok (.aload_n 0, 1) := by decide +kernel
theorem dX8_listEnds_6 : decode cX8_listEnds 6 = .ok (.getfield 15, 3) := by decide +kernel
theorem dX8_listEnds_9 : decode cX8_listEnds 9 = .ok (.if_icmp .ge 62, 3) := by decide +kernel
theorem dX8_listEnds_12 : decode cX8_listEnds 12 = .ok (.aload_n 0, 1) := by decide +kernel
theorem dX8_listEnds_13 : decode cX8_listEnds 13 = .ok (.getfield 63, 3) := by decide +kernel
theorem dX8_listEnds_16 : decode cX8_listEnds 16 = .ok (.iload_n 2, 1) := by decide +kernel
theorem dX8_listEnds_17 : decode cX8_listEnds 17 = .ok (.iload_n 1, 1) := by decide +kernel
theorem dX8_listEnds_18 : decode cX8_listEnds 18 = .ok (.iastore, 1) := by decide +kernel
theorem dX8_listEnds_19 : decode cX8_listEnds 19 = .ok (.iconst 0, 1) := by decide +kernel
theorem dX8_listEnds_20 : decode cX8_listEnds 20 = .ok (.istore_n 3, 1) := by decide +kernel
theorem dX8_listEnds_21 : decode cX8_listEnds 21 = .ok (.iload_n 3, 1) := by decide +kernel
theorem dX8_listEnds_22 : decode cX8_listEnds 22 = .ok (.aload_n 0, 1) := by decide +kernel
theorem dX8_listEnds_23 : decode cX8_listEnds 23 = .ok (.getfield 18, 3) := by decide +kernel
theorem dX8_listEnds_26 : decode cX8_listEnds 26 = .ok (.if_icmp .ge 39, 3) := by decide +kernel
theorem dX8_listEnds_65 : decode cX8_listEnds 65 = .ok (.iinc 2 1, 3) := by decide +kernel
theorem dX8_listEnds_68 : decode cX8_listEnds 68 = .ok (.goto (-64), 3) := by decide +kernel
theorem dX8_listEnds_71 : decode cX8_listEnds 71 = .ok (.aload_n 0, 1) := by decide +kernel
theorem dX8_listEnds_72 : decode cX8_listEnds 72 = .ok (.getfield 63, 3) := by decide +kernel
theorem dX8_listEnds_75 : decode cX8_listEnds 75 = .ok (.aload_n 0, 1) := by decide +kernel
theorem dX8_listEnds_76 : decode cX8_listEnds 76 = .ok (.getfield 15, 3) := by decide +kernel
theorem dX8_listEnds_79 : decode cX8_listEnds 79 = .ok (.iload_n 1, 1) := by decide +kernel
theorem dX8_listEnds_80 : decode cX8_listEnds 80 = .ok (.iastore, 1) := by decide +kernel
theorem dX8_listEnds_81 : decode cX8_listEnds 81 = .ok (.return_, 1) := by decide +kernel
theorem dX2_settle_4 : decode cX2_settle 4 = .ok (.aload_n 0, 1) := by decide +kernel
theorem dX2_settle_5 : decode cX2_settle 5 = .ok (.aload_n 1, 1) := by decide +kernel
theorem dX2_settle_6 : decode cX2_settle 6 = .ok (.aload_n 0, 1) := by decide +kernel
theorem dX2_settle_7 : decode cX2_settle 7 = .ok (.getfield 27, 3) := by decide +kernel
theorem dX2_settle_10 : decode cX2_settle 10 = .ok (.aload_n 1, 1) := by decide +kernel
theorem dX2_settle_11 : decode cX2_settle 11 = .ok (.getfield 35, 3) := by decide +kernel
theorem dX2_settle_14 : decode cX2_settle 14 = .ok (.invokevirtual 38, 3) := by decide +kernel
theorem dX2_measureAll_0 : decode cX2_measureAll 0 = .ok (.iconst 0, 1) := by decide +kernel
theorem dX2_measureAll_1 : decode cX2_measureAll 1 = .ok (.istore 4, 2) := by decide +kernel
theorem dX2_measureAll_3 : decode cX2_measureAll 3 = .ok (.iload 4, 2) := by decide +kernel
theorem dX2_measureAll_5 : decode cX2_measureAll 5 = .ok (.aload_n 1, 1) := by decide +kernel
theorem dX2_measureAll_6 : decode cX2_measureAll 6 = .ok (.getfield 73, 3) := by decide +kernel
theorem dX2_measureAll_9 : decode cX2_measureAll 9 = .ok (.if_icmp .ge 53, 3) := by decide +kernel
theorem dX2_measureAll_12 : decode cX2_measureAll 12 = .ok (.aload_n 0, 1) := by decide +kernel
theorem dX2_measureAll_13 : decode cX2_measureAll 13 = .ok (.aload_n 1, 1) := by decide +kernel
theorem dX2_measureAll_14 : decode cX2_measureAll 14 = .ok (.aload_n 2, 1) := by decide +kernel
theorem dX2_measureAll_15 : decode cX2_measureAll 15 = .ok (.iload 4, 2) := by decide +kernel
theorem dX2_measureAll_17 : decode cX2_measureAll 17 = .ok (.iconst 0, 1) := by decide +kernel
theorem dX2_measureAll_18 : decode cX2_measureAll 18 = .ok (.invokevirtual 98, 3) := by decide +kernel
theorem dX2_goToward_0 : decode cX2_goToward 0 = .ok (.aload_n 0, 1) := by decide +kernel
theorem dX2_goToward_1 : decode cX2_goToward 1 = .ok (.getfield 9, 3) := by decide +kernel
theorem dX2_goToward_4 : decode cX2_goToward 4 = .ok (.ldc 76, 2) := by decide +kernel
theorem dX2_goToward_6 : decode cX2_goToward 6 = .ok (.invokestatic 61, 3) := by decide +kernel
theorem dX2_goToward_9 : decode cX2_goToward 9 = .ok (.aload_n 0, 1) := by decide +kernel
theorem dX2_goToward_10 : decode cX2_goToward 10 = .ok (.getfield 9, 3) := by decide +kernel
theorem dX2_goToward_13 : decode cX2_goToward 13 = .ok (.iload_n 3, 1) := by decide +kernel
theorem dX2_goToward_14 : decode cX2_goToward 14 = .ok (.iconst 0, 1) := by decide +kernel
theorem dX2_goToward_15 : decode cX2_goToward 15 = .ok (.iastore, 1) := by decide +kernel
theorem dX2_goToward_16 : decode cX2_goToward 16 = .ok (.iconst 1, 1) := by decide +kernel
theorem dX2_goToward_17 : decode cX2_goToward 17 = .ok (.iload_n 3, 1) := by decide +kernel
theorem dX2_goToward_18 : decode cX2_goToward 18 = .ok (.ishl, 1) := by decide +kernel
theorem dX2_goToward_19 : decode cX2_goToward 19 = .ok (.istore 5, 2) := by decide +kernel
theorem dX2_goToward_21 : decode cX2_goToward 21 = .ok (.iconst 0, 1) := by decide +kernel
theorem dX2_goToward_22 : decode cX2_goToward 22 = .ok (.istore 6, 2) := by decide +kernel
theorem dX2_goToward_24 : decode cX2_goToward 24 = .ok (.iload 6, 2) := by decide +kernel
theorem dX2_goToward_26 : decode cX2_goToward 26 = .ok (.aload_n 1, 1) := by decide +kernel
theorem dX2_goToward_27 : decode cX2_goToward 27 = .ok (.getfield 73, 3) := by decide +kernel
theorem dX2_goToward_30 : decode cX2_goToward 30 = .ok (.if_icmp .ge 170, 3) := by decide +kernel
theorem dX2_goToward_33 : decode cX2_goToward 33 = .ok (.iload 5, 2) := by decide +kernel
theorem dX2_goToward_35 : decode cX2_goToward 35 = .ok (.ifCond .eq 165, 3) := by decide +kernel
theorem dX2_goToward_38 : decode cX2_goToward 38 = .ok (.aload_n 0, 1) := by decide +kernel
theorem dX2_goToward_39 : decode cX2_goToward 39 = .ok (.aload_n 1, 1) := by decide +kernel
theorem dX2_goToward_40 : decode cX2_goToward 40 = .ok (.iload 5, 2) := by decide +kernel
theorem dX2_goToward_42 : decode cX2_goToward 42 = .ok (.invokevirtual 77, 3) := by decide +kernel
theorem dX2_nearestOf_0 : decode cX2_nearestOf 0 = .ok (.iconst 0, 1) := by decide +kernel
theorem dX2_nearestOf_1 : decode cX2_nearestOf 1 = .ok (.istore_n 3, 1) := by decide +kernel
theorem dX2_nearestOf_2 : decode cX2_nearestOf 2 = .ok (.ldc 76, 2) := by decide +kernel
theorem dX2_nearestOf_4 : decode cX2_nearestOf 4 = .ok (.istore 4, 2) := by decide +kernel
theorem dX2_nearestOf_6 : decode cX2_nearestOf 6 = .ok (.iconst 0, 1) := by decide +kernel
theorem dX2_nearestOf_7 : decode cX2_nearestOf 7 = .ok (.istore 5, 2) := by decide +kernel
theorem dX2_nearestOf_9 : decode cX2_nearestOf 9 = .ok (.iload 5, 2) := by decide +kernel
theorem dX2_nearestOf_11 : decode cX2_nearestOf 11 = .ok (.aload_n 1, 1) := by decide +kernel
theorem dX2_nearestOf_12 : decode cX2_nearestOf 12 = .ok (.getfield 73, 3) := by decide +kernel
theorem dX2_nearestOf_15 : decode cX2_nearestOf 15 = .ok (.if_icmp .ge 42, 3) := by decide +kernel
theorem dX2_nearestOf_18 : decode cX2_nearestOf 18 = .ok (.iload_n 2, 1) := by decide +kernel
theorem dX2_nearestOf_19 : decode cX2_nearestOf 19 = .ok (.iload 5, 2) := by decide +kernel
theorem dX2_nearestOf_21 : decode cX2_nearestOf 21 = .ok (.ishr, 1) := by decide +kernel
theorem dX2_nearestOf_22 : decode cX2_nearestOf 22 = .ok (.iconst 1, 1) := by decide +kernel
theorem dX2_nearestOf_23 : decode cX2_nearestOf 23 = .ok (.iand, 1) := by decide +kernel
theorem dX2_nearestOf_24 : decode cX2_nearestOf 24 = .ok (.ifCond .eq 27, 3) := by decide +kernel
theorem dX2_nearestOf_27 : decode cX2_nearestOf 27 = .ok (.aload_n 0, 1) := by decide +kernel
theorem dX2_nearestOf_28 : decode cX2_nearestOf 28 = .ok (.getfield 9, 3) := by decide +kernel
theorem dX2_nearestOf_31 : decode cX2_nearestOf 31 = .ok (.iload 5, 2) := by decide +kernel
theorem dX2_nearestOf_33 : decode cX2_nearestOf 33 = .ok (.iaload, 1) := by decide +kernel
theorem dX2_nearestOf_34 : decode cX2_nearestOf 34 = .ok (.iload 4, 2) := by decide +kernel
theorem dX2_nearestOf_36 : decode cX2_nearestOf 36 = .ok (.if_icmp .ge 15, 3) := by decide +kernel
theorem dX2_nearestOf_39 : decode cX2_nearestOf 39 = .ok (.aload_n 0, 1) := by decide +kernel
theorem dX2_nearestOf_40 : decode cX2_nearestOf 40 = .ok (.getfield 9, 3) := by decide +kernel
theorem dX2_nearestOf_43 : decode cX2_nearestOf 43 = .ok (.iload 5, 2) := by decide +kernel
theorem dX2_nearestOf_45 : decode cX2_nearestOf 45 = .ok (.iaload, 1) := by decide +kernel
theorem dX2_nearestOf_46 : decode cX2_nearestOf 46 = .ok (.istore 4, 2) := by decide +kernel
theorem dX2_nearestOf_48 : decode cX2_nearestOf 48 = .ok (.iload 5, 2) := by decide +kernel
theorem dX2_nearestOf_50 : decode cX2_nearestOf 50 = .ok (.istore_n 3, 1) := by decide +kernel
theorem dX2_nearestOf_51 : decode cX2_nearestOf 51 = .ok (.iinc 5 1, 3) := by decide +kernel
theorem dX2_nearestOf_54 : decode cX2_nearestOf 54 = .ok (.goto (-45), 3) := by decide +kernel
theorem dX2_nearestOf_57 : decode cX2_nearestOf 57 = .ok (.iload_n 3, 1) := by decide +kernel
theorem dX2_nearestOf_58 : decode cX2_nearestOf 58 = .ok (.ireturn, 1) := by decide +kernel
theorem dX2_goToward_45 : decode cX2_goToward 45 = .ok (.istore 7, 2) := by decide +kernel
theorem dX2_goToward_47 : decode cX2_goToward 47 = .ok (.iload 5, 2) := by decide +kernel
theorem dX2_goToward_49 : decode cX2_goToward 49 = .ok (.iconst 1, 1) := by decide +kernel
theorem dX2_goToward_50 : decode cX2_goToward 50 = .ok (.iload 7, 2) := by decide +kernel
theorem dX2_goToward_52 : decode cX2_goToward 52 = .ok (.ishl, 1) := by decide +kernel
theorem dX2_goToward_53 : decode cX2_goToward 53 = .ok (.iconst (-1), 1) := by decide +kernel
theorem dX2_goToward_54 : decode cX2_goToward 54 = .ok (.ixor, 1) := by decide +kernel
theorem dX2_goToward_55 : decode cX2_goToward 55 = .ok (.iand, 1) := by decide +kernel
theorem dX2_goToward_56 : decode cX2_goToward 56 = .ok (.istore 5, 2) := by decide +kernel
theorem dX2_goToward_58 : decode cX2_goToward 58 = .ok (.aload_n 1, 1) := by decide +kernel
theorem dX2_goToward_59 : decode cX2_goToward 59 = .ok (.getfield 81, 3) := by decide +kernel
theorem dX2_goToward_62 : decode cX2_goToward 62 = .ok (.iload 7, 2) := by decide +kernel
theorem dX2_goToward_64 : decode cX2_goToward 64 = .ok (.iaload, 1) := by decide +kernel
theorem dX2_goToward_65 : decode cX2_goToward 65 = .ok (.istore 8, 2) := by decide +kernel
theorem dX2_goToward_67 : decode cX2_goToward 67 = .ok (.iload 8, 2) := by decide +kernel
theorem dX2_goToward_69 : decode cX2_goToward 69 = .ok (.aload_n 1, 1) := by decide +kernel
theorem dX2_goToward_70 : decode cX2_goToward 70 = .ok (.getfield 81, 3) := by decide +kernel
theorem dX2_goToward_73 : decode cX2_goToward 73 = .ok (.iload 7, 2) := by decide +kernel
theorem dX2_goToward_75 : decode cX2_goToward 75 = .ok (.iconst 1, 1) := by decide +kernel
theorem dX2_goToward_76 : decode cX2_goToward 76 = .ok (.iadd, 1) := by decide +kernel
theorem dX2_goToward_77 : decode cX2_goToward 77 = .ok (.iaload, 1) := by decide +kernel
theorem dX2_goToward_78 : decode cX2_goToward 78 = .ok (.if_icmp .ge 116, 3) := by decide +kernel
theorem dX2_goToward_194 : decode cX2_goToward 194 = .ok (.iinc 6 1, 3) := by decide +kernel
theorem dX2_goToward_197 : decode cX2_goToward 197 = .ok (.goto (-173), 3) := by decide +kernel
theorem dX2_goToward_200 : decode cX2_goToward 200 = .ok (.return_, 1) := by decide +kernel
theorem dX2_measureAll_21 : decode cX2_measureAll 21 = .ok (.iconst 0, 1) := by decide +kernel
theorem dX2_measureAll_22 : decode cX2_measureAll 22 = .ok (.istore 5, 2) := by decide +kernel
theorem dX2_measureAll_24 : decode cX2_measureAll 24 = .ok (.iload 5, 2) := by decide +kernel
theorem dX2_measureAll_26 : decode cX2_measureAll 26 = .ok (.aload_n 1, 1) := by decide +kernel
theorem dX2_measureAll_27 : decode cX2_measureAll 27 = .ok (.getfield 73, 3) := by decide +kernel
theorem dX2_measureAll_30 : decode cX2_measureAll 30 = .ok (.if_icmp .ge 26, 3) := by decide +kernel
theorem dX2_measureAll_33 : decode cX2_measureAll 33 = .ok (.aload_n 3, 1) := by decide +kernel
theorem dX2_measureAll_34 : decode cX2_measureAll 34 = .ok (.iload 5, 2) := by decide +kernel
theorem dX2_measureAll_36 : decode cX2_measureAll 36 = .ok (.bipush 16, 2) := by decide +kernel
theorem dX2_measureAll_38 : decode cX2_measureAll 38 = .ok (.imul, 1) := by decide +kernel
theorem dX2_measureAll_39 : decode cX2_measureAll 39 = .ok (.iload 4, 2) := by decide +kernel
theorem dX2_measureAll_41 : decode cX2_measureAll 41 = .ok (.iadd, 1) := by decide +kernel
theorem dX2_measureAll_42 : decode cX2_measureAll 42 = .ok (.aload_n 0, 1) := by decide +kernel
theorem dX2_measureAll_43 : decode cX2_measureAll 43 = .ok (.getfield 9, 3) := by decide +kernel
theorem dX2_measureAll_46 : decode cX2_measureAll 46 = .ok (.iload 5, 2) := by decide +kernel
theorem dX2_measureAll_48 : decode cX2_measureAll 48 = .ok (.iaload, 1) := by decide +kernel
theorem dX2_measureAll_49 : decode cX2_measureAll 49 = .ok (.iastore, 1) := by decide +kernel
theorem dX2_measureAll_50 : decode cX2_measureAll 50 = .ok (.iinc 5 1, 3) := by decide +kernel
theorem dX2_measureAll_53 : decode cX2_measureAll 53 = .ok (.goto (-29), 3) := by decide +kernel
theorem dX2_measureAll_56 : decode cX2_measureAll 56 = .ok (.iinc 4 1, 3) := by decide +kernel
theorem dX2_measureAll_59 : decode cX2_measureAll 59 = .ok (.goto (-56), 3) := by decide +kernel
theorem dX2_measureAll_62 : decode cX2_measureAll 62 = .ok (.return_, 1) := by decide +kernel
theorem dX2_settle_17 : decode cX2_settle 17 = .ok (.aload_n 1, 1) := by decide +kernel
theorem dX2_settle_18 : decode cX2_settle 18 = .ok (.iconst 0, 1) := by decide +kernel
theorem dX2_settle_19 : decode cX2_settle 19 = .ok (.putfield 42, 3) := by decide +kernel
theorem dX2_settle_22 : decode cX2_settle 22 = .ok (.iconst 0, 1) := by decide +kernel
theorem dX2_settle_23 : decode cX2_settle 23 = .ok (.istore_n 2, 1) := by decide +kernel
theorem dX2_settle_24 : decode cX2_settle 24 = .ok (.iload_n 2, 1) := by decide +kernel
theorem dX2_settle_25 : decode cX2_settle 25 = .ok (.aload_n 1, 1) := by decide +kernel
theorem dX2_settle_26 : decode cX2_settle 26 = .ok (.getfield 46, 3) := by decide +kernel
theorem dX2_settle_29 : decode cX2_settle 29 = .ok (.if_icmp .ge 48, 3) := by decide +kernel
theorem dX2_settle_77 : decode cX2_settle 77 = .ok (.return_, 1) := by decide +kernel
theorem dX11_init_206 : decode cX11_init 206 = .ok (.return_, 1) := by decide +kernel
theorem dX12_init_0 : decode cX12_init 0 = .ok (.aload_n 0, 1) := by decide +kernel
theorem dX12_init_1 : decode cX12_init 1 = .ok (.invokespecial 7, 3) := by decide +kernel
theorem dX12_init_4 : decode cX12_init 4 = .ok (.aload_n 0, 1) := by decide +kernel
theorem dX12_init_5 : decode cX12_init 5 = .ok (.sipush 304, 3) := by decide +kernel
theorem dX12_init_8 : decode cX12_init 8 = .ok (.newarray .int, 2) := by decide +kernel
theorem dX12_init_10 : decode cX12_init 10 = .ok (.putfield 13, 3) := by decide +kernel
theorem dX12_init_13 : decode cX12_init 13 = .ok (.aload_n 0, 1) := by decide +kernel
theorem dX12_init_14 : decode cX12_init 14 = .ok (.sipush 912, 3) := by decide +kernel
theorem dX12_init_17 : decode cX12_init 17 = .ok (.newarray .int, 2) := by decide +kernel
theorem dX12_init_19 : decode cX12_init 19 = .ok (.putfield 17, 3) := by decide +kernel
theorem dX12_init_22 : decode cX12_init 22 = .ok (.aload_n 0, 1) := by decide +kernel
theorem dX12_init_23 : decode cX12_init 23 = .ok (.iconst 3, 1) := by decide +kernel
theorem dX12_init_24 : decode cX12_init 24 = .ok (.newarray .boolean, 2) := by decide +kernel
theorem dX12_init_26 : decode cX12_init 26 = .ok (.putfield 20, 3) := by decide +kernel
theorem dX12_init_29 : decode cX12_init 29 = .ok (.aload_n 0, 1) := by decide +kernel
theorem dX12_init_30 : decode cX12_init 30 = .ok (.sipush 800, 3) := by decide +kernel
theorem dX12_init_33 : decode cX12_init 33 = .ok (.newarray .byte, 2) := by decide +kernel
theorem dX12_init_35 : decode cX12_init 35 = .ok (.putfield 24, 3) := by decide +kernel
theorem dX12_init_38 : decode cX12_init 38 = .ok (.aload_n 0, 1) := by decide +kernel
theorem dX12_init_39 : decode cX12_init 39 = .ok (.iconst 5, 1) := by decide +kernel
theorem dX12_init_40 : decode cX12_init 40 = .ok (.newarray .int, 2) := by decide +kernel
theorem dX12_init_42 : decode cX12_init 42 = .ok (.putfield 28, 3) := by decide +kernel
theorem dX12_init_45 : decode cX12_init 45 = .ok (.aload_n 0, 1) := by decide +kernel
theorem dX12_init_46 : decode cX12_init 46 = .ok (.iconst (-1), 1) := by decide +kernel
theorem dX12_init_47 : decode cX12_init 47 = .ok (.putfield 31, 3) := by decide +kernel
theorem dX12_init_50 : decode cX12_init 50 = .ok (.aload_n 0, 1) := by decide +kernel
theorem dX12_init_51 : decode cX12_init 51 = .ok (.sipush 304, 3) := by decide +kernel
theorem dX12_init_54 : decode cX12_init 54 = .ok (.newarray .int, 2) := by decide +kernel
theorem dX12_init_56 : decode cX12_init 56 = .ok (.putfield 34, 3) := by decide +kernel
theorem dX12_init_59 : decode cX12_init 59 = .ok (.aload_n 0, 1) := by decide +kernel
theorem dX12_init_60 : decode cX12_init 60 = .ok (.bipush 28, 2) := by decide +kernel
theorem dX12_init_62 : decode cX12_init 62 = .ok (.newarray .boolean, 2) := by decide +kernel
theorem dX12_init_64 : decode cX12_init 64 = .ok (.putfield 37, 3) := by decide +kernel
theorem dX12_init_67 : decode cX12_init 67 = .ok (.aload_n 0, 1) := by decide +kernel
theorem dX12_init_68 : decode cX12_init 68 = .ok (.bipush 28, 2) := by decide +kernel
theorem dX12_init_70 : decode cX12_init 70 = .ok (.newarray .int, 2) := by decide +kernel
theorem dX12_init_72 : decode cX12_init 72 = .ok (.putfield 40, 3) := by decide +kernel
theorem dX12_init_75 : decode cX12_init 75 = .ok (.aload_n 0, 1) := by decide +kernel
theorem dX12_init_76 : decode cX12_init 76 = .ok (.sipush 256, 3) := by decide +kernel
theorem dX12_init_79 : decode cX12_init 79 = .ok (.newarray .int, 2) := by decide +kernel
theorem dX12_init_81 : decode cX12_init 81 = .ok (.putfield 43, 3) := by decide +kernel
theorem dX12_init_84 : decode cX12_init 84 = .ok (.aload_n 0, 1) := by decide +kernel
theorem dX12_init_85 : decode cX12_init 85 = .ok (.sipush 256, 3) := by decide +kernel
theorem dX12_init_88 : decode cX12_init 88 = .ok (.newarray .int, 2) := by decide +kernel
theorem dX12_init_90 : decode cX12_init 90 = .ok (.putfield 46, 3) := by decide +kernel
theorem dX12_init_93 : decode cX12_init 93 = .ok (.aload_n 0, 1) := by decide +kernel
theorem dX12_init_94 : decode cX12_init 94 = .ok (.bipush 16, 2) := by decide +kernel
theorem dX12_init_96 : decode cX12_init 96 = .ok (.newarray .boolean, 2) := by decide +kernel
theorem dX12_init_98 : decode cX12_init 98 = .ok (.putfield 49, 3) := by decide +kernel
theorem dX12_init_101 : decode cX12_init 101 = .ok (.aload_n 0, 1) := by decide +kernel
theorem dX12_init_102 : decode cX12_init 102 = .ok (.bipush 28, 2) := by decide +kernel
theorem dX12_init_104 : decode cX12_init 104 = .ok (.newarray .int, 2) := by decide +kernel
theorem dX12_init_106 : decode cX12_init 106 = .ok (.putfield 52, 3) := by decide +kernel
theorem dX12_init_109 : decode cX12_init 109 = .ok (.aload_n 0, 1) := by decide +kernel
theorem dX12_init_110 : decode cX12_init 110 = .ok (.bipush 28, 2) := by decide +kernel
theorem dX12_init_112 : decode cX12_init 112 = .ok (.newarray .int, 2) := by decide +kernel
theorem dX12_init_114 : decode cX12_init 114 = .ok (.putfield 55, 3) := by decide +kernel
theorem dX12_init_117 : decode cX12_init 117 = .ok (.aload_n 0, 1) := by decide +kernel
theorem dX12_init_118 : decode cX12_init 118 = .ok (.bipush 44, 2) := by decide +kernel
theorem dX12_init_120 : decode cX12_init 120 = .ok (.newarray .int, 2) := by decide +kernel
theorem dX12_init_122 : decode cX12_init 122 = .ok (.putfield 58, 3) := by decide +kernel
theorem dX12_init_125 : decode cX12_init 125 = .ok (.aload_n 0, 1) := by decide +kernel
theorem dX12_init_126 : decode cX12_init 126 = .ok (.iconst 2, 1) := by decide +kernel
theorem dX12_init_127 : decode cX12_init 127 = .ok (.newarray .int, 2) := by decide +kernel
theorem dX12_init_129 : decode cX12_init 129 = .ok (.putfield 61, 3) := by decide +kernel
theorem dX12_init_132 : decode cX12_init 132 = .ok (.aload_n 0, 1) := by decide +kernel
theorem dX12_init_133 : decode cX12_init 133 = .ok (.bipush 9, 2) := by decide +kernel
theorem dX12_init_135 : decode cX12_init 135 = .ok (.newarray .int, 2) := by decide +kernel
theorem dX12_init_137 : decode cX12_init 137 = .ok (.putfield 64, 3) := by decide +kernel
theorem dX12_init_140 : decode cX12_init 140 = .ok (.aload_n 0, 1) := by decide +kernel
theorem dX12_init_141 : decode cX12_init 141 = .ok (.sipush 512, 3) := by decide +kernel
theorem dX12_init_144 : decode cX12_init 144 = .ok (.newarray .int, 2) := by decide +kernel
theorem dX12_init_146 : decode cX12_init 146 = .ok (.putfield 67, 3) := by decide +kernel
theorem dX12_init_149 : decode cX12_init 149 = .ok (.aload_n 0, 1) := by decide +kernel
theorem dX12_init_150 : decode cX12_init 150 = .ok (.sipush 512, 3) := by decide +kernel
theorem dX12_init_153 : decode cX12_init 153 = .ok (.newarray .int, 2) := by decide +kernel
theorem dX12_init_155 : decode cX12_init 155 = .ok (.putfield 70, 3) := by decide +kernel
theorem dX12_init_158 : decode cX12_init 158 = .ok (.aload_n 0, 1) := by decide +kernel
theorem dX12_init_159 : decode cX12_init 159 = .ok (.bipush 16, 2) := by decide +kernel
theorem dX12_init_161 : decode cX12_init 161 = .ok (.newarray .int, 2) := by decide +kernel
theorem dX12_init_163 : decode cX12_init 163 = .ok (.putfield 73, 3) := by decide +kernel
theorem dX12_init_166 : decode cX12_init 166 = .ok (.aload_n 0, 1) := by decide +kernel
theorem dX12_init_167 : decode cX12_init 167 = .ok (.iconst 2, 1) := by decide +kernel
theorem dX12_init_168 : decode cX12_init 168 = .ok (.newarray .int, 2) := by decide +kernel
theorem dX12_init_170 : decode cX12_init 170 = .ok (.putfield 76, 3) := by decide +kernel
theorem dX12_init_173 : decode cX12_init 173 = .ok (.aload_n 0, 1) := by decide +kernel
theorem dX12_init_174 : decode cX12_init 174 = .ok (.iconst 4, 1) := by decide +kernel
theorem dX12_init_175 : decode cX12_init 175 = .ok (.newarray .int, 2) := by decide +kernel
theorem dX12_init_177 : decode cX12_init 177 = .ok (.dup, 1) := by decide +kernel
theorem dX12_init_178 : decode cX12_init 178 = .ok (.iconst 0, 1) := by decide +kernel
theorem dX12_init_179 : decode cX12_init 179 = .ok (.iconst (-1), 1) := by decide +kernel
theorem dX12_init_180 : decode cX12_init 180 = .ok (.iastore, 1) := by decide +kernel
theorem dX12_init_181 : decode cX12_init 181 = .ok (.dup, 1) := by decide +kernel
theorem dX12_init_182 : decode cX12_init 182 = .ok (.iconst 1, 1) := by decide +kernel
theorem dX12_init_183 : decode cX12_init 183 = .ok (.iconst (-1), 1) := by decide +kernel
theorem dX12_init_184 : decode cX12_init 184 = .ok (.iastore, 1) := by decide +kernel
theorem dX12_init_185 : decode cX12_init 185 = .ok (.dup, 1) := by decide +kernel
theorem dX12_init_186 : decode cX12_init 186 = .ok (.iconst 2, 1) := by decide +kernel
theorem dX12_init_187 : decode cX12_init 187 = .ok (.iconst (-1), 1) := by decide +kernel
theorem dX12_init_188 : decode cX12_init 188 = .ok (.iastore, 1) := by decide +kernel
theorem dX12_init_189 : decode cX12_init 189 = .ok (.dup, 1) := by decide +kernel
theorem dX12_init_190 : decode cX12_init 190 = .ok (.iconst 3, 1) := by decide +kernel
theorem dX12_init_191 : decode cX12_init 191 = .ok (.iconst (-1), 1) := by decide +kernel
theorem dX12_init_192 : decode cX12_init 192 = .ok (.iastore, 1) := by decide +kernel
theorem dX12_init_193 : decode cX12_init 193 = .ok (.putfield 79, 3) := by decide +kernel
theorem dX12_init_196 : decode cX12_init 196 = .ok (.aload_n 0, 1) := by decide +kernel
theorem dX12_init_197 : decode cX12_init 197 = .ok (.iconst 4, 1) := by decide +kernel
theorem dX12_init_198 : decode cX12_init 198 = .ok (.newarray .int, 2) := by decide +kernel
theorem dX12_init_200 : decode cX12_init 200 = .ok (.putfield 82, 3) := by decide +kernel
theorem dX12_init_203 : decode cX12_init 203 = .ok (.aload_n 0, 1) := by decide +kernel
theorem dX12_init_204 : decode cX12_init 204 = .ok (.sipush 240, 3) := by decide +kernel
theorem dX12_init_207 : decode cX12_init 207 = .ok (.newarray .long, 2) := by decide +kernel
theorem dX12_init_209 : decode cX12_init 209 = .ok (.putfield 85, 3) := by decide +kernel
theorem dX12_init_212 : decode cX12_init 212 = .ok (.aload_n 0, 1) := by decide +kernel
theorem dX12_init_213 : decode cX12_init 213 = .ok (.bipush 60, 2) := by decide +kernel
theorem dX12_init_215 : decode cX12_init 215 = .ok (.newarray .long, 2) := by decide +kernel
theorem dX12_init_217 : decode cX12_init 217 = .ok (.putfield 89, 3) := by decide +kernel
theorem dX12_init_220 : decode cX12_init 220 = .ok (.aload_n 0, 1) := by decide +kernel
theorem dX12_init_221 : decode cX12_init 221 = .ok (.getfield 13, 3) := by decide +kernel
theorem dX12_init_224 : decode cX12_init 224 = .ok (.invokestatic 92, 3) := by decide +kernel
theorem dX12_init_227 : decode cX12_init 227 = .ok (.return_, 1) := by decide +kernel
theorem dX11_feed_0 : decode cX11_feed 0 = .ok (.aload_n 0, 1) := by decide +kernel
theorem dX11_feed_1 : decode cX11_feed 1 = .ok (.getfield 13, 3) := by decide +kernel
theorem dX11_feed_4 : decode cX11_feed 4 = .ok (.bipush 20, 2) := by decide +kernel
theorem dX11_feed_6 : decode cX11_feed 6 = .ok (.iadd, 1) := by decide +kernel
theorem dX11_feed_7 : decode cX11_feed 7 = .ok (.sipush 800, 3) := by decide +kernel
theorem dX11_feed_10 : decode cX11_feed 10 = .ok (.if_icmp .le 5, 3) := by decide +kernel
theorem dX11_feed_15 : decode cX11_feed 15 = .ok (.aload_n 0, 1) := by decide +kernel
theorem dX11_feed_16 : decode cX11_feed 16 = .ok (.iload_n 1, 1) := by decide +kernel
theorem dX11_feed_17 : decode cX11_feed 17 = .ok (.invokevirtual 96, 3) := by decide +kernel
theorem dX11_appendBytes_0 : decode cX11_appendBytes 0 = .ok (.bipush 24, 2) := by decide +kernel
theorem dX11_appendBytes_2 : decode cX11_appendBytes 2 = .ok (.istore_n 2, 1) := by decide +kernel
theorem dX11_appendBytes_3 : decode cX11_appendBytes 3 = .ok (.iload_n 2, 1) := by decide +kernel
theorem dX11_appendBytes_4 : decode cX11_appendBytes 4 = .ok (.ifCond .lt 32, 3) := by decide +kernel
theorem dX11_appendBytes_7 : decode cX11_appendBytes 7 = .ok (.aload_n 0, 1) := by decide +kernel
theorem dX11_appendBytes_8 : decode cX11_appendBytes 8 = .ok (.getfield 9, 3) := by decide +kernel
theorem dX11_appendBytes_11 : decode cX11_appendBytes 11 = .ok (.aload_n 0, 1) := by decide +kernel
theorem dX11_appendBytes_12 : decode cX11_appendBytes 12 = .ok (.getfield 13, 3) := by decide +kernel
theorem dX11_appendBytes_15 : decode cX11_appendBytes 15 = .ok (.iload_n 1, 1) := by decide +kernel
theorem dX11_appendBytes_16 : decode cX11_appendBytes 16 = .ok (.iload_n 2, 1) := by decide +kernel
theorem dX11_appendBytes_17 : decode cX11_appendBytes 17 = .ok (.ishr, 1) := by decide +kernel
theorem dX11_appendBytes_18 : decode cX11_appendBytes 18 = .ok (.i2b, 1) := by decide +kernel
theorem dX11_appendBytes_19 : decode cX11_appendBytes 19 = .ok (.bastore, 1) := by decide +kernel
theorem dX11_appendBytes_20 : decode cX11_appendBytes 20 = .ok (.aload_n 0, 1) := by decide +kernel
theorem dX11_appendBytes_21 : decode cX11_appendBytes 21 = .ok (.dup, 1) := by decide +kernel
theorem dX11_appendBytes_22 : decode cX11_appendBytes 22 = .ok (.getfield 13, 3) := by decide +kernel
theorem dX11_appendBytes_25 : decode cX11_appendBytes 25 = .ok (.iconst 1, 1) := by decide +kernel
theorem dX11_appendBytes_26 : decode cX11_appendBytes 26 = .ok (.iadd, 1) := by decide +kernel
theorem dX11_appendBytes_27 : decode cX11_appendBytes 27 = .ok (.putfield 13, 3) := by decide +kernel
theorem dX11_appendBytes_30 : decode cX11_appendBytes 30 = .ok (.iinc 2 (-8), 3) := by decide +kernel
theorem dX11_appendBytes_33 : decode cX11_appendBytes 33 = .ok (.goto (-30), 3) := by decide +kernel
theorem dX11_appendBytes_36 : decode cX11_appendBytes 36 = .ok (.return_, 1) := by decide +kernel
theorem dX11_feed_20 : decode cX11_feed 20 = .ok (.aload_n 0, 1) := by decide +kernel
theorem dX11_feed_21 : decode cX11_feed 21 = .ok (.iload_n 2, 1) := by decide +kernel
theorem dX11_feed_22 : decode cX11_feed 22 = .ok (.invokevirtual 96, 3) := by decide +kernel
theorem dX11_feed_25 : decode cX11_feed 25 = .ok (.aload_n 0, 1) := by decide +kernel
theorem dX11_feed_26 : decode cX11_feed 26 = .ok (.iload_n 3, 1) := by decide +kernel
theorem dX11_feed_27 : decode cX11_feed 27 = .ok (.invokevirtual 96, 3) := by decide +kernel
theorem dX11_feed_30 : decode cX11_feed 30 = .ok (.aload_n 0, 1) := by decide +kernel
theorem dX11_feed_31 : decode cX11_feed 31 = .ok (.iload 4, 2) := by decide +kernel
theorem dX11_feed_33 : decode cX11_feed 33 = .ok (.invokevirtual 96, 3) := by decide +kernel
theorem dX11_feed_36 : decode cX11_feed 36 = .ok (.aload_n 0, 1) := by decide +kernel
theorem dX11_feed_37 : decode cX11_feed 37 = .ok (.iload 5, 2) := by decide +kernel
theorem dX11_feed_39 : decode cX11_feed 39 = .ok (.invokevirtual 96, 3) := by decide +kernel
theorem dX11_feed_42 : decode cX11_feed 42 = .ok (.aload_n 0, 1) := by decide +kernel
theorem dX11_feed_43 : decode cX11_feed 43 = .ok (.getfield 13, 3) := by decide +kernel
theorem dX11_feed_46 : decode cX11_feed 46 = .ok (.ireturn, 1) := by decide +kernel
theorem dX11_end_0 : decode cX11_end 0 = .ok (.iload_n 1, 1) := by decide +kernel
theorem dX11_end_1 : decode cX11_end 1 = .ok (.ifCond .lt 11, 3) := by decide +kernel
theorem dX11_end_12 : decode cX11_end 12 = .ok (.iconst (-1), 1) := by decide +kernel
theorem dX11_end_13 : decode cX11_end 13 = .ok (.ireturn, 1) := by decide +kernel
theorem dX11_end_4 : decode cX11_end 4 = .ok (.iload_n 1, 1) := by decide +kernel
theorem dX11_end_5 : decode cX11_end 5 = .ok (.aload_n 0, 1) := by decide +kernel
theorem dX11_end_6 : decode cX11_end 6 = .ok (.getfield 13, 3) := by decide +kernel
theorem dX11_end_9 : decode cX11_end 9 = .ok (.if_icmp .le 5, 3) := by decide +kernel
theorem dX11_end_14 : decode cX11_end 14 = .ok (.aload_n 0, 1) := by decide +kernel
theorem dX11_end_15 : decode cX11_end 15 = .ok (.iload_n 1, 1) := by decide +kernel
theorem dX11_end_16 : decode cX11_end 16 = .ok (.putfield 13, 3) := by decide +kernel
theorem dX11_end_19 : decode cX11_end 19 = .ok (.iload_n 1, 1) := by decide +kernel
theorem dX11_end_20 : decode cX11_end 20 = .ok (.ireturn, 1) := by decide +kernel
theorem dX11_text_0 : decode cX11_text 0 = .ok (.aload_n 0, 1) := by decide +kernel
theorem dX11_text_1 : decode cX11_text 1 = .ok (.getfield 20, 3) := by decide +kernel
theorem dX11_text_4 : decode cX11_text 4 = .ok (.aload_n 0, 1) := by decide +kernel
theorem dX11_text_5 : decode cX11_text 5 = .ok (.getfield 9, 3) := by decide +kernel
theorem dX11_text_8 : decode cX11_text 8 = .ok (.aload_n 0, 1) := by decide +kernel
theorem dX11_text_9 : decode cX11_text 9 = .ok (.getfield 13, 3) := by decide +kernel
theorem dX11_text_12 : decode cX11_text 12 = .ok (.invokevirtual 100, 3) := by decide +kernel
theorem dX9_read_0 : decode cX9_read 0 = .ok (.aload_n 0, 1) := by decide +kernel
theorem dX9_read_1 : decode cX9_read 1 = .ok (.getfield 21, 3) := by decide +kernel
theorem dX9_read_4 : decode cX9_read 4 = .ok (.invokevirtual 32, 3) := by decide +kernel
theorem dX8_drop_0 : decode cX8_drop 0 = .ok (.aload_n 0, 1) := by decide +kernel
theorem dX8_drop_1 : decode cX8_drop 1 = .ok (.iconst 0, 1) := by decide +kernel
theorem dX8_drop_2 : decode cX8_drop 2 = .ok (.putfield 9, 3) := by decide +kernel
theorem dX8_drop_5 : decode cX8_drop 5 = .ok (.aload_n 0, 1) := by decide +kernel
theorem dX8_drop_6 : decode cX8_drop 6 = .ok (.iconst 2, 1) := by decide +kernel
theorem dX8_drop_7 : decode cX8_drop 7 = .ok (.putfield 15, 3) := by decide +kernel
theorem dX8_drop_10 : decode cX8_drop 10 = .ok (.aload_n 0, 1) := by decide +kernel
theorem dX8_drop_11 : decode cX8_drop 11 = .ok (.iconst 0, 1) := by decide +kernel
theorem dX8_drop_12 : decode cX8_drop 12 = .ok (.putfield 18, 3) := by decide +kernel
theorem dX8_drop_15 : decode cX8_drop 15 = .ok (.aload_n 0, 1) := by decide +kernel
theorem dX8_drop_16 : decode cX8_drop 16 = .ok (.iconst (-1), 1) := by decide +kernel
theorem dX8_drop_17 : decode cX8_drop 17 = .ok (.putfield 21, 3) := by decide +kernel
theorem dX8_drop_20 : decode cX8_drop 20 = .ok (.aload_n 0, 1) := by decide +kernel
theorem dX8_drop_21 : decode cX8_drop 21 = .ok (.iconst 0, 1) := by decide +kernel
theorem dX8_drop_22 : decode cX8_drop 22 = .ok (.putfield 24, 3) := by decide +kernel
theorem dX8_drop_25 : decode cX8_drop 25 = .ok (.aload_n 0, 1) := by decide +kernel
theorem dX8_drop_26 : decode cX8_drop 26 = .ok (.iconst 0, 1) := by decide +kernel
theorem dX8_drop_27 : decode cX8_drop 27 = .ok (.putfield 27, 3) := by decide +kernel
theorem dX8_drop_30 : decode cX8_drop 30 = .ok (.aload_n 0, 1) := by decide +kernel
theorem dX8_drop_31 : decode cX8_drop 31 = .ok (.iconst 0, 1) := by decide +kernel
theorem dX8_drop_32 : decode cX8_drop 32 = .ok (.putfield 43, 3) := by decide +kernel
theorem dX8_drop_35 : decode cX8_drop 35 = .ok (.aload_n 0, 1) := by decide +kernel
theorem dX8_drop_36 : decode cX8_drop 36 = .ok (.iconst 0, 1) := by decide +kernel
theorem dX8_drop_37 : decode cX8_drop 37 = .ok (.putfield 46, 3) := by decide +kernel
theorem dX8_drop_40 : decode cX8_drop 40 = .ok (.aload_n 0, 1) := by decide +kernel
theorem dX8_drop_41 : decode cX8_drop 41 = .ok (.getfield 52, 3) := by decide +kernel
theorem dX8_drop_44 : decode cX8_drop 44 = .ok (.iconst 0, 1) := by decide +kernel
theorem dX8_drop_45 : decode cX8_drop 45 = .ok (.putfield 75, 3) := by decide +kernel
theorem dX8_drop_48 : decode cX8_drop 48 = .ok (.aload_n 0, 1) := by decide +kernel
theorem dX8_drop_49 : decode cX8_drop 49 = .ok (.getfield 59, 3) := by decide +kernel
theorem dX8_drop_52 : decode cX8_drop 52 = .ok (.invokevirtual 78, 3) := by decide +kernel
theorem dX6_drop_0 : decode cX6_drop 0 = .ok (.aload_n 0, 1) := by decide +kernel
theorem dX6_drop_1 : decode cX6_drop 1 = .ok (.iconst 0, 1) := by decide +kernel
theorem dX6_drop_2 : decode cX6_drop 2 = .ok (.putfield 9, 3) := by decide +kernel
theorem dX6_drop_5 : decode cX6_drop 5 = .ok (.aload_n 0, 1) := by decide +kernel
theorem dX6_drop_6 : decode cX6_drop 6 = .ok (.iconst 0, 1) := by decide +kernel
theorem dX6_drop_7 : decode cX6_drop 7 = .ok (.putfield 15, 3) := by decide +kernel
theorem dX6_drop_10 : decode cX6_drop 10 = .ok (.aload_n 0, 1) := by decide +kernel
theorem dX6_drop_11 : decode cX6_drop 11 = .ok (.getfield 18, 3) := by decide +kernel
theorem dX6_drop_14 : decode cX6_drop 14 = .ok (.iconst 0, 1) := by decide +kernel
theorem dX6_drop_15 : decode cX6_drop 15 = .ok (.invokestatic 25, 3) := by decide +kernel
theorem dX6_drop_18 : decode cX6_drop 18 = .ok (.return_, 1) := by decide +kernel
theorem dX8_drop_55 : decode cX8_drop 55 = .ok (.return_, 1) := by decide +kernel
theorem dX9_read_7 : decode cX9_read 7 = .ok (.aload_n 0, 1) := by decide +kernel
theorem dX9_read_8 : decode cX9_read 8 = .ok (.iconst 0, 1) := by decide +kernel
theorem dX9_read_9 : decode cX9_read 9 = .ok (.putfield 25, 3) := by decide +kernel
theorem dX9_read_12 : decode cX9_read 12 = .ok (.aload_n 0, 1) := by decide +kernel
theorem dX9_read_13 : decode cX9_read 13 = .ok (.iconst (-1), 1) := by decide +kernel
theorem dX9_read_14 : decode cX9_read 14 = .ok (.putfield 29, 3) := by decide +kernel
theorem dX9_read_17 : decode cX9_read 17 = .ok (.aload_n 0, 1) := by decide +kernel
theorem dX9_read_18 : decode cX9_read 18 = .ok (.getfield 12, 3) := by decide +kernel
theorem dX9_read_21 : decode cX9_read 21 = .ok (.aload_n 1, 1) := by decide +kernel
theorem dX9_read_22 : decode cX9_read 22 = .ok (.iload_n 2, 1) := by decide +kernel
theorem dX9_read_23 : decode cX9_read 23 = .ok (.invokevirtual 35, 3) := by decide +kernel
theorem dX7_open_0 : decode cX7_open 0 = .ok (.aload_n 0, 1) := by decide +kernel
theorem dX7_open_1 : decode cX7_open 1 = .ok (.aload_n 1, 1) := by decide +kernel
theorem dX7_open_2 : decode cX7_open 2 = .ok (.putfield 7, 3) := by decide +kernel
theorem dX7_open_5 : decode cX7_open 5 = .ok (.aload_n 0, 1) := by decide +kernel
theorem dX7_open_6 : decode cX7_open 6 = .ok (.iload_n 2, 1) := by decide +kernel
theorem dX7_open_7 : decode cX7_open 7 = .ok (.aload_n 1, 1) := by decide +kernel
theorem dX7_open_8 : decode cX7_open 8 = .ok (.arraylength, 1) := by decide +kernel
theorem dX7_open_9 : decode cX7_open 9 = .ok (.invokestatic 29, 3) := by decide +kernel
theorem dX7_open_12 : decode cX7_open 12 = .ok (.putfield 13, 3) := by decide +kernel
theorem dX7_open_15 : decode cX7_open 15 = .ok (.aload_n 0, 1) := by decide +kernel
theorem dX7_open_16 : decode cX7_open 16 = .ok (.iconst 0, 1) := by decide +kernel
theorem dX7_open_17 : decode cX7_open 17 = .ok (.putfield 17, 3) := by decide +kernel
theorem dX7_open_20 : decode cX7_open 20 = .ok (.aload_n 0, 1) := by decide +kernel
theorem dX7_open_21 : decode cX7_open 21 = .ok (.invokevirtual 35, 3) := by decide +kernel
theorem dX7_advance_0 : decode cX7_advance 0 = .ok (.aload_n 0, 1) := by decide +kernel
theorem dX7_advance_1 : decode cX7_advance 1 = .ok (.aload_n 0, 1) := by decide +kernel
theorem dX7_advance_2 : decode cX7_advance 2 = .ok (.getfield 17, 3) := by decide +kernel
theorem dX7_advance_5 : decode cX7_advance 5 = .ok (.putfield 23, 3) := by decide +kernel
theorem dX7_advance_8 : decode cX7_advance 8 = .ok (.aload_n 0, 1) := by decide +kernel
theorem dX7_advance_9 : decode cX7_advance 9 = .ok (.getfield 23, 3) := by decide +kernel
theorem dX7_advance_12 : decode cX7_advance 12 = .ok (.aload_n 0, 1) := by decide +kernel
theorem dX7_advance_13 : decode cX7_advance 13 = .ok (.getfield 13, 3) := by decide +kernel
theorem dX7_advance_16 : decode cX7_advance 16 = .ok (.if_icmp .ge 31, 3) := by decide +kernel
theorem dX7_advance_47 : decode cX7_advance 47 = .ok (.aload_n 0, 1) := by decide +kernel
theorem dX7_advance_48 : decode cX7_advance 48 = .ok (.aload_n 0, 1) := by decide +kernel
theorem dX7_advance_49 : decode cX7_advance 49 = .ok (.getfield 23, 3) := by decide +kernel
theorem dX7_advance_52 : decode cX7_advance 52 = .ok (.putfield 17, 3) := by decide +kernel
theorem dX7_advance_55 : decode cX7_advance 55 = .ok (.aload_n 0, 1) := by decide +kernel
theorem dX7_advance_56 : decode cX7_advance 56 = .ok (.iconst 0, 1) := by decide +kernel
theorem dX7_advance_57 : decode cX7_advance 57 = .ok (.putfield 26, 3) := by decide +kernel
theorem dX7_advance_60 : decode cX7_advance 60 = .ok (.aload_n 0, 1) := by decide +kernel
theorem dX7_advance_61 : decode cX7_advance 61 = .ok (.getfield 23, 3) := by decide +kernel
theorem dX7_advance_64 : decode cX7_advance 64 = .ok (.aload_n 0, 1) := by decide +kernel
theorem dX7_advance_65 : decode cX7_advance 65 = .ok (.getfield 13, 3) := by decide +kernel
theorem dX7_advance_68 : decode cX7_advance 68 = .ok (.if_icmp .lt 11, 3) := by decide +kernel
theorem dX7_advance_71 : decode cX7_advance 71 = .ok (.aload_n 0, 1) := by decide +kernel
theorem dX7_advance_72 : decode cX7_advance 72 = .ok (.iconst 0, 1) := by decide +kernel
theorem dX7_advance_73 : decode cX7_advance 73 = .ok (.putfield 20, 3) := by decide +kernel
theorem dX7_advance_76 : decode cX7_advance 76 = .ok (.goto 183, 3) := by decide +kernel
theorem dX7_advance_259 : decode cX7_advance 259 = .ok (.return_, 1) := by decide +kernel
theorem dX7_open_24 : decode cX7_open 24 = .ok (.return_, 1) := by decide +kernel
theorem dX9_read_26 : decode cX9_read 26 = .ok (.iconst 0, 1) := by decide +kernel
theorem dX9_read_27 : decode cX9_read 27 = .ok (.istore_n 3, 1) := by decide +kernel
theorem dX9_read_28 : decode cX9_read 28 = .ok (.iload_n 3, 1) := by decide +kernel
theorem dX9_read_29 : decode cX9_read 29 = .ok (.iload_n 2, 1) := by decide +kernel
theorem dX9_read_30 : decode cX9_read 30 = .ok (.if_icmp .ge 43, 3) := by decide +kernel
theorem dX9_read_73 : decode cX9_read 73 = .ok (.aload_n 0, 1) := by decide +kernel
theorem dX9_read_74 : decode cX9_read 74 = .ok (.getfield 25, 3) := by decide +kernel
theorem dX9_read_77 : decode cX9_read 77 = .ok (.ifCond .ne 7, 3) := by decide +kernel
theorem dX9_read_80 : decode cX9_read 80 = .ok (.iconst 1, 1) := by decide +kernel
theorem dX9_read_81 : decode cX9_read 81 = .ok (.goto 4, 3) := by decide +kernel
theorem dX9_read_85 : decode cX9_read 85 = .ok (.ireturn, 1) := by decide +kernel
theorem dX11_text_15 : decode cX11_text 15 = .ok (.ifCond .ne 6, 3) := by decide +kernel
theorem dX11_text_21 : decode cX11_text 21 = .ok (.aload_n 0, 1) := by decide +kernel
theorem dX11_text_22 : decode cX11_text 22 = .ok (.iconst 0, 1) := by decide +kernel
theorem dX11_text_23 : decode cX11_text 23 = .ok (.putfield 13, 3) := by decide +kernel
theorem dX11_text_26 : decode cX11_text 26 = .ok (.aload_n 0, 1) := by decide +kernel
theorem dX11_text_27 : decode cX11_text 27 = .ok (.getfield 27, 3) := by decide +kernel
theorem dX11_text_30 : decode cX11_text 30 = .ok (.getfield 88, 3) := by decide +kernel
theorem dX11_text_33 : decode cX11_text 33 = .ok (.astore_n 1, 1) := by decide +kernel
theorem dX11_text_34 : decode cX11_text 34 = .ok (.aload_n 0, 1) := by decide +kernel
theorem dX11_text_35 : decode cX11_text 35 = .ok (.getfield 27, 3) := by decide +kernel
theorem dX11_text_38 : decode cX11_text 38 = .ok (.aload_n 0, 1) := by decide +kernel
theorem dX11_text_39 : decode cX11_text 39 = .ok (.getfield 20, 3) := by decide +kernel
theorem dX11_text_42 : decode cX11_text 42 = .ok (.getfield 104, 3) := by decide +kernel
theorem dX11_text_45 : decode cX11_text 45 = .ok (.putfield 88, 3) := by decide +kernel
theorem dX11_text_48 : decode cX11_text 48 = .ok (.aload_n 0, 1) := by decide +kernel
theorem dX11_text_49 : decode cX11_text 49 = .ok (.getfield 20, 3) := by decide +kernel
theorem dX11_text_52 : decode cX11_text 52 = .ok (.aload_n 1, 1) := by decide +kernel
theorem dX11_text_53 : decode cX11_text 53 = .ok (.putfield 104, 3) := by decide +kernel
theorem dX11_text_56 : decode cX11_text 56 = .ok (.aload_n 0, 1) := by decide +kernel
theorem dX11_text_57 : decode cX11_text 57 = .ok (.getfield 44, 3) := by decide +kernel
theorem dX11_text_60 : decode cX11_text 60 = .ok (.aload_n 0, 1) := by decide +kernel
theorem dX11_text_61 : decode cX11_text 61 = .ok (.getfield 27, 3) := by decide +kernel
theorem dX11_text_64 : decode cX11_text 64 = .ok (.getfield 88, 3) := by decide +kernel
theorem dX11_text_67 : decode cX11_text 67 = .ok (.invokevirtual 92, 3) := by decide +kernel
theorem dX11_text_70 : decode cX11_text 70 = .ok (.iconst 0, 1) := by decide +kernel
theorem dX11_text_71 : decode cX11_text 71 = .ok (.istore_n 2, 1) := by decide +kernel
theorem dX11_text_72 : decode cX11_text 72 = .ok (.iload_n 2, 1) := by decide +kernel
theorem dX11_text_73 : decode cX11_text 73 = .ok (.iconst 2, 1) := by decide +kernel
theorem dX11_text_74 : decode cX11_text 74 = .ok (.if_icmp .ge 18, 3) := by decide +kernel
theorem dX11_text_77 : decode cX11_text 77 = .ok (.aload_n 0, 1) := by decide +kernel
theorem dX11_text_78 : decode cX11_text 78 = .ok (.getfield 27, 3) := by decide +kernel
theorem dX11_text_81 : decode cX11_text 81 = .ok (.iload_n 2, 1) := by decide +kernel
theorem dX11_text_82 : decode cX11_text 82 = .ok (.invokevirtual 107, 3) := by decide +kernel
theorem dX5_openAll_0 : decode cX5_openAll 0 = .ok (.iconst 0, 1) := by decide +kernel
theorem dX5_openAll_1 : decode cX5_openAll 1 = .ok (.istore_n 2, 1) := by decide +kernel
theorem dX5_openAll_2 : decode cX5_openAll 2 = .ok (.iconst 0, 1) := by decide +kernel
theorem dX5_openAll_3 : decode cX5_openAll 3 = .ok (.istore_n 3, 1) := by decide +kernel
theorem dX5_openAll_4 : decode cX5_openAll 4 = .ok (.iload_n 3, 1) := by decide +kernel
theorem dX5_openAll_5 : decode cX5_openAll 5 = .ok (.aload_n 0, 1) := by decide +kernel
theorem dX5_openAll_6 : decode cX5_openAll 6 = .ok (.getfield 12, 3) := by decide +kernel
theorem dX5_openAll_9 : decode cX5_openAll 9 = .ok (.getfield 47, 3) := by decide +kernel
theorem dX5_openAll_12 : decode cX5_openAll 12 = .ok (.if_icmp .ge 60, 3) := by decide +kernel
theorem dX5_openAll_72 : decode cX5_openAll 72 = .ok (.iload_n 2, 1) := by decide +kernel
theorem dX5_openAll_73 : decode cX5_openAll 73 = .ok (.ireturn, 1) := by decide +kernel
theorem dX11_text_85 : decode cX11_text 85 = .ok (.pop, 1) := by decide +kernel
theorem dX11_text_86 : decode cX11_text 86 = .ok (.iinc 2 1, 3) := by decide +kernel
theorem dX11_text_89 : decode cX11_text 89 = .ok (.goto (-17), 3) := by decide +kernel
theorem dX11_text_92 : decode cX11_text 92 = .ok (.aload_n 0, 1) := by decide +kernel
theorem dX11_text_93 : decode cX11_text 93 = .ok (.getfield 27, 3) := by decide +kernel
theorem dX11_text_96 : decode cX11_text 96 = .ok (.getfield 88, 3) := by decide +kernel
theorem dX11_text_99 : decode cX11_text 99 = .ok (.getfield 111, 3) := by decide +kernel
theorem dX11_text_102 : decode cX11_text 102 = .ok (.ireturn, 1) := by decide +kernel
theorem dX11_fault_0 : decode cX11_fault 0 = .ok (.iload_n 1, 1) := by decide +kernel
theorem dX11_fault_1 : decode cX11_fault 1 = .ok (.ifCond .ne 11, 3) := by decide +kernel
theorem dX11_fault_12 : decode cX11_fault 12 = .ok (.iload_n 1, 1) := by decide +kernel
theorem dX11_fault_13 : decode cX11_fault 13 = .ok (.iconst 1, 1) := by decide +kernel
theorem dX11_fault_14 : decode cX11_fault 14 = .ok (.if_icmp .ne 13, 3) := by decide +kernel
theorem dX11_fault_27 : decode cX11_fault 27 = .ok (.iconst (-1), 1) := by decide +kernel
theorem dX11_fault_28 : decode cX11_fault 28 = .ok (.ireturn, 1) := by decide +kernel
theorem dX11_fault_17 : decode cX11_fault 17 = .ok (.aload_n 0, 1) := by decide +kernel
theorem dX11_fault_18 : decode cX11_fault 18 = .ok (.getfield 20, 3) := by decide +kernel
theorem dX11_fault_21 : decode cX11_fault 21 = .ok (.getfield 119, 3) := by decide +kernel
theorem dX11_fault_24 : decode cX11_fault 24 = .ok (.goto 4, 3) := by decide +kernel
theorem dX11_fault_4 : decode cX11_fault 4 = .ok (.aload_n 0, 1) := by decide +kernel
theorem dX11_fault_5 : decode cX11_fault 5 = .ok (.getfield 20, 3) := by decide +kernel
theorem dX11_fault_8 : decode cX11_fault 8 = .ok (.getfield 116, 3) := by decide +kernel
theorem dX11_fault_11 : decode cX11_fault 11 = .ok (.ireturn, 1) := by decide +kernel
theorem dX11_give_0 : decode cX11_give 0 = .ok (.iload_n 1, 1) := by decide +kernel
theorem dX11_give_1 : decode cX11_give 1 = .ok (.invokestatic 122, 3) := by decide +kernel
theorem dX11_isGiving_0 : decode cX11_isGiving 0 = .ok (.iload_n 0, 1) := by decide +kernel
theorem dX11_isGiving_1 : decode cX11_isGiving 1 = .ok (.ifCond .lt 12, 3) := by decide +kernel
theorem dX11_isGiving_13 : decode cX11_isGiving 13 = .ok (.iconst 0, 1) := by decide +kernel
theorem dX11_isGiving_14 : decode cX11_isGiving 14 = .ok (.ireturn, 1) := by decide +kernel
theorem dX11_isGiving_4 : decode cX11_isGiving 4 = .ok (.iload_n 0, 1) := by decide +kernel
theorem dX11_isGiving_5 : decode cX11_isGiving 5 = .ok (.iconst 2, 1) := by decide +kernel
theorem dX11_isGiving_6 : decode cX11_isGiving 6 = .ok (.if_icmp .ge 7, 3) := by decide +kernel
theorem dX11_isGiving_9 : decode cX11_isGiving 9 = .ok (.iconst 1, 1) := by decide +kernel
theorem dX11_isGiving_10 : decode cX11_isGiving 10 = .ok (.goto 4, 3) := by decide +kernel
theorem dX11_give_4 : decode cX11_give 4 = .ok (.ifCond .eq 27, 3) := by decide +kernel
theorem dX11_give_31 : decode cX11_give 31 = .ok (.bipush (-2), 2) := by decide +kernel
theorem dX11_give_33 : decode cX11_give 33 = .ok (.ireturn, 1) := by decide +kernel
theorem dX11_give_7 : decode cX11_give 7 = .ok (.aload_n 0, 1) := by decide +kernel
theorem dX11_give_8 : decode cX11_give 8 = .ok (.iload_n 2, 1) := by decide +kernel
theorem dX11_give_9 : decode cX11_give 9 = .ok (.invokevirtual 126, 3) := by decide +kernel
theorem dX11_isAlley_0 : decode cX11_isAlley 0 = .ok (.iload_n 1, 1) := by decide +kernel
theorem dX11_isAlley_1 : decode cX11_isAlley 1 = .ok (.ifCond .lt 21, 3) := by decide +kernel
theorem dX11_isAlley_22 : decode cX11_isAlley 22 = .ok (.iconst 0, 1) := by decide +kernel
theorem dX11_isAlley_23 : decode cX11_isAlley 23 = .ok (.ireturn, 1) := by decide +kernel
theorem dX11_isAlley_4 : decode cX11_isAlley 4 = .ok (.iload_n 1, 1) := by decide +kernel
theorem dX11_isAlley_5 : decode cX11_isAlley 5 = .ok (.aload_n 0, 1) := by decide +kernel
theorem dX11_isAlley_6 : decode cX11_isAlley 6 = .ok (.getfield 27, 3) := by decide +kernel
theorem dX11_isAlley_9 : decode cX11_isAlley 9 = .ok (.getfield 88, 3) := by decide +kernel
theorem dX11_isAlley_12 : decode cX11_isAlley 12 = .ok (.getfield 147, 3) := by decide +kernel
theorem dX11_isAlley_15 : decode cX11_isAlley 15 = .ok (.if_icmp .ge 7, 3) := by decide +kernel
theorem dX11_give_12 : decode cX11_give 12 = .ok (.ifCond .eq 19, 3) := by decide +kernel
theorem dX11_gives_0 : decode cX11_gives 0 = .ok (.iload_n 1, 1) := by decide +kernel
theorem dX11_gives_1 : decode cX11_gives 1 = .ok (.invokestatic 122, 3) := by decide +kernel
theorem dX11_gives_4 : decode cX11_gives 4 = .ok (.ifCond .eq 10, 3) := by decide +kernel
theorem dX11_gives_14 : decode cX11_gives 14 = .ok (.bipush (-2), 2) := by decide +kernel
theorem dX11_gives_16 : decode cX11_gives 16 = .ok (.ireturn, 1) := by decide +kernel
theorem dX11_gives_7 : decode cX11_gives 7 = .ok (.iload_n 2, 1) := by decide +kernel
theorem dX11_gives_8 : decode cX11_gives 8 = .ok (.invokestatic 137, 3) := by decide +kernel
theorem dX11_isSlot_0 : decode cX11_isSlot 0 = .ok (.iload_n 0, 1) := by decide +kernel
theorem dX11_isSlot_1 : decode cX11_isSlot 1 = .ok (.ifCond .lt 12, 3) := by decide +kernel
theorem dX11_isSlot_13 : decode cX11_isSlot 13 = .ok (.iconst 0, 1) := by decide +kernel
theorem dX11_isSlot_14 : decode cX11_isSlot 14 = .ok (.ireturn, 1) := by decide +kernel
theorem dX11_isSlot_4 : decode cX11_isSlot 4 = .ok (.iload_n 0, 1) := by decide +kernel
theorem dX11_isSlot_5 : decode cX11_isSlot 5 = .ok (.iconst 4, 1) := by decide +kernel
theorem dX11_isSlot_6 : decode cX11_isSlot 6 = .ok (.if_icmp .ge 7, 3) := by decide +kernel
theorem dX11_isSlot_9 : decode cX11_isSlot 9 = .ok (.iconst 1, 1) := by decide +kernel
theorem dX11_isSlot_10 : decode cX11_isSlot 10 = .ok (.goto 4, 3) := by decide +kernel
theorem dX11_gives_11 : decode cX11_gives 11 = .ok (.ifCond .ne 6, 3) := by decide +kernel
theorem dX11_gives_17 : decode cX11_gives 17 = .ok (.aload_n 0, 1) := by decide +kernel
theorem dX11_gives_18 : decode cX11_gives 18 = .ok (.getfield 37, 3) := by decide +kernel
theorem dX11_gives_21 : decode cX11_gives 21 = .ok (.iload_n 2, 1) := by decide +kernel
theorem dX11_gives_22 : decode cX11_gives 22 = .ok (.aaload, 1) := by decide +kernel
theorem dX11_gives_23 : decode cX11_gives 23 = .ok (.astore_n 3, 1) := by decide +kernel
theorem dX11_gives_24 : decode cX11_gives 24 = .ok (.aload_n 3, 1) := by decide +kernel
theorem dX11_gives_25 : decode cX11_gives 25 = .ok (.invokevirtual 140, 3) := by decide +kernel
theorem dX4_isThere_0 : decode cX4_isThere 0 = .ok (.aload_n 0, 1) := by decide +kernel
theorem dX4_isThere_1 : decode cX4_isThere 1 = .ok (.getfield 9, 3) := by decide +kernel
theorem dX4_isThere_4 : decode cX4_isThere 4 = .ok (.iconst (-1), 1) := by decide +kernel
theorem dX4_isThere_5 : decode cX4_isThere 5 = .ok (.if_icmp .eq 7, 3) := by decide +kernel
theorem dX4_isThere_12 : decode cX4_isThere 12 = .ok (.iconst 0, 1) := by decide +kernel
theorem dX4_isThere_13 : decode cX4_isThere 13 = .ok (.ireturn, 1) := by decide +kernel
theorem dX11_gives_28 : decode cX11_gives 28 = .ok (.ifCond .ne 6, 3) := by decide +kernel
theorem dX11_gives_31 : decode cX11_gives 31 = .ok (.bipush (-6), 2) := by decide +kernel
theorem dX11_gives_33 : decode cX11_gives 33 = .ok (.ireturn, 1) := by decide +kernel
theorem dX11_way_0 : decode cX11_way 0 = .ok (.iload_n 1, 1) := by decide +kernel
theorem dX11_way_1 : decode cX11_way 1 = .ok (.invokestatic 122, 3) := by decide +kernel
theorem dX11_way_4 : decode cX11_way 4 = .ok (.ifCond .eq 25, 3) := by decide +kernel
theorem dX11_way_29 : decode cX11_way 29 = .ok (.iconst (-1), 1) := by decide +kernel
theorem dX11_way_30 : decode cX11_way 30 = .ok (.ireturn, 1) := by decide +kernel
theorem dX11_way_7 : decode cX11_way 7 = .ok (.aload_n 0, 1) := by decide +kernel
theorem dX11_way_8 : decode cX11_way 8 = .ok (.iload_n 2, 1) := by decide +kernel
theorem dX11_way_9 : decode cX11_way 9 = .ok (.invokevirtual 126, 3) := by decide +kernel
theorem dX11_way_12 : decode cX11_way 12 = .ok (.ifCond .eq 17, 3) := by decide +kernel
theorem dX11_clear_0 : decode cX11_clear 0 = .ok (.iload_n 1, 1) := by decide +kernel
theorem dX11_clear_1 : decode cX11_clear 1 = .ok (.invokestatic 122, 3) := by decide +kernel
theorem dX11_clear_4 : decode cX11_clear 4 = .ok (.ifCond .eq 14, 3) := by decide +kernel
theorem dX11_clear_18 : decode cX11_clear 18 = .ok (.bipush (-2), 2) := by decide +kernel
theorem dX11_clear_20 : decode cX11_clear 20 = .ok (.ireturn, 1) := by decide +kernel
theorem dX11_clear_7 : decode cX11_clear 7 = .ok (.aload_n 0, 1) := by decide +kernel
theorem dX11_clear_8 : decode cX11_clear 8 = .ok (.getfield 27, 3) := by decide +kernel
theorem dX11_clear_11 : decode cX11_clear 11 = .ok (.iload_n 1, 1) := by decide +kernel
theorem dX11_clear_12 : decode cX11_clear 12 = .ok (.invokevirtual 107, 3) := by decide +kernel
theorem dX11_clear_15 : decode cX11_clear 15 = .ok (.goto 5, 3) := by decide +kernel
theorem dX11_whole_0 : decode cX11_whole 0 = .ok (.iload_n 1, 1) := by decide +kernel
theorem dX11_whole_1 : decode cX11_whole 1 = .ok (.invokestatic 122, 3) := by decide +kernel
theorem dX11_whole_4 : decode cX11_whole 4 = .ok (.ifCond .ne 6, 3) := by decide +kernel
theorem dX11_whole_7 : decode cX11_whole 7 = .ok (.bipush (-2), 2) := by decide +kernel
theorem dX11_whole_9 : decode cX11_whole 9 = .ok (.ireturn, 1) := by decide +kernel
theorem dX11_whole_10 : decode cX11_whole 10 = .ok (.aload_n 0, 1) := by decide +kernel
theorem dX11_whole_11 : decode cX11_whole 11 = .ok (.getfield 44, 3) := by decide +kernel
theorem dX11_whole_14 : decode cX11_whole 14 = .ok (.aload_n 0, 1) := by decide +kernel
theorem dX11_whole_15 : decode cX11_whole 15 = .ok (.getfield 27, 3) := by decide +kernel
theorem dX11_whole_18 : decode cX11_whole 18 = .ok (.getfield 88, 3) := by decide +kernel
theorem dX11_whole_21 : decode cX11_whole 21 = .ok (.aload_n 0, 1) := by decide +kernel
theorem dX11_whole_22 : decode cX11_whole 22 = .ok (.getfield 27, 3) := by decide +kernel
theorem dX11_whole_25 : decode cX11_whole 25 = .ok (.getfield 133, 3) := by decide +kernel
theorem dX11_whole_28 : decode cX11_whole 28 = .ok (.iload_n 1, 1) := by decide +kernel
theorem dX11_whole_29 : decode cX11_whole 29 = .ok (.aaload, 1) := by decide +kernel
theorem dX11_whole_30 : decode cX11_whole 30 = .ok (.invokevirtual 160, 3) := by decide +kernel
theorem dX2_isWhole_0 : decode cX2_isWhole 0 = .ok (.aload_n 0, 1) := by decide +kernel
theorem dX2_isWhole_1 : decode cX2_isWhole 1 = .ok (.aload_n 1, 1) := by decide +kernel
theorem dX2_isWhole_2 : decode cX2_isWhole 2 = .ok (.aload_n 2, 1) := by decide +kernel
theorem dX2_isWhole_3 : decode cX2_isWhole 3 = .ok (.iconst (-1), 1) := by decide +kernel
theorem dX2_isWhole_4 : decode cX2_isWhole 4 = .ok (.invokevirtual 49, 3) := by decide +kernel
theorem dX2_joinCorners_0 : decode cX2_joinCorners 0 = .ok (.aload_n 0, 1) := by decide +kernel
theorem dX2_joinCorners_1 : decode cX2_joinCorners 1 = .ok (.getfield 21, 3) := by decide +kernel
theorem dX2_joinCorners_4 : decode cX2_joinCorners 4 = .ok (.iconst 0, 1) := by decide +kernel
theorem dX2_joinCorners_5 : decode cX2_joinCorners 5 = .ok (.invokestatic 61, 3) := by decide +kernel
theorem dX2_joinCorners_8 : decode cX2_joinCorners 8 = .ok (.aload_n 0, 1) := by decide +kernel
theorem dX2_joinCorners_9 : decode cX2_joinCorners 9 = .ok (.getfield 24, 3) := by decide +kernel
theorem dX2_joinCorners_12 : decode cX2_joinCorners 12 = .ok (.iconst 0, 1) := by decide +kernel
theorem dX2_joinCorners_13 : decode cX2_joinCorners 13 = .ok (.invokestatic 61, 3) := by decide +kernel
theorem dX2_joinCorners_16 : decode cX2_joinCorners 16 = .ok (.iconst 0, 1) := by decide +kernel
theorem dX2_joinCorners_17 : decode cX2_joinCorners 17 = .ok (.istore 4, 2) := by decide +kernel
theorem dX2_joinCorners_19 : decode cX2_joinCorners 19 = .ok (.iload 4, 2) := by decide +kernel
theorem dX2_joinCorners_21 : decode cX2_joinCorners 21 = .ok (.aload_n 1, 1) := by decide +kernel
theorem dX2_joinCorners_22 : decode cX2_joinCorners 22 = .ok (.getfield 46, 3) := by decide +kernel
theorem dX2_joinCorners_25 : decode cX2_joinCorners 25 = .ok (.if_icmp .ge 105, 3) := by decide +kernel
theorem dX2_joinCorners_130 : decode cX2_joinCorners 130 = .ok (.return_, 1) := by decide +kernel
theorem dX2_isWhole_7 : decode cX2_isWhole 7 = .ok (.aload_n 1, 1) := by decide +kernel
theorem dX2_isWhole_8 : decode cX2_isWhole 8 = .ok (.invokevirtual 57, 3) := by decide +kernel
theorem dX8_allCorners_0 : decode cX8_allCorners 0 = .ok (.iconst 1, 1) := by decide +kernel
theorem dX8_allCorners_1 : decode cX8_allCorners 1 = .ok (.aload_n 0, 1) := by decide +kernel
theorem dX8_allCorners_2 : decode cX8_allCorners 2 = .ok (.getfield 15, 3) := by decide +kernel
theorem dX8_allCorners_5 : decode cX8_allCorners 5 = .ok (.ishl, 1) := by decide +kernel
theorem dX8_allCorners_6 : decode cX8_allCorners 6 = .ok (.iconst 1, 1) := by decide +kernel
theorem dX8_allCorners_7 : decode cX8_allCorners 7 = .ok (.isub, 1) := by decide +kernel
theorem dX8_allCorners_8 : decode cX8_allCorners 8 = .ok (.ireturn, 1) := by decide +kernel
theorem dX2_isWhole_11 : decode cX2_isWhole 11 = .ok (.istore_n 3, 1) := by decide +kernel
theorem dX2_isWhole_12 : decode cX2_isWhole 12 = .ok (.aload_n 0, 1) := by decide +kernel
theorem dX2_isWhole_13 : decode cX2_isWhole 13 = .ok (.aload_n 1, 1) := by decide +kernel
theorem dX2_isWhole_14 : decode cX2_isWhole 14 = .ok (.aload_n 0, 1) := by decide +kernel
theorem dX2_isWhole_15 : decode cX2_isWhole 15 = .ok (.getfield 21, 3) := by decide +kernel
theorem dX2_isWhole_18 : decode cX2_isWhole 18 = .ok (.iconst 0, 1) := by decide +kernel
theorem dX2_isWhole_19 : decode cX2_isWhole 19 = .ok (.invokevirtual 53, 3) := by decide +kernel
theorem dX2_spread_0 : decode cX2_spread 0 = .ok (.iconst 1, 1) := by decide +kernel
theorem dX2_spread_1 : decode cX2_spread 1 = .ok (.iload_n 3, 1) := by decide +kernel
theorem dX2_spread_2 : decode cX2_spread 2 = .ok (.ishl, 1) := by decide +kernel
theorem dX2_spread_3 : decode cX2_spread 3 = .ok (.istore 4, 2) := by decide +kernel
theorem dX2_spread_5 : decode cX2_spread 5 = .ok (.iconst 0, 1) := by decide +kernel
theorem dX2_spread_6 : decode cX2_spread 6 = .ok (.istore 5, 2) := by decide +kernel
theorem dX2_spread_8 : decode cX2_spread 8 = .ok (.iload 5, 2) := by decide +kernel
theorem dX2_spread_10 : decode cX2_spread 10 = .ok (.aload_n 1, 1) := by decide +kernel
theorem dX2_spread_11 : decode cX2_spread 11 = .ok (.getfield 73, 3) := by decide +kernel
theorem dX2_spread_14 : decode cX2_spread 14 = .ok (.if_icmp .ge 60, 3) := by decide +kernel
theorem dX2_spread_17 : decode cX2_spread 17 = .ok (.iload 4, 2) := by decide +kernel
theorem dX2_spread_19 : decode cX2_spread 19 = .ok (.istore 6, 2) := by decide +kernel
theorem dX2_spread_21 : decode cX2_spread 21 = .ok (.iconst 0, 1) := by decide +kernel
theorem dX2_spread_22 : decode cX2_spread 22 = .ok (.istore 7, 2) := by decide +kernel
theorem dX2_spread_24 : decode cX2_spread 24 = .ok (.iload 7, 2) := by decide +kernel
theorem dX2_spread_26 : decode cX2_spread 26 = .ok (.aload_n 1, 1) := by decide +kernel
theorem dX2_spread_27 : decode cX2_spread 27 = .ok (.getfield 73, 3) := by decide +kernel
theorem dX2_spread_30 : decode cX2_spread 30 = .ok (.if_icmp .ge 28, 3) := by decide +kernel
theorem dX2_spread_33 : decode cX2_spread 33 = .ok (.iload 4, 2) := by decide +kernel
theorem dX2_spread_35 : decode cX2_spread 35 = .ok (.iload 7, 2) := by decide +kernel
theorem dX2_spread_37 : decode cX2_spread 37 = .ok (.ishr, 1) := by decide +kernel
theorem dX2_spread_38 : decode cX2_spread 38 = .ok (.iconst 1, 1) := by decide +kernel
theorem dX2_spread_39 : decode cX2_spread 39 = .ok (.iand, 1) := by decide +kernel
theorem dX2_spread_40 : decode cX2_spread 40 = .ok (.ifCond .eq 12, 3) := by decide +kernel
theorem dX2_spread_43 : decode cX2_spread 43 = .ok (.iload 4, 2) := by decide +kernel
theorem dX2_spread_45 : decode cX2_spread 45 = .ok (.aload_n 2, 1) := by decide +kernel
theorem dX2_spread_46 : decode cX2_spread 46 = .ok (.iload 7, 2) := by decide +kernel
theorem dX2_spread_48 : decode cX2_spread 48 = .ok (.iaload, 1) := by decide +kernel
theorem dX2_spread_49 : decode cX2_spread 49 = .ok (.ior, 1) := by decide +kernel
theorem dX2_spread_50 : decode cX2_spread 50 = .ok (.istore 4, 2) := by decide +kernel
theorem dX2_spread_52 : decode cX2_spread 52 = .ok (.iinc 7 1, 3) := by decide +kernel
theorem dX2_spread_55 : decode cX2_spread 55 = .ok (.goto (-31), 3) := by decide +kernel
theorem dX2_spread_58 : decode cX2_spread 58 = .ok (.iload 4, 2) := by decide +kernel
theorem dX2_spread_60 : decode cX2_spread 60 = .ok (.iload 6, 2) := by decide +kernel
theorem dX2_spread_62 : decode cX2_spread 62 = .ok (.if_icmp .ne 6, 3) := by decide +kernel
theorem dX2_spread_65 : decode cX2_spread 65 = .ok (.iload 4, 2) := by decide +kernel
theorem dX2_spread_67 : decode cX2_spread 67 = .ok (.ireturn, 1) := by decide +kernel
theorem dX2_isWhole_22 : decode cX2_isWhole 22 = .ok (.iload_n 3, 1) := by decide +kernel
theorem dX2_isWhole_23 : decode cX2_isWhole 23 = .ok (.if_icmp .ne 21, 3) := by decide +kernel
theorem dX2_isWhole_44 : decode cX2_isWhole 44 = .ok (.iconst 0, 1) := by decide +kernel
theorem dX2_isWhole_45 : decode cX2_isWhole 45 = .ok (.ireturn, 1) := by decide +kernel
theorem dX11_whole_33 : decode cX11_whole 33 = .ok (.ifCond .eq 7, 3) := by decide +kernel
theorem dX11_whole_40 : decode cX11_whole 40 = .ok (.iconst 0, 1) := by decide +kernel
theorem dX11_whole_41 : decode cX11_whole 41 = .ok (.ireturn, 1) := by decide +kernel
theorem dX11_can_0 : decode cX11_can 0 = .ok (.iload_n 1, 1) := by decide +kernel
theorem dX11_can_1 : decode cX11_can 1 = .ok (.invokestatic 122, 3) := by decide +kernel
theorem dX11_can_4 : decode cX11_can 4 = .ok (.ifCond .ne 6, 3) := by decide +kernel
theorem dX11_can_7 : decode cX11_can 7 = .ok (.bipush (-2), 2) := by decide +kernel
theorem dX11_can_9 : decode cX11_can 9 = .ok (.ireturn, 1) := by decide +kernel
theorem dX11_can_10 : decode cX11_can 10 = .ok (.aload_n 0, 1) := by decide +kernel
theorem dX11_can_11 : decode cX11_can 11 = .ok (.getfield 53, 3) := by decide +kernel
theorem dX11_can_14 : decode cX11_can 14 = .ok (.aload_n 0, 1) := by decide +kernel
theorem dX11_can_15 : decode cX11_can 15 = .ok (.getfield 27, 3) := by decide +kernel
theorem dX11_can_18 : decode cX11_can 18 = .ok (.getfield 88, 3) := by decide +kernel
theorem dX11_can_21 : decode cX11_can 21 = .ok (.aload_n 0, 1) := by decide +kernel
theorem dX11_can_22 : decode cX11_can 22 = .ok (.getfield 27, 3) := by decide +kernel
theorem dX11_can_25 : decode cX11_can 25 = .ok (.getfield 133, 3) := by decide +kernel
theorem dX11_can_28 : decode cX11_can 28 = .ok (.iload_n 1, 1) := by decide +kernel
theorem dX11_can_29 : decode cX11_can 29 = .ok (.aaload, 1) := by decide +kernel
theorem dX11_can_30 : decode cX11_can 30 = .ok (.invokevirtual 164, 3) := by decide +kernel
theorem dX0_canEnd_0 : decode cX0_canEnd 0 = .ok (.aload_n 1, 1) := by decide +kernel
theorem dX0_canEnd_1 : decode cX0_canEnd 1 = .ok (.getfield 19, 3) := by decide +kernel
theorem dX0_canEnd_4 : decode cX0_canEnd 4 = .ok (.aload_n 1, 1) := by decide +kernel
theorem dX0_canEnd_5 : decode cX0_canEnd 5 = .ok (.aload_n 2, 1) := by decide +kernel
theorem dX0_canEnd_6 : decode cX0_canEnd 6 = .ok (.invokevirtual 25, 3) := by decide +kernel
theorem dX8_openAlleys_0 : decode cX8_openAlleys 0 = .ok (.iconst 0, 1) := by decide +kernel
theorem dX8_openAlleys_1 : decode cX8_openAlleys 1 = .ok (.istore_n 2, 1) := by decide +kernel
theorem dX8_openAlleys_2 : decode cX8_openAlleys 2 = .ok (.iconst 0, 1) := by decide +kernel
theorem dX8_openAlleys_3 : decode cX8_openAlleys 3 = .ok (.istore_n 3, 1) := by decide +kernel
theorem dX8_openAlleys_4 : decode cX8_openAlleys 4 = .ok (.iload_n 3, 1) := by decide +kernel
theorem dX8_openAlleys_5 : decode cX8_openAlleys 5 = .ok (.aload_n 0, 1) := by decide +kernel
theorem dX8_openAlleys_6 : decode cX8_openAlleys 6 = .ok (.getfield 18, 3) := by decide +kernel
theorem dX8_openAlleys_9 : decode cX8_openAlleys 9 = .ok (.if_icmp .ge 21, 3) := by decide +kernel
theorem dX8_openAlleys_30 : decode cX8_openAlleys 30 = .ok (.iload_n 2, 1) := by decide +kernel
theorem dX8_openAlleys_31 : decode cX8_openAlleys 31 = .ok (.ireturn, 1) := by decide +kernel
theorem dX0_canEnd_9 : decode cX0_canEnd 9 = .ok (.iand, 1) := by decide +kernel
theorem dX0_canEnd_10 : decode cX0_canEnd 10 = .ok (.ifCond .ne 19, 3) := by decide +kernel
theorem dX0_canEnd_13 : decode cX0_canEnd 13 = .ok (.aload_n 0, 1) := by decide +kernel
theorem dX0_canEnd_14 : decode cX0_canEnd 14 = .ok (.getfield 15, 3) := by decide +kernel
theorem dX0_canEnd_17 : decode cX0_canEnd 17 = .ok (.aload_n 1, 1) := by decide +kernel
theorem dX0_canEnd_18 : decode cX0_canEnd 18 = .ok (.aload_n 2, 1) := by decide +kernel
theorem dX0_canEnd_19 : decode cX0_canEnd 19 = .ok (.invokevirtual 29, 3) := by decide +kernel
theorem dX0_canEnd_22 : decode cX0_canEnd 22 = .ok (.ifCond .eq 7, 3) := by decide +kernel
theorem dX0_canEnd_29 : decode cX0_canEnd 29 = .ok (.iconst 0, 1) := by decide +kernel
theorem dX0_canEnd_30 : decode cX0_canEnd 30 = .ok (.ireturn, 1) := by decide +kernel
theorem dX11_can_33 : decode cX11_can 33 = .ok (.ifCond .eq 7, 3) := by decide +kernel
theorem dX11_can_40 : decode cX11_can 40 = .ok (.iconst 0, 1) := by decide +kernel
theorem dX11_can_41 : decode cX11_can 41 = .ok (.ireturn, 1) := by decide +kernel
theorem dX11_bar_0 : decode cX11_bar 0 = .ok (.iload_n 1, 1) := by decide +kernel
theorem dX11_bar_1 : decode cX11_bar 1 = .ok (.invokestatic 122, 3) := by decide +kernel
theorem dX11_bar_4 : decode cX11_bar 4 = .ok (.ifCond .ne 6, 3) := by decide +kernel
theorem dX11_bar_7 : decode cX11_bar 7 = .ok (.bipush (-2), 2) := by decide +kernel
theorem dX11_bar_9 : decode cX11_bar 9 = .ok (.ireturn, 1) := by decide +kernel
theorem dX11_bar_10 : decode cX11_bar 10 = .ok (.aload_n 0, 1) := by decide +kernel
theorem dX11_bar_11 : decode cX11_bar 11 = .ok (.getfield 44, 3) := by decide +kernel
theorem dX11_bar_14 : decode cX11_bar 14 = .ok (.aload_n 0, 1) := by decide +kernel
theorem dX11_bar_15 : decode cX11_bar 15 = .ok (.getfield 27, 3) := by decide +kernel
theorem dX11_bar_18 : decode cX11_bar 18 = .ok (.getfield 88, 3) := by decide +kernel
theorem dX11_bar_21 : decode cX11_bar 21 = .ok (.aload_n 0, 1) := by decide +kernel
theorem dX11_bar_22 : decode cX11_bar 22 = .ok (.getfield 27, 3) := by decide +kernel
theorem dX11_bar_25 : decode cX11_bar 25 = .ok (.getfield 133, 3) := by decide +kernel
theorem dX11_bar_28 : decode cX11_bar 28 = .ok (.iload_n 1, 1) := by decide +kernel
theorem dX11_bar_29 : decode cX11_bar 29 = .ok (.aaload, 1) := by decide +kernel
theorem dX11_bar_30 : decode cX11_bar 30 = .ok (.invokevirtual 160, 3) := by decide +kernel
theorem dX11_bar_33 : decode cX11_bar 33 = .ok (.ifCond .eq 29, 3) := by decide +kernel
theorem dX11_bar_62 : decode cX11_bar 62 = .ok (.bipush (-3), 2) := by decide +kernel
theorem dX11_bar_64 : decode cX11_bar 64 = .ok (.ireturn, 1) := by decide +kernel
theorem dX11_cut_0 : decode cX11_cut 0 = .ok (.iload_n 1, 1) := by decide +kernel
theorem dX11_cut_1 : decode cX11_cut 1 = .ok (.invokestatic 122, 3) := by decide +kernel
theorem dX11_cut_4 : decode cX11_cut 4 = .ok (.ifCond .ne 6, 3) := by decide +kernel
theorem dX11_cut_7 : decode cX11_cut 7 = .ok (.bipush (-2), 2) := by decide +kernel
theorem dX11_cut_9 : decode cX11_cut 9 = .ok (.ireturn, 1) := by decide +kernel
theorem dX11_cut_10 : decode cX11_cut 10 = .ok (.aload_n 0, 1) := by decide +kernel
theorem dX11_cut_11 : decode cX11_cut 11 = .ok (.getfield 27, 3) := by decide +kernel
theorem dX11_cut_14 : decode cX11_cut 14 = .ok (.getfield 88, 3) := by decide +kernel
theorem dX11_cut_17 : decode cX11_cut 17 = .ok (.invokevirtual 171, 3) := by decide +kernel
theorem dX11_cut_20 : decode cX11_cut 20 = .ok (.istore_n 2, 1) := by decide +kernel
theorem dX11_cut_21 : decode cX11_cut 21 = .ok (.iconst 0, 1) := by decide +kernel
theorem dX11_cut_22 : decode cX11_cut 22 = .ok (.istore_n 3, 1) := by decide +kernel
theorem dX11_cut_23 : decode cX11_cut 23 = .ok (.iload_n 3, 1) := by decide +kernel
theorem dX11_cut_24 : decode cX11_cut 24 = .ok (.aload_n 0, 1) := by decide +kernel
theorem dX11_cut_25 : decode cX11_cut 25 = .ok (.getfield 27, 3) := by decide +kernel
theorem dX11_cut_28 : decode cX11_cut 28 = .ok (.getfield 88, 3) := by decide +kernel
theorem dX11_cut_31 : decode cX11_cut 31 = .ok (.getfield 175, 3) := by decide +kernel
theorem dX11_cut_34 : decode cX11_cut 34 = .ok (.if_icmp .ge 44, 3) := by decide +kernel
theorem dX11_cut_37 : decode cX11_cut 37 = .ok (.aload_n 0, 1) := by decide +kernel
theorem dX11_cut_38 : decode cX11_cut 38 = .ok (.getfield 44, 3) := by decide +kernel
theorem dX11_cut_41 : decode cX11_cut 41 = .ok (.aload_n 0, 1) := by decide +kernel
theorem dX11_cut_42 : decode cX11_cut 42 = .ok (.getfield 27, 3) := by decide +kernel
theorem dX11_cut_45 : decode cX11_cut 45 = .ok (.getfield 88, 3) := by decide +kernel
theorem dX11_cut_48 : decode cX11_cut 48 = .ok (.aload_n 0, 1) := by decide +kernel
theorem dX11_cut_49 : decode cX11_cut 49 = .ok (.getfield 27, 3) := by decide +kernel
theorem dX11_cut_52 : decode cX11_cut 52 = .ok (.getfield 133, 3) := by decide +kernel
theorem dX11_cut_55 : decode cX11_cut 55 = .ok (.iload_n 1, 1) := by decide +kernel
theorem dX11_cut_56 : decode cX11_cut 56 = .ok (.aaload, 1) := by decide +kernel
theorem dX11_cut_57 : decode cX11_cut 57 = .ok (.iload_n 3, 1) := by decide +kernel
theorem dX11_cut_58 : decode cX11_cut 58 = .ok (.invokevirtual 178, 3) := by decide +kernel
theorem dX2_reachedFrom_0 : decode cX2_reachedFrom 0 = .ok (.aload_n 0, 1) := by decide +kernel
theorem dX2_reachedFrom_1 : decode cX2_reachedFrom 1 = .ok (.aload_n 1, 1) := by decide +kernel
theorem dX2_reachedFrom_2 : decode cX2_reachedFrom 2 = .ok (.aload_n 2, 1) := by decide +kernel
theorem dX2_reachedFrom_3 : decode cX2_reachedFrom 3 = .ok (.iconst (-1), 1) := by decide +kernel
theorem dX2_reachedFrom_4 : decode cX2_reachedFrom 4 = .ok (.invokevirtual 49, 3) := by decide +kernel
theorem dX2_reachedFrom_7 : decode cX2_reachedFrom 7 = .ok (.aload_n 0, 1) := by decide +kernel
theorem dX2_reachedFrom_8 : decode cX2_reachedFrom 8 = .ok (.aload_n 1, 1) := by decide +kernel
theorem dX2_reachedFrom_9 : decode cX2_reachedFrom 9 = .ok (.aload_n 0, 1) := by decide +kernel
theorem dX2_reachedFrom_10 : decode cX2_reachedFrom 10 = .ok (.getfield 21, 3) := by decide +kernel
theorem dX2_reachedFrom_13 : decode cX2_reachedFrom 13 = .ok (.iload_n 3, 1) := by decide +kernel
theorem dX2_reachedFrom_14 : decode cX2_reachedFrom 14 = .ok (.invokevirtual 53, 3) := by decide +kernel
theorem dX2_reachedFrom_17 : decode cX2_reachedFrom 17 = .ok (.ireturn, 1) := by decide +kernel
theorem dX11_cut_61 : decode cX11_cut 61 = .ok (.istore 4, 2) := by decide +kernel
theorem dX11_cut_63 : decode cX11_cut 63 = .ok (.iload 4, 2) := by decide +kernel
theorem dX11_cut_65 : decode cX11_cut 65 = .ok (.iload_n 2, 1) := by decide +kernel
theorem dX11_cut_66 : decode cX11_cut 66 = .ok (.if_icmp .eq 6, 3) := by decide +kernel
theorem dX11_cut_69 : decode cX11_cut 69 = .ok (.iload 4, 2) := by decide +kernel
theorem dX11_cut_71 : decode cX11_cut 71 = .ok (.ireturn, 1) := by decide +kernel
theorem dX11_show_0 : decode cX11_show 0 = .ok (.iload_n 1, 1) := by decide +kernel
theorem dX11_show_1 : decode cX11_show 1 = .ok (.invokestatic 122, 3) := by decide +kernel
theorem dX11_show_4 : decode cX11_show 4 = .ok (.ifCond .eq 29, 3) := by decide +kernel
theorem dX11_show_33 : decode cX11_show 33 = .ok (.bipush (-2), 2) := by decide +kernel
theorem dX11_show_35 : decode cX11_show 35 = .ok (.ireturn, 1) := by decide +kernel
theorem dX11_show_7 : decode cX11_show 7 = .ok (.aload_n 0, 1) := by decide +kernel
theorem dX11_show_8 : decode cX11_show 8 = .ok (.getfield 53, 3) := by decide +kernel
theorem dX11_show_11 : decode cX11_show 11 = .ok (.aload_n 0, 1) := by decide +kernel
theorem dX11_show_12 : decode cX11_show 12 = .ok (.getfield 27, 3) := by decide +kernel
theorem dX11_show_15 : decode cX11_show 15 = .ok (.getfield 88, 3) := by decide +kernel
theorem dX11_show_18 : decode cX11_show 18 = .ok (.aload_n 0, 1) := by decide +kernel
theorem dX11_show_19 : decode cX11_show 19 = .ok (.getfield 27, 3) := by decide +kernel
theorem dX11_show_22 : decode cX11_show 22 = .ok (.getfield 133, 3) := by decide +kernel
theorem dX11_show_25 : decode cX11_show 25 = .ok (.iload_n 1, 1) := by decide +kernel
theorem dX11_show_26 : decode cX11_show 26 = .ok (.aaload, 1) := by decide +kernel
theorem dX11_show_27 : decode cX11_show 27 = .ok (.invokevirtual 182, 3) := by decide +kernel
theorem dX0_endAsShown_0 : decode cX0_endAsShown 0 = .ok (.aload_n 0, 1) := by decide +kernel
theorem dX0_endAsShown_1 : decode cX0_endAsShown 1 = .ok (.aload_n 1, 1) := by decide +kernel
theorem dX0_endAsShown_2 : decode cX0_endAsShown 2 = .ok (.aload_n 2, 1) := by decide +kernel
theorem dX0_endAsShown_3 : decode cX0_endAsShown 3 = .ok (.invokevirtual 38, 3) := by decide +kernel
theorem dX0_endAsShown_6 : decode cX0_endAsShown 6 = .ok (.ifCond .ne 5, 3) := by decide +kernel
theorem dX0_endAsShown_9 : decode cX0_endAsShown 9 = .ok (.iconst (-1), 1) := by decide +kernel
theorem dX0_endAsShown_10 : decode cX0_endAsShown 10 = .ok (.ireturn, 1) := by decide +kernel
theorem dX11_show_30 : decode cX11_show 30 = .ok (.goto 5, 3) := by decide +kernel
theorem dX11_forced_0 : decode cX11_forced 0 = .ok (.iload_n 1, 1) := by decide +kernel
theorem dX11_forced_1 : decode cX11_forced 1 = .ok (.invokestatic 122, 3) := by decide +kernel
theorem dX11_forced_4 : decode cX11_forced 4 = .ok (.ifCond .eq 29, 3) := by decide +kernel
theorem dX11_forced_33 : decode cX11_forced 33 = .ok (.bipush (-2), 2) := by decide +kernel
theorem dX11_forced_35 : decode cX11_forced 35 = .ok (.ireturn, 1) := by decide +kernel
theorem dX11_forced_7 : decode cX11_forced 7 = .ok (.aload_n 0, 1) := by decide +kernel
theorem dX11_forced_8 : decode cX11_forced 8 = .ok (.getfield 53, 3) := by decide +kernel
theorem dX11_forced_11 : decode cX11_forced 11 = .ok (.aload_n 0, 1) := by decide +kernel
theorem dX11_forced_12 : decode cX11_forced 12 = .ok (.getfield 27, 3) := by decide +kernel
theorem dX11_forced_15 : decode cX11_forced 15 = .ok (.getfield 88, 3) := by decide +kernel
theorem dX11_forced_18 : decode cX11_forced 18 = .ok (.aload_n 0, 1) := by decide +kernel
theorem dX11_forced_19 : decode cX11_forced 19 = .ok (.getfield 27, 3) := by decide +kernel
theorem dX11_forced_22 : decode cX11_forced 22 = .ok (.getfield 133, 3) := by decide +kernel
theorem dX11_forced_25 : decode cX11_forced 25 = .ok (.iload_n 1, 1) := by decide +kernel
theorem dX11_forced_26 : decode cX11_forced 26 = .ok (.aaload, 1) := by decide +kernel
theorem dX11_forced_27 : decode cX11_forced 27 = .ok (.invokevirtual 185, 3) := by decide +kernel
theorem dX0_forcedAlleys_0 : decode cX0_forcedAlleys 0 = .ok (.aload_n 0, 1) := by decide +kernel
theorem dX0_forcedAlleys_1 : decode cX0_forcedAlleys 1 = .ok (.aload_n 1, 1) := by decide +kernel
theorem dX0_forcedAlleys_2 : decode cX0_forcedAlleys 2 = .ok (.aload_n 2, 1) := by decide +kernel
theorem dX0_forcedAlleys_3 : decode cX0_forcedAlleys 3 = .ok (.invokevirtual 38, 3) := by decide +kernel
theorem dX0_forcedAlleys_6 : decode cX0_forcedAlleys 6 = .ok (.ifCond .ne 5, 3) := by decide +kernel
theorem dX0_forcedAlleys_9 : decode cX0_forcedAlleys 9 = .ok (.iconst (-1), 1) := by decide +kernel
theorem dX0_forcedAlleys_10 : decode cX0_forcedAlleys 10 = .ok (.ireturn, 1) := by decide +kernel
theorem dX11_forced_30 : decode cX11_forced 30 = .ok (.goto 5, 3) := by decide +kernel
theorem dX11_forcedWay_0 : decode cX11_forcedWay 0 = .ok (.iload_n 1, 1) := by decide +kernel
theorem dX11_forcedWay_1 : decode cX11_forcedWay 1 = .ok (.invokestatic 122, 3) := by decide +kernel
theorem dX11_forcedWay_4 : decode cX11_forcedWay 4 = .ok (.ifCond .eq 11, 3) := by decide +kernel
theorem dX11_forcedWay_15 : decode cX11_forcedWay 15 = .ok (.iconst (-1), 1) := by decide +kernel
theorem dX11_forcedWay_16 : decode cX11_forcedWay 16 = .ok (.ireturn, 1) := by decide +kernel
theorem dX11_forcedWay_7 : decode cX11_forcedWay 7 = .ok (.aload_n 0, 1) := by decide +kernel
theorem dX11_forcedWay_8 : decode cX11_forcedWay 8 = .ok (.iload_n 2, 1) := by decide +kernel
theorem dX11_forcedWay_9 : decode cX11_forcedWay 9 = .ok (.invokevirtual 126, 3) := by decide +kernel
theorem dX11_forcedWay_12 : decode cX11_forcedWay 12 = .ok (.ifCond .ne 5, 3) := by decide +kernel
theorem dX11_minutes_0 : decode cX11_minutes 0 = .ok (.iload_n 1, 1) := by decide +kernel
theorem dX11_minutes_1 : decode cX11_minutes 1 = .ok (.invokestatic 122, 3) := by decide +kernel
theorem dX11_minutes_4 : decode cX11_minutes 4 = .ok (.ifCond .eq 19, 3) := by decide +kernel
theorem dX11_minutes_23 : decode cX11_minutes 23 = .ok (.bipush (-2), 2) := by decide +kernel
theorem dX11_minutes_25 : decode cX11_minutes 25 = .ok (.ireturn, 1) := by decide +kernel
theorem dX11_minutes_7 : decode cX11_minutes 7 = .ok (.aload_n 0, 1) := by decide +kernel
theorem dX11_minutes_8 : decode cX11_minutes 8 = .ok (.iload_n 2, 1) := by decide +kernel
theorem dX11_minutes_9 : decode cX11_minutes 9 = .ok (.invokevirtual 191, 3) := by decide +kernel
theorem dX11_isCorner_0 : decode cX11_isCorner 0 = .ok (.iload_n 1, 1) := by decide +kernel
theorem dX11_isCorner_1 : decode cX11_isCorner 1 = .ok (.ifCond .lt 21, 3) := by decide +kernel
theorem dX11_isCorner_22 : decode cX11_isCorner 22 = .ok (.iconst 0, 1) := by decide +kernel
theorem dX11_isCorner_23 : decode cX11_isCorner 23 = .ok (.ireturn, 1) := by decide +kernel
theorem dX11_isCorner_4 : decode cX11_isCorner 4 = .ok (.iload_n 1, 1) := by decide +kernel
theorem dX11_isCorner_5 : decode cX11_isCorner 5 = .ok (.aload_n 0, 1) := by decide +kernel
theorem dX11_isCorner_6 : decode cX11_isCorner 6 = .ok (.getfield 27, 3) := by decide +kernel
theorem dX11_isCorner_9 : decode cX11_isCorner 9 = .ok (.getfield 88, 3) := by decide +kernel
theorem dX11_isCorner_12 : decode cX11_isCorner 12 = .ok (.getfield 175, 3) := by decide +kernel
theorem dX11_isCorner_15 : decode cX11_isCorner 15 = .ok (.if_icmp .ge 7, 3) := by decide +kernel
theorem dX11_isCorner_18 : decode cX11_isCorner 18 = .ok (.iconst 1, 1) := by decide +kernel
theorem dX11_isCorner_19 : decode cX11_isCorner 19 = .ok (.goto 4, 3) := by decide +kernel
theorem dX11_minutes_12 : decode cX11_minutes 12 = .ok (.ifCond .eq 11, 3) := by decide +kernel
theorem dX11_minutes_15 : decode cX11_minutes 15 = .ok (.aload_n 0, 1) := by decide +kernel
theorem dX11_minutes_16 : decode cX11_minutes 16 = .ok (.iload_n 3, 1) := by decide +kernel
theorem dX11_minutes_17 : decode cX11_minutes 17 = .ok (.invokevirtual 191, 3) := by decide +kernel
theorem dX11_minutes_20 : decode cX11_minutes 20 = .ok (.ifCond .ne 6, 3) := by decide +kernel
theorem dX11_minutes_26 : decode cX11_minutes 26 = .ok (.aload_n 0, 1) := by decide +kernel
theorem dX11_minutes_27 : decode cX11_minutes 27 = .ok (.getfield 44, 3) := by decide +kernel
theorem dX11_minutes_30 : decode cX11_minutes 30 = .ok (.aload_n 0, 1) := by decide +kernel
theorem dX11_minutes_31 : decode cX11_minutes 31 = .ok (.getfield 27, 3) := by decide +kernel
theorem dX11_minutes_34 : decode cX11_minutes 34 = .ok (.getfield 88, 3) := by decide +kernel
theorem dX11_minutes_37 : decode cX11_minutes 37 = .ok (.aload_n 0, 1) := by decide +kernel
theorem dX11_minutes_38 : decode cX11_minutes 38 = .ok (.getfield 27, 3) := by decide +kernel
theorem dX11_minutes_41 : decode cX11_minutes 41 = .ok (.getfield 133, 3) := by decide +kernel
theorem dX11_minutes_44 : decode cX11_minutes 44 = .ok (.iload_n 1, 1) := by decide +kernel
theorem dX11_minutes_45 : decode cX11_minutes 45 = .ok (.aaload, 1) := by decide +kernel
theorem dX11_minutes_46 : decode cX11_minutes 46 = .ok (.iload_n 2, 1) := by decide +kernel
theorem dX11_minutes_47 : decode cX11_minutes 47 = .ok (.iload_n 3, 1) := by decide +kernel
theorem dX11_minutes_48 : decode cX11_minutes 48 = .ok (.invokevirtual 194, 3) := by decide +kernel
theorem dX2_between_0 : decode cX2_between 0 = .ok (.aload_n 0, 1) := by decide +kernel
theorem dX2_between_1 : decode cX2_between 1 = .ok (.aload_n 1, 1) := by decide +kernel
theorem dX2_between_2 : decode cX2_between 2 = .ok (.aload_n 2, 1) := by decide +kernel
theorem dX2_between_3 : decode cX2_between 3 = .ok (.iload 4, 2) := by decide +kernel
theorem dX2_between_5 : decode cX2_between 5 = .ok (.iconst 0, 1) := by decide +kernel
theorem dX2_between_6 : decode cX2_between 6 = .ok (.invokevirtual 98, 3) := by decide +kernel
theorem dX2_between_9 : decode cX2_between 9 = .ok (.aload_n 0, 1) := by decide +kernel
theorem dX2_between_10 : decode cX2_between 10 = .ok (.getfield 9, 3) := by decide +kernel
theorem dX2_between_13 : decode cX2_between 13 = .ok (.iload_n 3, 1) := by decide +kernel
theorem dX2_between_14 : decode cX2_between 14 = .ok (.iaload, 1) := by decide +kernel
theorem dX2_between_15 : decode cX2_between 15 = .ok (.ireturn, 1) := by decide +kernel
theorem dX11_minutes_51 : decode cX11_minutes 51 = .ok (.invokestatic 198, 3) := by decide +kernel
theorem dX11_orNone_0 : decode cX11_orNone 0 = .ok (.iload_n 0, 1) := by decide +kernel
theorem dX11_orNone_1 : decode cX11_orNone 1 = .ok (.ldc_w 411, 3) := by decide +kernel
theorem dX11_orNone_4 : decode cX11_orNone 4 = .ok (.if_icmp .lt 7, 3) := by decide +kernel
theorem dX11_orNone_11 : decode cX11_orNone 11 = .ok (.iload_n 0, 1) := by decide +kernel
theorem dX11_orNone_12 : decode cX11_orNone 12 = .ok (.ireturn, 1) := by decide +kernel
theorem dX11_minutes_54 : decode cX11_minutes 54 = .ok (.ireturn, 1) := by decide +kernel
theorem dX11_orNone_7 : decode cX11_orNone 7 = .ok (.iconst (-1), 1) := by decide +kernel
theorem dX11_orNone_8 : decode cX11_orNone 8 = .ok (.goto 4, 3) := by decide +kernel
theorem dX11_round_0 : decode cX11_round 0 = .ok (.iload_n 1, 1) := by decide +kernel
theorem dX11_round_1 : decode cX11_round 1 = .ok (.invokestatic 122, 3) := by decide +kernel
theorem dX11_round_4 : decode cX11_round 4 = .ok (.ifCond .eq 11, 3) := by decide +kernel
theorem dX11_round_15 : decode cX11_round 15 = .ok (.bipush (-2), 2) := by decide +kernel
theorem dX11_round_17 : decode cX11_round 17 = .ok (.ireturn, 1) := by decide +kernel
theorem dX11_round_7 : decode cX11_round 7 = .ok (.aload_n 0, 1) := by decide +kernel
theorem dX11_round_8 : decode cX11_round 8 = .ok (.iload_n 2, 1) := by decide +kernel
theorem dX11_round_9 : decode cX11_round 9 = .ok (.invokevirtual 201, 3) := by decide +kernel
theorem dX11_isJourney_0 : decode cX11_isJourney 0 = .ok (.iload_n 1, 1) := by decide +kernel
theorem dX11_isJourney_1 : decode cX11_isJourney 1 = .ok (.ifCond .lt 24, 3) := by decide +kernel
theorem dX11_isJourney_25 : decode cX11_isJourney 25 = .ok (.iconst 0, 1) := by decide +kernel
theorem dX11_isJourney_26 : decode cX11_isJourney 26 = .ok (.ireturn, 1) := by decide +kernel
theorem dX11_isJourney_4 : decode cX11_isJourney 4 = .ok (.iload_n 1, 1) := by decide +kernel
theorem dX11_isJourney_5 : decode cX11_isJourney 5 = .ok (.aload_n 0, 1) := by decide +kernel
theorem dX11_isJourney_6 : decode cX11_isJourney 6 = .ok (.getfield 27, 3) := by decide +kernel
theorem dX11_isJourney_9 : decode cX11_isJourney 9 = .ok (.getfield 88, 3) := by decide +kernel
theorem dX11_isJourney_12 : decode cX11_isJourney 12 = .ok (.getfield 287, 3) := by decide +kernel
theorem dX11_isJourney_15 : decode cX11_isJourney 15 = .ok (.getfield 381, 3) := by decide +kernel
theorem dX11_isJourney_18 : decode cX11_isJourney 18 = .ok (.if_icmp .ge 7, 3) := by decide +kernel
theorem dX11_round_12 : decode cX11_round 12 = .ok (.ifCond .ne 6, 3) := by decide +kernel
theorem dX11_sum_0 : decode cX11_sum 0 = .ok (.iload_n 1, 1) := by decide +kernel
theorem dX11_sum_1 : decode cX11_sum 1 = .ok (.invokestatic 122, 3) := by decide +kernel
theorem dX11_sum_4 : decode cX11_sum 4 = .ok (.ifCond .eq 32, 3) := by decide +kernel
theorem dX11_sum_36 : decode cX11_sum 36 = .ok (.bipush (-2), 2) := by decide +kernel
theorem dX11_sum_38 : decode cX11_sum 38 = .ok (.ireturn, 1) := by decide +kernel
theorem dX11_sum_7 : decode cX11_sum 7 = .ok (.aload_n 0, 1) := by decide +kernel
theorem dX11_sum_8 : decode cX11_sum 8 = .ok (.getfield 44, 3) := by decide +kernel
theorem dX11_sum_11 : decode cX11_sum 11 = .ok (.aload_n 0, 1) := by decide +kernel
theorem dX11_sum_12 : decode cX11_sum 12 = .ok (.getfield 27, 3) := by decide +kernel
theorem dX11_sum_15 : decode cX11_sum 15 = .ok (.getfield 88, 3) := by decide +kernel
theorem dX11_sum_18 : decode cX11_sum 18 = .ok (.aload_n 0, 1) := by decide +kernel
theorem dX11_sum_19 : decode cX11_sum 19 = .ok (.getfield 27, 3) := by decide +kernel
theorem dX11_sum_22 : decode cX11_sum 22 = .ok (.getfield 133, 3) := by decide +kernel
theorem dX11_sum_25 : decode cX11_sum 25 = .ok (.iload_n 1, 1) := by decide +kernel
theorem dX11_sum_26 : decode cX11_sum 26 = .ok (.aaload, 1) := by decide +kernel
theorem dX11_sum_27 : decode cX11_sum 27 = .ok (.iconst 0, 1) := by decide +kernel
theorem dX11_sum_28 : decode cX11_sum 28 = .ok (.ldc 207, 2) := by decide +kernel
theorem dX11_sum_30 : decode cX11_sum 30 = .ok (.invokevirtual 208, 3) := by decide +kernel
theorem dX2_sumOf_0 : decode cX2_sumOf 0 = .ok (.iconst 0, 1) := by decide +kernel
theorem dX2_sumOf_1 : decode cX2_sumOf 1 = .ok (.istore 5, 2) := by decide +kernel
theorem dX2_sumOf_3 : decode cX2_sumOf 3 = .ok (.iconst 0, 1) := by decide +kernel
theorem dX2_sumOf_4 : decode cX2_sumOf 4 = .ok (.istore 6, 2) := by decide +kernel
theorem dX2_sumOf_6 : decode cX2_sumOf 6 = .ok (.iload 6, 2) := by decide +kernel
theorem dX2_sumOf_8 : decode cX2_sumOf 8 = .ok (.aload_n 1, 1) := by decide +kernel
theorem dX2_sumOf_9 : decode cX2_sumOf 9 = .ok (.getfield 111, 3) := by decide +kernel
theorem dX2_sumOf_12 : decode cX2_sumOf 12 = .ok (.getfield 119, 3) := by decide +kernel
theorem dX2_sumOf_15 : decode cX2_sumOf 15 = .ok (.if_icmp .ge 120, 3) := by decide +kernel
theorem dX2_sumOf_135 : decode cX2_sumOf 135 = .ok (.iload 5, 2) := by decide +kernel
theorem dX2_sumOf_137 : decode cX2_sumOf 137 = .ok (.ireturn, 1) := by decide +kernel
theorem dX11_sum_33 : decode cX11_sum 33 = .ok (.goto 5, 3) := by decide +kernel
theorem dX11_worst_0 : decode cX11_worst 0 = .ok (.iload_n 1, 1) := by decide +kernel
theorem dX11_worst_1 : decode cX11_worst 1 = .ok (.invokestatic 122, 3) := by decide +kernel
theorem dX11_worst_4 : decode cX11_worst 4 = .ok (.ifCond .eq 31, 3) := by decide +kernel
theorem dX11_worst_35 : decode cX11_worst 35 = .ok (.bipush (-2), 2) := by decide +kernel
theorem dX11_worst_37 : decode cX11_worst 37 = .ok (.ireturn, 1) := by decide +kernel
theorem dX11_worst_7 : decode cX11_worst 7 = .ok (.aload_n 0, 1) := by decide +kernel
theorem dX11_worst_8 : decode cX11_worst 8 = .ok (.getfield 44, 3) := by decide +kernel
theorem dX11_worst_11 : decode cX11_worst 11 = .ok (.aload_n 0, 1) := by decide +kernel
theorem dX11_worst_12 : decode cX11_worst 12 = .ok (.getfield 27, 3) := by decide +kernel
theorem dX11_worst_15 : decode cX11_worst 15 = .ok (.getfield 88, 3) := by decide +kernel
theorem dX11_worst_18 : decode cX11_worst 18 = .ok (.aload_n 0, 1) := by decide +kernel
theorem dX11_worst_19 : decode cX11_worst 19 = .ok (.getfield 27, 3) := by decide +kernel
theorem dX11_worst_22 : decode cX11_worst 22 = .ok (.getfield 133, 3) := by decide +kernel
theorem dX11_worst_25 : decode cX11_worst 25 = .ok (.iload_n 1, 1) := by decide +kernel
theorem dX11_worst_26 : decode cX11_worst 26 = .ok (.aaload, 1) := by decide +kernel
theorem dX11_worst_27 : decode cX11_worst 27 = .ok (.ldc 207, 2) := by decide +kernel
theorem dX11_worst_29 : decode cX11_worst 29 = .ok (.invokevirtual 212, 3) := by decide +kernel
theorem dX2_worstOf_0 : decode cX2_worstOf 0 = .ok (.iconst 0, 1) := by decide +kernel
theorem dX2_worstOf_1 : decode cX2_worstOf 1 = .ok (.istore 4, 2) := by decide +kernel
theorem dX2_worstOf_3 : decode cX2_worstOf 3 = .ok (.iconst 0, 1) := by decide +kernel
theorem dX2_worstOf_4 : decode cX2_worstOf 4 = .ok (.istore 5, 2) := by decide +kernel
theorem dX2_worstOf_6 : decode cX2_worstOf 6 = .ok (.iload 5, 2) := by decide +kernel
theorem dX2_worstOf_8 : decode cX2_worstOf 8 = .ok (.aload_n 1, 1) := by decide +kernel
theorem dX2_worstOf_9 : decode cX2_worstOf 9 = .ok (.getfield 111, 3) := by decide +kernel
theorem dX2_worstOf_12 : decode cX2_worstOf 12 = .ok (.getfield 119, 3) := by decide +kernel
theorem dX2_worstOf_15 : decode cX2_worstOf 15 = .ok (.if_icmp .ge 42, 3) := by decide +kernel
theorem dX2_worstOf_57 : decode cX2_worstOf 57 = .ok (.iload 4, 2) := by decide +kernel
theorem dX2_worstOf_59 : decode cX2_worstOf 59 = .ok (.ireturn, 1) := by decide +kernel
theorem dX11_worst_32 : decode cX11_worst 32 = .ok (.goto 5, 3) := by decide +kernel
theorem dX11_best_0 : decode cX11_best 0 = .ok (.iload_n 1, 1) := by decide +kernel
theorem dX11_best_1 : decode cX11_best 1 = .ok (.invokestatic 122, 3) := by decide +kernel
theorem dX11_best_4 : decode cX11_best 4 = .ok (.ifCond .eq 12, 3) := by decide +kernel
theorem dX11_best_16 : decode cX11_best 16 = .ok (.bipush (-2), 2) := by decide +kernel
theorem dX11_best_18 : decode cX11_best 18 = .ok (.ireturn, 1) := by decide +kernel
theorem dX11_best_7 : decode cX11_best 7 = .ok (.iload_n 2, 1) := by decide +kernel
theorem dX11_best_8 : decode cX11_best 8 = .ok (.ifCond .lt 8, 3) := by decide +kernel
theorem dX11_best_11 : decode cX11_best 11 = .ok (.iload_n 2, 1) := by decide +kernel
theorem dX11_best_12 : decode cX11_best 12 = .ok (.iconst 1, 1) := by decide +kernel
theorem dX11_best_13 : decode cX11_best 13 = .ok (.if_icmp .le 6, 3) := by decide +kernel
theorem dX11_best_19 : decode cX11_best 19 = .ok (.aload_n 0, 1) := by decide +kernel
theorem dX11_best_20 : decode cX11_best 20 = .ok (.getfield 27, 3) := by decide +kernel
theorem dX11_best_23 : decode cX11_best 23 = .ok (.iload_n 1, 1) := by decide +kernel
theorem dX11_best_24 : decode cX11_best 24 = .ok (.invokevirtual 215, 3) := by decide +kernel
theorem dX5_openOnes_0 : decode cX5_openOnes 0 = .ok (.aload_n 0, 1) := by decide +kernel
theorem dX5_openOnes_1 : decode cX5_openOnes 1 = .ok (.getfield 12, 3) := by decide +kernel
theorem dX5_openOnes_4 : decode cX5_openOnes 4 = .ok (.aload_n 0, 1) := by decide +kernel
theorem dX5_openOnes_5 : decode cX5_openOnes 5 = .ok (.getfield 20, 3) := by decide +kernel
theorem dX5_openOnes_8 : decode cX5_openOnes 8 = .ok (.iload_n 1, 1) := by decide +kernel
theorem dX5_openOnes_9 : decode cX5_openOnes 9 = .ok (.aaload, 1) := by decide +kernel
theorem dX5_openOnes_10 : decode cX5_openOnes 10 = .ok (.invokevirtual 37, 3) := by decide +kernel
theorem dX5_openOnes_13 : decode cX5_openOnes 13 = .ok (.invokestatic 41, 3) := by decide +kernel
theorem dJ6_bitCount_0f7a4_0 : decode cJ6_bitCount_0f7a4 0 = .ok (.iload_n 0, 1) := by decide +kernel
theorem dJ6_bitCount_0f7a4_1 : decode cJ6_bitCount_0f7a4 1 = .ok (.iload_n 0, 1) := by decide +kernel
theorem dJ6_bitCount_0f7a4_2 : decode cJ6_bitCount_0f7a4 2 = .ok (.iconst 1, 1) := by decide +kernel
theorem dJ6_bitCount_0f7a4_3 : decode cJ6_bitCount_0f7a4 3 = .ok (.iushr, 1) := by decide +kernel
theorem dJ6_bitCount_0f7a4_4 : decode cJ6_bitCount_0f7a4 4 = .ok (.ldc_w 265, 3) := by decide +kernel
theorem dJ6_bitCount_0f7a4_7 : decode cJ6_bitCount_0f7a4 7 = .ok (.iand, 1) := by decide +kernel
theorem dJ6_bitCount_0f7a4_8 : decode cJ6_bitCount_0f7a4 8 = .ok (.isub, 1) := by decide +kernel
theorem dJ6_bitCount_0f7a4_9 : decode cJ6_bitCount_0f7a4 9 = .ok (.istore_n 0, 1) := by decide +kernel
theorem dJ6_bitCount_0f7a4_10 : decode cJ6_bitCount_0f7a4 10 = .ok (.iload_n 0, 1) := by decide +kernel
theorem dJ6_bitCount_0f7a4_11 : decode cJ6_bitCount_0f7a4 11 = .ok (.ldc_w 266, 3) := by decide +kernel
theorem dJ6_bitCount_0f7a4_14 : decode cJ6_bitCount_0f7a4 14 = .ok (.iand, 1) := by decide +kernel
theorem dJ6_bitCount_0f7a4_15 : decode cJ6_bitCount_0f7a4 15 = .ok (.iload_n 0, 1) := by decide +kernel
theorem dJ6_bitCount_0f7a4_16 : decode cJ6_bitCount_0f7a4 16 = .ok (.iconst 2, 1) := by decide +kernel
theorem dJ6_bitCount_0f7a4_17 : decode cJ6_bitCount_0f7a4 17 = .ok (.iushr, 1) := by decide +kernel
theorem dJ6_bitCount_0f7a4_18 : decode cJ6_bitCount_0f7a4 18 = .ok (.ldc_w 266, 3) := by decide +kernel
theorem dJ6_bitCount_0f7a4_21 : decode cJ6_bitCount_0f7a4 21 = .ok (.iand, 1) := by decide +kernel
theorem dJ6_bitCount_0f7a4_22 : decode cJ6_bitCount_0f7a4 22 = .ok (.iadd, 1) := by decide +kernel
theorem dJ6_bitCount_0f7a4_23 : decode cJ6_bitCount_0f7a4 23 = .ok (.istore_n 0, 1) := by decide +kernel
theorem dJ6_bitCount_0f7a4_24 : decode cJ6_bitCount_0f7a4 24 = .ok (.iload_n 0, 1) := by decide +kernel
theorem dJ6_bitCount_0f7a4_25 : decode cJ6_bitCount_0f7a4 25 = .ok (.iload_n 0, 1) := by decide +kernel
theorem dJ6_bitCount_0f7a4_26 : decode cJ6_bitCount_0f7a4 26 = .ok (.iconst 4, 1) := by decide +kernel
theorem dJ6_bitCount_0f7a4_27 : decode cJ6_bitCount_0f7a4 27 = .ok (.iushr, 1) := by decide +kernel
theorem dJ6_bitCount_0f7a4_28 : decode cJ6_bitCount_0f7a4 28 = .ok (.iadd, 1) := by decide +kernel
theorem dJ6_bitCount_0f7a4_29 : decode cJ6_bitCount_0f7a4 29 = .ok (.ldc_w 267, 3) := by decide +kernel
theorem dJ6_bitCount_0f7a4_32 : decode cJ6_bitCount_0f7a4 32 = .ok (.iand, 1) := by decide +kernel
theorem dJ6_bitCount_0f7a4_33 : decode cJ6_bitCount_0f7a4 33 = .ok (.istore_n 0, 1) := by decide +kernel
theorem dJ6_bitCount_0f7a4_34 : decode cJ6_bitCount_0f7a4 34 = .ok (.iload_n 0, 1) := by decide +kernel
theorem dJ6_bitCount_0f7a4_35 : decode cJ6_bitCount_0f7a4 35 = .ok (.iload_n 0, 1) := by decide +kernel
theorem dJ6_bitCount_0f7a4_36 : decode cJ6_bitCount_0f7a4 36 = .ok (.bipush 8, 2) := by decide +kernel
theorem dJ6_bitCount_0f7a4_38 : decode cJ6_bitCount_0f7a4 38 = .ok (.iushr, 1) := by decide +kernel
theorem dJ6_bitCount_0f7a4_39 : decode cJ6_bitCount_0f7a4 39 = .ok (.iadd, 1) := by decide +kernel
theorem dJ6_bitCount_0f7a4_40 : decode cJ6_bitCount_0f7a4 40 = .ok (.istore_n 0, 1) := by decide +kernel
theorem dJ6_bitCount_0f7a4_41 : decode cJ6_bitCount_0f7a4 41 = .ok (.iload_n 0, 1) := by decide +kernel
theorem dJ6_bitCount_0f7a4_42 : decode cJ6_bitCount_0f7a4 42 = .ok (.iload_n 0, 1) := by decide +kernel
theorem dJ6_bitCount_0f7a4_43 : decode cJ6_bitCount_0f7a4 43 = .ok (.bipush 16, 2) := by decide +kernel
theorem dJ6_bitCount_0f7a4_45 : decode cJ6_bitCount_0f7a4 45 = .ok (.iushr, 1) := by decide +kernel
theorem dJ6_bitCount_0f7a4_46 : decode cJ6_bitCount_0f7a4 46 = .ok (.iadd, 1) := by decide +kernel
theorem dJ6_bitCount_0f7a4_47 : decode cJ6_bitCount_0f7a4 47 = .ok (.istore_n 0, 1) := by decide +kernel
theorem dJ6_bitCount_0f7a4_48 : decode cJ6_bitCount_0f7a4 48 = .ok (.iload_n 0, 1) := by decide +kernel
theorem dJ6_bitCount_0f7a4_49 : decode cJ6_bitCount_0f7a4 49 = .ok (.bipush 63, 2) := by decide +kernel
theorem dJ6_bitCount_0f7a4_51 : decode cJ6_bitCount_0f7a4 51 = .ok (.iand, 1) := by decide +kernel
theorem dJ6_bitCount_0f7a4_52 : decode cJ6_bitCount_0f7a4 52 = .ok (.ireturn, 1) := by decide +kernel
theorem dX5_openOnes_16 : decode cX5_openOnes 16 = .ok (.ireturn, 1) := by decide +kernel
theorem dX11_best_27 : decode cX11_best 27 = .ok (.bipush 10, 2) := by decide +kernel
theorem dX11_best_29 : decode cX11_best 29 = .ok (.if_icmp .le 6, 3) := by decide +kernel
theorem dX11_best_35 : decode cX11_best 35 = .ok (.aload_n 0, 1) := by decide +kernel
theorem dX11_best_36 : decode cX11_best 36 = .ok (.getfield 53, 3) := by decide +kernel
theorem dX11_best_39 : decode cX11_best 39 = .ok (.aload_n 0, 1) := by decide +kernel
theorem dX11_best_40 : decode cX11_best 40 = .ok (.getfield 27, 3) := by decide +kernel
theorem dX11_best_43 : decode cX11_best 43 = .ok (.getfield 88, 3) := by decide +kernel
theorem dX11_best_46 : decode cX11_best 46 = .ok (.aload_n 0, 1) := by decide +kernel
theorem dX11_best_47 : decode cX11_best 47 = .ok (.getfield 27, 3) := by decide +kernel
theorem dX11_best_50 : decode cX11_best 50 = .ok (.getfield 133, 3) := by decide +kernel
theorem dX11_best_53 : decode cX11_best 53 = .ok (.iload_n 1, 1) := by decide +kernel
theorem dX11_best_54 : decode cX11_best 54 = .ok (.aaload, 1) := by decide +kernel
theorem dX11_best_55 : decode cX11_best 55 = .ok (.iload_n 2, 1) := by decide +kernel
theorem dX11_best_56 : decode cX11_best 56 = .ok (.iconst 1, 1) := by decide +kernel
theorem dX11_best_57 : decode cX11_best 57 = .ok (.if_icmp .ne 7, 3) := by decide +kernel
theorem dX11_best_64 : decode cX11_best 64 = .ok (.iconst 0, 1) := by decide +kernel
theorem dX11_best_65 : decode cX11_best 65 = .ok (.invokevirtual 218, 3) := by decide +kernel
theorem dX0_endAsBest_0 : decode cX0_endAsBest 0 = .ok (.aload_n 0, 1) := by decide +kernel
theorem dX0_endAsBest_1 : decode cX0_endAsBest 1 = .ok (.aload_n 1, 1) := by decide +kernel
theorem dX0_endAsBest_2 : decode cX0_endAsBest 2 = .ok (.aload_n 2, 1) := by decide +kernel
theorem dX0_endAsBest_3 : decode cX0_endAsBest 3 = .ok (.invokevirtual 49, 3) := by decide +kernel
theorem dX0_listOpen_0 : decode cX0_listOpen 0 = .ok (.iconst 0, 1) := by decide +kernel
theorem dX0_listOpen_1 : decode cX0_listOpen 1 = .ok (.istore_n 3, 1) := by decide +kernel
theorem dX0_listOpen_2 : decode cX0_listOpen 2 = .ok (.iconst 0, 1) := by decide +kernel
theorem dX0_listOpen_3 : decode cX0_listOpen 3 = .ok (.istore 4, 2) := by decide +kernel
theorem dX0_listOpen_5 : decode cX0_listOpen 5 = .ok (.iload 4, 2) := by decide +kernel
theorem dX0_listOpen_7 : decode cX0_listOpen 7 = .ok (.aload_n 1, 1) := by decide +kernel
theorem dX0_listOpen_8 : decode cX0_listOpen 8 = .ok (.getfield 35, 3) := by decide +kernel
theorem dX0_listOpen_11 : decode cX0_listOpen 11 = .ok (.if_icmp .ge 33, 3) := by decide +kernel
theorem dX0_listOpen_44 : decode cX0_listOpen 44 = .ok (.iload_n 3, 1) := by decide +kernel
theorem dX0_listOpen_45 : decode cX0_listOpen 45 = .ok (.ireturn, 1) := by decide +kernel
theorem dX0_endAsBest_6 : decode cX0_endAsBest 6 = .ok (.istore 4, 2) := by decide +kernel
theorem dX0_endAsBest_8 : decode cX0_endAsBest 8 = .ok (.ldc 53, 2) := by decide +kernel
theorem dX0_endAsBest_10 : decode cX0_endAsBest 10 = .ok (.istore 5, 2) := by decide +kernel
theorem dX0_endAsBest_12 : decode cX0_endAsBest 12 = .ok (.iconst (-1), 1) := by decide +kernel
theorem dX0_endAsBest_13 : decode cX0_endAsBest 13 = .ok (.istore 6, 2) := by decide +kernel
theorem dX0_endAsBest_15 : decode cX0_endAsBest 15 = .ok (.iconst 0, 1) := by decide +kernel
theorem dX0_endAsBest_16 : decode cX0_endAsBest 16 = .ok (.istore 7, 2) := by decide +kernel
theorem dX0_endAsBest_18 : decode cX0_endAsBest 18 = .ok (.iload 7, 2) := by decide +kernel
theorem dX0_endAsBest_20 : decode cX0_endAsBest 20 = .ok (.iconst 1, 1) := by decide +kernel
theorem dX0_endAsBest_21 : decode cX0_endAsBest 21 = .ok (.iload 4, 2) := by decide +kernel
theorem dX0_endAsBest_23 : decode cX0_endAsBest 23 = .ok (.ishl, 1) := by decide +kernel
theorem dX0_endAsBest_24 : decode cX0_endAsBest 24 = .ok (.if_icmp .ge 66, 3) := by decide +kernel
theorem dX0_endAsBest_27 : decode cX0_endAsBest 27 = .ok (.iload 5, 2) := by decide +kernel
theorem dX0_endAsBest_29 : decode cX0_endAsBest 29 = .ok (.ifCond .le 61, 3) := by decide +kernel
theorem dX0_endAsBest_32 : decode cX0_endAsBest 32 = .ok (.aload_n 0, 1) := by decide +kernel
theorem dX0_endAsBest_33 : decode cX0_endAsBest 33 = .ok (.aload_n 2, 1) := by decide +kernel
theorem dX0_endAsBest_34 : decode cX0_endAsBest 34 = .ok (.iload 4, 2) := by decide +kernel
theorem dX0_endAsBest_36 : decode cX0_endAsBest 36 = .ok (.iload 7, 2) := by decide +kernel
theorem dX0_endAsBest_38 : decode cX0_endAsBest 38 = .ok (.invokevirtual 54, 3) := by decide +kernel
theorem dX0_giveTrial_0 : decode cX0_giveTrial 0 = .ok (.iconst 0, 1) := by decide +kernel
theorem dX0_giveTrial_1 : decode cX0_giveTrial 1 = .ok (.istore 4, 2) := by decide +kernel
theorem dX0_giveTrial_3 : decode cX0_giveTrial 3 = .ok (.iload 4, 2) := by decide +kernel
theorem dX0_giveTrial_5 : decode cX0_giveTrial 5 = .ok (.iload_n 2, 1) := by decide +kernel
theorem dX0_giveTrial_6 : decode cX0_giveTrial 6 = .ok (.if_icmp .ge 36, 3) := by decide +kernel
theorem dX0_giveTrial_42 : decode cX0_giveTrial 42 = .ok (.return_, 1) := by decide +kernel
theorem dX0_endAsBest_41 : decode cX0_endAsBest 41 = .ok (.aload_n 0, 1) := by decide +kernel
theorem dX0_endAsBest_42 : decode cX0_endAsBest 42 = .ok (.getfield 15, 3) := by decide +kernel
theorem dX0_endAsBest_45 : decode cX0_endAsBest 45 = .ok (.aload_n 1, 1) := by decide +kernel
theorem dX0_endAsBest_46 : decode cX0_endAsBest 46 = .ok (.aload_n 2, 1) := by decide +kernel
theorem dX0_endAsBest_47 : decode cX0_endAsBest 47 = .ok (.invokevirtual 29, 3) := by decide +kernel
theorem dX0_endAsBest_50 : decode cX0_endAsBest 50 = .ok (.ifCond .eq 15, 3) := by decide +kernel
theorem dX0_endAsBest_65 : decode cX0_endAsBest 65 = .ok (.ldc 53, 2) := by decide +kernel
theorem dX0_endAsBest_67 : decode cX0_endAsBest 67 = .ok (.istore 8, 2) := by decide +kernel
theorem dX0_endAsBest_69 : decode cX0_endAsBest 69 = .ok (.iload 8, 2) := by decide +kernel
theorem dX0_endAsBest_71 : decode cX0_endAsBest 71 = .ok (.iload 5, 2) := by decide +kernel
theorem dX0_endAsBest_73 : decode cX0_endAsBest 73 = .ok (.if_icmp .ge 11, 3) := by decide +kernel
theorem dX0_endAsBest_84 : decode cX0_endAsBest 84 = .ok (.iinc 7 1, 3) := by decide +kernel
theorem dX0_endAsBest_87 : decode cX0_endAsBest 87 = .ok (.goto (-69), 3) := by decide +kernel
theorem dX0_endAsBest_90 : decode cX0_endAsBest 90 = .ok (.iload 6, 2) := by decide +kernel
theorem dX0_endAsBest_92 : decode cX0_endAsBest 92 = .ok (.iconst (-1), 1) := by decide +kernel
theorem dX0_endAsBest_93 : decode cX0_endAsBest 93 = .ok (.if_icmp .ne 31, 3) := by decide +kernel
theorem dX0_endAsBest_96 : decode cX0_endAsBest 96 = .ok (.iconst 0, 1) := by decide +kernel
theorem dX0_endAsBest_97 : decode cX0_endAsBest 97 = .ok (.istore 7, 2) := by decide +kernel
theorem dX0_endAsBest_99 : decode cX0_endAsBest 99 = .ok (.iload 7, 2) := by decide +kernel
theorem dX0_endAsBest_101 : decode cX0_endAsBest 101 = .ok (.iload 4, 2) := by decide +kernel
theorem dX0_endAsBest_103 : decode cX0_endAsBest 103 = .ok (.if_icmp .ge 19, 3) := by decide +kernel
theorem dX0_endAsBest_122 : decode cX0_endAsBest 122 = .ok (.iconst (-1), 1) := by decide +kernel
theorem dX0_endAsBest_123 : decode cX0_endAsBest 123 = .ok (.ireturn, 1) := by decide +kernel
theorem dX11_best_68 : decode cX11_best 68 = .ok (.ireturn, 1) := by decide +kernel
theorem dX11_best_60 : decode cX11_best 60 = .ok (.iconst 1, 1) := by decide +kernel
theorem dX11_best_61 : decode cX11_best 61 = .ok (.goto 4, 3) := by decide +kernel
theorem dX11_better_0 : decode cX11_better 0 = .ok (.iload_n 1, 1) := by decide +kernel
theorem dX11_better_1 : decode cX11_better 1 = .ok (.invokestatic 122, 3) := by decide +kernel
theorem dX11_better_4 : decode cX11_better 4 = .ok (.ifCond .ne 6, 3) := by decide +kernel
theorem dX11_better_7 : decode cX11_better 7 = .ok (.bipush (-2), 2) := by decide +kernel
theorem dX11_better_9 : decode cX11_better 9 = .ok (.ireturn, 1) := by decide +kernel
theorem dX11_better_10 : decode cX11_better 10 = .ok (.aload_n 0, 1) := by decide +kernel
theorem dX11_better_11 : decode cX11_better 11 = .ok (.iload_n 1, 1) := by decide +kernel
theorem dX11_better_12 : decode cX11_better 12 = .ok (.invokevirtual 222, 3) := by decide +kernel
theorem dX11_isComplete_0 : decode cX11_isComplete 0 = .ok (.aload_n 0, 1) := by decide +kernel
theorem dX11_isComplete_1 : decode cX11_isComplete 1 = .ok (.getfield 27, 3) := by decide +kernel
theorem dX11_isComplete_4 : decode cX11_isComplete 4 = .ok (.iload_n 1, 1) := by decide +kernel
theorem dX11_isComplete_5 : decode cX11_isComplete 5 = .ok (.invokevirtual 215, 3) := by decide +kernel
theorem dX11_isComplete_8 : decode cX11_isComplete 8 = .ok (.ifCond .ne 33, 3) := by decide +kernel
theorem dX11_isComplete_11 : decode cX11_isComplete 11 = .ok (.aload_n 0, 1) := by decide +kernel
theorem dX11_isComplete_12 : decode cX11_isComplete 12 = .ok (.getfield 44, 3) := by decide +kernel
theorem dX11_isComplete_15 : decode cX11_isComplete 15 = .ok (.aload_n 0, 1) := by decide +kernel
theorem dX11_isComplete_16 : decode cX11_isComplete 16 = .ok (.getfield 27, 3) := by decide +kernel
theorem dX11_isComplete_19 : decode cX11_isComplete 19 = .ok (.getfield 88, 3) := by decide +kernel
theorem dX11_isComplete_22 : decode cX11_isComplete 22 = .ok (.aload_n 0, 1) := by decide +kernel
theorem dX11_isComplete_23 : decode cX11_isComplete 23 = .ok (.getfield 27, 3) := by decide +kernel
theorem dX11_isComplete_26 : decode cX11_isComplete 26 = .ok (.getfield 133, 3) := by decide +kernel
theorem dX11_isComplete_29 : decode cX11_isComplete 29 = .ok (.iload_n 1, 1) := by decide +kernel
theorem dX11_isComplete_30 : decode cX11_isComplete 30 = .ok (.aaload, 1) := by decide +kernel
theorem dX11_isComplete_31 : decode cX11_isComplete 31 = .ok (.invokevirtual 160, 3) := by decide +kernel
theorem dX11_isComplete_34 : decode cX11_isComplete 34 = .ok (.ifCond .eq 7, 3) := by decide +kernel
theorem dX11_isComplete_41 : decode cX11_isComplete 41 = .ok (.iconst 0, 1) := by decide +kernel
theorem dX11_isComplete_42 : decode cX11_isComplete 42 = .ok (.ireturn, 1) := by decide +kernel
theorem dX11_better_15 : decode cX11_better 15 = .ok (.ifCond .ne 6, 3) := by decide +kernel
theorem dX11_better_18 : decode cX11_better 18 = .ok (.bipush (-5), 2) := by decide +kernel
theorem dX11_better_20 : decode cX11_better 20 = .ok (.ireturn, 1) := by decide +kernel
theorem dX11_alike_0 : decode cX11_alike 0 = .ok (.iload_n 1, 1) := by decide +kernel
theorem dX11_alike_1 : decode cX11_alike 1 = .ok (.invokestatic 122, 3) := by decide +kernel
theorem dX11_alike_4 : decode cX11_alike 4 = .ok (.ifCond .ne 6, 3) := by decide +kernel
theorem dX11_alike_7 : decode cX11_alike 7 = .ok (.bipush (-2), 2) := by decide +kernel
theorem dX11_alike_9 : decode cX11_alike 9 = .ok (.ireturn, 1) := by decide +kernel
theorem dX11_alike_10 : decode cX11_alike 10 = .ok (.iconst 0, 1) := by decide +kernel
theorem dX11_alike_11 : decode cX11_alike 11 = .ok (.istore_n 2, 1) := by decide +kernel
theorem dX11_alike_12 : decode cX11_alike 12 = .ok (.iconst 0, 1) := by decide +kernel
theorem dX11_alike_13 : decode cX11_alike 13 = .ok (.istore_n 3, 1) := by decide +kernel
theorem dX11_alike_14 : decode cX11_alike 14 = .ok (.iload_n 3, 1) := by decide +kernel
theorem dX11_alike_15 : decode cX11_alike 15 = .ok (.aload_n 0, 1) := by decide +kernel
theorem dX11_alike_16 : decode cX11_alike 16 = .ok (.getfield 27, 3) := by decide +kernel
theorem dX11_alike_19 : decode cX11_alike 19 = .ok (.getfield 88, 3) := by decide +kernel
theorem dX11_alike_22 : decode cX11_alike 22 = .ok (.getfield 232, 3) := by decide +kernel
theorem dX11_alike_25 : decode cX11_alike 25 = .ok (.getfield 236, 3) := by decide +kernel
theorem dX11_alike_28 : decode cX11_alike 28 = .ok (.if_icmp .ge 41, 3) := by decide +kernel
theorem dX11_alike_69 : decode cX11_alike 69 = .ok (.iload_n 2, 1) := by decide +kernel
theorem dX11_alike_70 : decode cX11_alike 70 = .ok (.ireturn, 1) := by decide +kernel
theorem dX11_known_0 : decode cX11_known 0 = .ok (.iload_n 1, 1) := by decide +kernel
theorem dX11_known_1 : decode cX11_known 1 = .ok (.invokestatic 122, 3) := by decide +kernel
theorem dX11_known_4 : decode cX11_known 4 = .ok (.ifCond .ne 6, 3) := by decide +kernel
theorem dX11_known_7 : decode cX11_known 7 = .ok (.bipush (-2), 2) := by decide +kernel
theorem dX11_known_9 : decode cX11_known 9 = .ok (.ireturn, 1) := by decide +kernel
theorem dX11_known_10 : decode cX11_known 10 = .ok (.aload_n 0, 1) := by decide +kernel
theorem dX11_known_11 : decode cX11_known 11 = .ok (.getfield 27, 3) := by decide +kernel
theorem dX11_known_14 : decode cX11_known 14 = .ok (.getfield 88, 3) := by decide +kernel
theorem dX11_known_17 : decode cX11_known 17 = .ok (.getfield 243, 3) := by decide +kernel
theorem dX11_known_20 : decode cX11_known 20 = .ok (.ifCond .ne 8, 3) := by decide +kernel
theorem dX11_known_23 : decode cX11_known 23 = .ok (.bipush (-6), 2) := by decide +kernel
theorem dX11_known_25 : decode cX11_known 25 = .ok (.goto 22, 3) := by decide +kernel
theorem dX11_known_47 : decode cX11_known 47 = .ok (.ireturn, 1) := by decide +kernel
theorem dX11_ring_0 : decode cX11_ring 0 = .ok (.iload_n 1, 1) := by decide +kernel
theorem dX11_ring_1 : decode cX11_ring 1 = .ok (.invokestatic 122, 3) := by decide +kernel
theorem dX11_ring_4 : decode cX11_ring 4 = .ok (.ifCond .eq 11, 3) := by decide +kernel
theorem dX11_ring_15 : decode cX11_ring 15 = .ok (.bipush (-2), 2) := by decide +kernel
theorem dX11_ring_17 : decode cX11_ring 17 = .ok (.ireturn, 1) := by decide +kernel
theorem dX11_ring_7 : decode cX11_ring 7 = .ok (.aload_n 0, 1) := by decide +kernel
theorem dX11_ring_8 : decode cX11_ring 8 = .ok (.iload_n 2, 1) := by decide +kernel
theorem dX11_ring_9 : decode cX11_ring 9 = .ok (.invokevirtual 126, 3) := by decide +kernel
theorem dX11_ring_12 : decode cX11_ring 12 = .ok (.ifCond .ne 6, 3) := by decide +kernel
theorem dX11_ended_0 : decode cX11_ended 0 = .ok (.iload_n 1, 1) := by decide +kernel
theorem dX11_ended_1 : decode cX11_ended 1 = .ok (.invokestatic 122, 3) := by decide +kernel
theorem dX11_ended_4 : decode cX11_ended 4 = .ok (.ifCond .ne 6, 3) := by decide +kernel
theorem dX11_ended_7 : decode cX11_ended 7 = .ok (.bipush (-2), 2) := by decide +kernel
theorem dX11_ended_9 : decode cX11_ended 9 = .ok (.ireturn, 1) := by decide +kernel
theorem dX11_ended_10 : decode cX11_ended 10 = .ok (.aload_n 0, 1) := by decide +kernel
theorem dX11_ended_11 : decode cX11_ended 11 = .ok (.iload_n 1, 1) := by decide +kernel
theorem dX11_ended_12 : decode cX11_ended 12 = .ok (.invokevirtual 222, 3) := by decide +kernel
theorem dX11_ended_15 : decode cX11_ended 15 = .ok (.ifCond .ne 6, 3) := by decide +kernel
theorem dX11_ended_18 : decode cX11_ended 18 = .ok (.bipush (-5), 2) := by decide +kernel
theorem dX11_ended_20 : decode cX11_ended 20 = .ok (.ireturn, 1) := by decide +kernel
theorem dX11_pair_0 : decode cX11_pair 0 = .ok (.iload_n 1, 1) := by decide +kernel
theorem dX11_pair_1 : decode cX11_pair 1 = .ok (.invokestatic 122, 3) := by decide +kernel
theorem dX11_pair_4 : decode cX11_pair 4 = .ok (.ifCond .ne 6, 3) := by decide +kernel
theorem dX11_pair_7 : decode cX11_pair 7 = .ok (.bipush (-2), 2) := by decide +kernel
theorem dX11_pair_9 : decode cX11_pair 9 = .ok (.ireturn, 1) := by decide +kernel
theorem dX11_pair_10 : decode cX11_pair 10 = .ok (.aload_n 0, 1) := by decide +kernel
theorem dX11_pair_11 : decode cX11_pair 11 = .ok (.getfield 44, 3) := by decide +kernel
theorem dX11_pair_14 : decode cX11_pair 14 = .ok (.aload_n 0, 1) := by decide +kernel
theorem dX11_pair_15 : decode cX11_pair 15 = .ok (.getfield 27, 3) := by decide +kernel
theorem dX11_pair_18 : decode cX11_pair 18 = .ok (.getfield 88, 3) := by decide +kernel
theorem dX11_pair_21 : decode cX11_pair 21 = .ok (.aload_n 0, 1) := by decide +kernel
theorem dX11_pair_22 : decode cX11_pair 22 = .ok (.getfield 27, 3) := by decide +kernel
theorem dX11_pair_25 : decode cX11_pair 25 = .ok (.getfield 133, 3) := by decide +kernel
theorem dX11_pair_28 : decode cX11_pair 28 = .ok (.iload_n 1, 1) := by decide +kernel
theorem dX11_pair_29 : decode cX11_pair 29 = .ok (.aaload, 1) := by decide +kernel
theorem dX11_pair_30 : decode cX11_pair 30 = .ok (.invokevirtual 160, 3) := by decide +kernel
theorem dX11_pair_33 : decode cX11_pair 33 = .ok (.ifCond .ne 5, 3) := by decide +kernel
theorem dX11_pair_36 : decode cX11_pair 36 = .ok (.iconst (-1), 1) := by decide +kernel
theorem dX11_pair_37 : decode cX11_pair 37 = .ok (.ireturn, 1) := by decide +kernel
theorem dX11_paired_0 : decode cX11_paired 0 = .ok (.iload_n 1, 1) := by decide +kernel
theorem dX11_paired_1 : decode cX11_paired 1 = .ok (.ifCond .ne 8, 3) := by decide +kernel
theorem dX11_paired_9 : decode cX11_paired 9 = .ok (.iload_n 1, 1) := by decide +kernel
theorem dX11_paired_10 : decode cX11_paired 10 = .ok (.iconst 1, 1) := by decide +kernel
theorem dX11_paired_11 : decode cX11_paired 11 = .ok (.if_icmp .ne 10, 3) := by decide +kernel
theorem dX11_paired_21 : decode cX11_paired 21 = .ok (.iconst (-1), 1) := by decide +kernel
theorem dX11_paired_22 : decode cX11_paired 22 = .ok (.ireturn, 1) := by decide +kernel
theorem dX11_paired_14 : decode cX11_paired 14 = .ok (.aload_n 0, 1) := by decide +kernel
theorem dX11_paired_15 : decode cX11_paired 15 = .ok (.getfield 78, 3) := by decide +kernel
theorem dX11_paired_18 : decode cX11_paired 18 = .ok (.goto 4, 3) := by decide +kernel
theorem dX11_paired_4 : decode cX11_paired 4 = .ok (.aload_n 0, 1) := by decide +kernel
theorem dX11_paired_5 : decode cX11_paired 5 = .ok (.getfield 75, 3) := by decide +kernel
theorem dX11_paired_8 : decode cX11_paired 8 = .ok (.ireturn, 1) := by decide +kernel
theorem dX11_total_0 : decode cX11_total 0 = .ok (.iload_n 1, 1) := by decide +kernel
theorem dX11_total_1 : decode cX11_total 1 = .ok (.invokestatic 122, 3) := by decide +kernel
theorem dX11_total_4 : decode cX11_total 4 = .ok (.ifCond .eq 12, 3) := by decide +kernel
theorem dX11_total_16 : decode cX11_total 16 = .ok (.bipush (-2), 2) := by decide +kernel
theorem dX11_total_18 : decode cX11_total 18 = .ok (.ireturn, 1) := by decide +kernel
theorem dX11_total_7 : decode cX11_total 7 = .ok (.iload_n 2, 1) := by decide +kernel
theorem dX11_total_8 : decode cX11_total 8 = .ok (.ifCond .lt 8, 3) := by decide +kernel
theorem dX11_total_11 : decode cX11_total 11 = .ok (.iload_n 2, 1) := by decide +kernel
theorem dX11_total_12 : decode cX11_total 12 = .ok (.iconst 1, 1) := by decide +kernel
theorem dX11_total_13 : decode cX11_total 13 = .ok (.if_icmp .le 6, 3) := by decide +kernel
theorem dX11_total_19 : decode cX11_total 19 = .ok (.aload_n 0, 1) := by decide +kernel
theorem dX11_total_20 : decode cX11_total 20 = .ok (.getfield 44, 3) := by decide +kernel
theorem dX11_total_23 : decode cX11_total 23 = .ok (.aload_n 0, 1) := by decide +kernel
theorem dX11_total_24 : decode cX11_total 24 = .ok (.getfield 27, 3) := by decide +kernel
theorem dX11_total_27 : decode cX11_total 27 = .ok (.getfield 88, 3) := by decide +kernel
theorem dX11_total_30 : decode cX11_total 30 = .ok (.aload_n 0, 1) := by decide +kernel
theorem dX11_total_31 : decode cX11_total 31 = .ok (.getfield 27, 3) := by decide +kernel
theorem dX11_total_34 : decode cX11_total 34 = .ok (.getfield 133, 3) := by decide +kernel
theorem dX11_total_37 : decode cX11_total 37 = .ok (.iload_n 1, 1) := by decide +kernel
theorem dX11_total_38 : decode cX11_total 38 = .ok (.aaload, 1) := by decide +kernel
theorem dX11_total_39 : decode cX11_total 39 = .ok (.invokevirtual 160, 3) := by decide +kernel
theorem dX11_total_42 : decode cX11_total 42 = .ok (.ifCond .ne 5, 3) := by decide +kernel
theorem dX11_total_45 : decode cX11_total 45 = .ok (.iconst (-1), 1) := by decide +kernel
theorem dX11_total_46 : decode cX11_total 46 = .ok (.ireturn, 1) := by decide +kernel
theorem dX11_coin_0 : decode cX11_coin 0 = .ok (.iload_n 1, 1) := by decide +kernel
theorem dX11_coin_1 : decode cX11_coin 1 = .ok (.invokestatic 122, 3) := by decide +kernel
theorem dX11_coin_4 : decode cX11_coin 4 = .ok (.ifCond .eq 10, 3) := by decide +kernel
theorem dX11_coin_14 : decode cX11_coin 14 = .ok (.bipush (-2), 2) := by decide +kernel
theorem dX11_coin_16 : decode cX11_coin 16 = .ok (.ireturn, 1) := by decide +kernel
theorem dX11_coin_7 : decode cX11_coin 7 = .ok (.iload_n 2, 1) := by decide +kernel
theorem dX11_coin_8 : decode cX11_coin 8 = .ok (.invokestatic 266, 3) := by decide +kernel
theorem dX11_isCoin_0 : decode cX11_isCoin 0 = .ok (.iload_n 0, 1) := by decide +kernel
theorem dX11_isCoin_1 : decode cX11_isCoin 1 = .ok (.ifCond .lt 14, 3) := by decide +kernel
theorem dX11_isCoin_15 : decode cX11_isCoin 15 = .ok (.iconst 0, 1) := by decide +kernel
theorem dX11_isCoin_16 : decode cX11_isCoin 16 = .ok (.ireturn, 1) := by decide +kernel
theorem dX11_isCoin_4 : decode cX11_isCoin 4 = .ok (.iload_n 0, 1) := by decide +kernel
theorem dX11_isCoin_5 : decode cX11_isCoin 5 = .ok (.sipush 9999, 3) := by decide +kernel
theorem dX11_isCoin_8 : decode cX11_isCoin 8 = .ok (.if_icmp .gt 7, 3) := by decide +kernel
theorem dX11_isCoin_11 : decode cX11_isCoin 11 = .ok (.iconst 1, 1) := by decide +kernel
theorem dX11_isCoin_12 : decode cX11_isCoin 12 = .ok (.goto 4, 3) := by decide +kernel
theorem dX11_coin_11 : decode cX11_coin 11 = .ok (.ifCond .ne 6, 3) := by decide +kernel
theorem dX11_coin_17 : decode cX11_coin 17 = .ok (.aload_n 0, 1) := by decide +kernel
theorem dX11_coin_18 : decode cX11_coin 18 = .ok (.iload_n 1, 1) := by decide +kernel
theorem dX11_coin_19 : decode cX11_coin 19 = .ok (.invokevirtual 222, 3) := by decide +kernel
theorem dX11_coin_22 : decode cX11_coin 22 = .ok (.ifCond .eq 30, 3) := by decide +kernel
theorem dX11_coin_52 : decode cX11_coin 52 = .ok (.bipush (-5), 2) := by decide +kernel
theorem dX11_coin_54 : decode cX11_coin 54 = .ok (.ireturn, 1) := by decide +kernel
theorem dX11_next_0 : decode cX11_next 0 = .ok (.iload_n 1, 1) := by decide +kernel
theorem dX11_next_1 : decode cX11_next 1 = .ok (.invokestatic 122, 3) := by decide +kernel
theorem dX11_next_4 : decode cX11_next 4 = .ok (.ifCond .eq 10, 3) := by decide +kernel
theorem dX11_next_14 : decode cX11_next 14 = .ok (.bipush (-2), 2) := by decide +kernel
theorem dX11_next_16 : decode cX11_next 16 = .ok (.ireturn, 1) := by decide +kernel
theorem dX11_next_7 : decode cX11_next 7 = .ok (.iload_n 2, 1) := by decide +kernel
theorem dX11_next_8 : decode cX11_next 8 = .ok (.invokestatic 266, 3) := by decide +kernel
theorem dX11_next_11 : decode cX11_next 11 = .ok (.ifCond .ne 6, 3) := by decide +kernel
theorem dX11_next_17 : decode cX11_next 17 = .ok (.aload_n 0, 1) := by decide +kernel
theorem dX11_next_18 : decode cX11_next 18 = .ok (.iload_n 1, 1) := by decide +kernel
theorem dX11_next_19 : decode cX11_next 19 = .ok (.invokevirtual 222, 3) := by decide +kernel
theorem dX11_next_22 : decode cX11_next 22 = .ok (.ifCond .eq 30, 3) := by decide +kernel
theorem dX11_next_52 : decode cX11_next 52 = .ok (.bipush (-5), 2) := by decide +kernel
theorem dX11_next_54 : decode cX11_next 54 = .ok (.ireturn, 1) := by decide +kernel
theorem dX11_paid_0 : decode cX11_paid 0 = .ok (.iload_n 1, 1) := by decide +kernel
theorem dX11_paid_1 : decode cX11_paid 1 = .ok (.invokestatic 122, 3) := by decide +kernel
theorem dX11_paid_4 : decode cX11_paid 4 = .ok (.ifCond .eq 25, 3) := by decide +kernel
theorem dX11_paid_29 : decode cX11_paid 29 = .ok (.bipush (-2), 2) := by decide +kernel
theorem dX11_paid_31 : decode cX11_paid 31 = .ok (.ireturn, 1) := by decide +kernel
theorem dX11_paid_7 : decode cX11_paid 7 = .ok (.aload_n 0, 1) := by decide +kernel
theorem dX11_paid_8 : decode cX11_paid 8 = .ok (.getfield 27, 3) := by decide +kernel
theorem dX11_paid_11 : decode cX11_paid 11 = .ok (.getfield 88, 3) := by decide +kernel
theorem dX11_paid_14 : decode cX11_paid 14 = .ok (.aload_n 0, 1) := by decide +kernel
theorem dX11_paid_15 : decode cX11_paid 15 = .ok (.getfield 27, 3) := by decide +kernel
theorem dX11_paid_18 : decode cX11_paid 18 = .ok (.getfield 133, 3) := by decide +kernel
theorem dX11_paid_21 : decode cX11_paid 21 = .ok (.iload_n 1, 1) := by decide +kernel
theorem dX11_paid_22 : decode cX11_paid 22 = .ok (.aaload, 1) := by decide +kernel
theorem dX11_paid_23 : decode cX11_paid 23 = .ok (.invokevirtual 275, 3) := by decide +kernel
theorem dX8_pricesOfBoth_0 : decode cX8_pricesOfBoth 0 = .ok (.iconst 0, 1) := by decide +kernel
theorem dX8_pricesOfBoth_1 : decode cX8_pricesOfBoth 1 = .ok (.istore_n 2, 1) := by decide +kernel
theorem dX8_pricesOfBoth_2 : decode cX8_pricesOfBoth 2 = .ok (.iconst 0, 1) := by decide +kernel
theorem dX8_pricesOfBoth_3 : decode cX8_pricesOfBoth 3 = .ok (.istore_n 3, 1) := by decide +kernel
theorem dX8_pricesOfBoth_4 : decode cX8_pricesOfBoth 4 = .ok (.iload_n 3, 1) := by decide +kernel
theorem dX8_pricesOfBoth_5 : decode cX8_pricesOfBoth 5 = .ok (.aload_n 0, 1) := by decide +kernel
theorem dX8_pricesOfBoth_6 : decode cX8_pricesOfBoth 6 = .ok (.getfield 18, 3) := by decide +kernel
theorem dX8_pricesOfBoth_9 : decode cX8_pricesOfBoth 9 = .ok (.if_icmp .ge 25, 3) := by decide +kernel
theorem dX8_pricesOfBoth_34 : decode cX8_pricesOfBoth 34 = .ok (.iload_n 2, 1) := by decide +kernel
theorem dX8_pricesOfBoth_35 : decode cX8_pricesOfBoth 35 = .ok (.ireturn, 1) := by decide +kernel
theorem dX11_paid_26 : decode cX11_paid 26 = .ok (.goto 5, 3) := by decide +kernel
theorem dX11_fire_0 : decode cX11_fire 0 = .ok (.iload_n 1, 1) := by decide +kernel
theorem dX11_fire_1 : decode cX11_fire 1 = .ok (.invokestatic 122, 3) := by decide +kernel
theorem dX11_fire_4 : decode cX11_fire 4 = .ok (.ifCond .eq 11, 3) := by decide +kernel
theorem dX11_fire_15 : decode cX11_fire 15 = .ok (.bipush (-2), 2) := by decide +kernel
theorem dX11_fire_17 : decode cX11_fire 17 = .ok (.ireturn, 1) := by decide +kernel
theorem dX11_fire_7 : decode cX11_fire 7 = .ok (.aload_n 0, 1) := by decide +kernel
theorem dX11_fire_8 : decode cX11_fire 8 = .ok (.iload_n 2, 1) := by decide +kernel
theorem dX11_fire_9 : decode cX11_fire 9 = .ok (.invokevirtual 191, 3) := by decide +kernel
theorem dX11_fire_12 : decode cX11_fire 12 = .ok (.ifCond .ne 6, 3) := by decide +kernel
theorem dX11_fire_18 : decode cX11_fire 18 = .ok (.aload_n 0, 1) := by decide +kernel
theorem dX11_fire_19 : decode cX11_fire 19 = .ok (.getfield 27, 3) := by decide +kernel
theorem dX11_fire_22 : decode cX11_fire 22 = .ok (.getfield 88, 3) := by decide +kernel
theorem dX11_fire_25 : decode cX11_fire 25 = .ok (.getfield 278, 3) := by decide +kernel
theorem dX11_fire_28 : decode cX11_fire 28 = .ok (.iconst (-1), 1) := by decide +kernel
theorem dX11_fire_29 : decode cX11_fire 29 = .ok (.if_icmp .ne 6, 3) := by decide +kernel
theorem dX11_fire_32 : decode cX11_fire 32 = .ok (.bipush (-6), 2) := by decide +kernel
theorem dX11_fire_34 : decode cX11_fire 34 = .ok (.ireturn, 1) := by decide +kernel
theorem dX11_lastFire_0 : decode cX11_lastFire 0 = .ok (.iload_n 1, 1) := by decide +kernel
theorem dX11_lastFire_1 : decode cX11_lastFire 1 = .ok (.invokestatic 122, 3) := by decide +kernel
theorem dX11_lastFire_4 : decode cX11_lastFire 4 = .ok (.ifCond .ne 6, 3) := by decide +kernel
theorem dX11_lastFire_7 : decode cX11_lastFire 7 = .ok (.bipush (-2), 2) := by decide +kernel
theorem dX11_lastFire_9 : decode cX11_lastFire 9 = .ok (.ireturn, 1) := by decide +kernel
theorem dX11_lastFire_10 : decode cX11_lastFire 10 = .ok (.aload_n 0, 1) := by decide +kernel
theorem dX11_lastFire_11 : decode cX11_lastFire 11 = .ok (.getfield 27, 3) := by decide +kernel
theorem dX11_lastFire_14 : decode cX11_lastFire 14 = .ok (.getfield 88, 3) := by decide +kernel
theorem dX11_lastFire_17 : decode cX11_lastFire 17 = .ok (.getfield 278, 3) := by decide +kernel
theorem dX11_lastFire_20 : decode cX11_lastFire 20 = .ok (.iconst (-1), 1) := by decide +kernel
theorem dX11_lastFire_21 : decode cX11_lastFire 21 = .ok (.if_icmp .ne 6, 3) := by decide +kernel
theorem dX11_lastFire_24 : decode cX11_lastFire 24 = .ok (.bipush (-6), 2) := by decide +kernel
theorem dX11_lastFire_26 : decode cX11_lastFire 26 = .ok (.ireturn, 1) := by decide +kernel
theorem dX11_arrive_0 : decode cX11_arrive 0 = .ok (.aload_n 0, 1) := by decide +kernel
theorem dX11_arrive_1 : decode cX11_arrive 1 = .ok (.iload_n 1, 1) := by decide +kernel
theorem dX11_arrive_2 : decode cX11_arrive 2 = .ok (.invokevirtual 201, 3) := by decide +kernel
theorem dX11_arrive_5 : decode cX11_arrive 5 = .ok (.ifCond .eq 17, 3) := by decide +kernel
theorem dX11_arrive_22 : decode cX11_arrive 22 = .ok (.bipush (-2), 2) := by decide +kernel
theorem dX11_arrive_24 : decode cX11_arrive 24 = .ok (.ireturn, 1) := by decide +kernel
theorem dX11_reach_0 : decode cX11_reach 0 = .ok (.iload_n 1, 1) := by decide +kernel
theorem dX11_reach_1 : decode cX11_reach 1 = .ok (.invokestatic 122, 3) := by decide +kernel
theorem dX11_reach_4 : decode cX11_reach 4 = .ok (.ifCond .eq 14, 3) := by decide +kernel
theorem dX11_reach_18 : decode cX11_reach 18 = .ok (.bipush (-2), 2) := by decide +kernel
theorem dX11_reach_20 : decode cX11_reach 20 = .ok (.ireturn, 1) := by decide +kernel
theorem dX11_reach_7 : decode cX11_reach 7 = .ok (.iload_n 2, 1) := by decide +kernel
theorem dX11_reach_8 : decode cX11_reach 8 = .ok (.ifCond .lt 10, 3) := by decide +kernel
theorem dX11_reach_11 : decode cX11_reach 11 = .ok (.iload_n 2, 1) := by decide +kernel
theorem dX11_reach_12 : decode cX11_reach 12 = .ok (.sipush 9999, 3) := by decide +kernel
theorem dX11_reach_15 : decode cX11_reach 15 = .ok (.if_icmp .le 6, 3) := by decide +kernel
theorem dX11_reach_21 : decode cX11_reach 21 = .ok (.aload_n 0, 1) := by decide +kernel
theorem dX11_reach_22 : decode cX11_reach 22 = .ok (.getfield 27, 3) := by decide +kernel
theorem dX11_reach_25 : decode cX11_reach 25 = .ok (.getfield 88, 3) := by decide +kernel
theorem dX11_reach_28 : decode cX11_reach 28 = .ok (.getfield 278, 3) := by decide +kernel
theorem dX11_reach_31 : decode cX11_reach 31 = .ok (.iconst (-1), 1) := by decide +kernel
theorem dX11_reach_32 : decode cX11_reach 32 = .ok (.if_icmp .ne 6, 3) := by decide +kernel
theorem dX11_reach_35 : decode cX11_reach 35 = .ok (.bipush (-6), 2) := by decide +kernel
theorem dX11_reach_37 : decode cX11_reach 37 = .ok (.ireturn, 1) := by decide +kernel
theorem dX11_afternoon_0 : decode cX11_afternoon 0 = .ok (.iload_n 1, 1) := by decide +kernel
theorem dX11_afternoon_1 : decode cX11_afternoon 1 = .ok (.ifCond .lt 8, 3) := by decide +kernel
theorem dX11_afternoon_9 : decode cX11_afternoon 9 = .ok (.bipush (-2), 2) := by decide +kernel
theorem dX11_afternoon_11 : decode cX11_afternoon 11 = .ok (.ireturn, 1) := by decide +kernel
theorem dX11_afternoon_4 : decode cX11_afternoon 4 = .ok (.iload_n 1, 1) := by decide +kernel
theorem dX11_afternoon_5 : decode cX11_afternoon 5 = .ok (.iconst 2, 1) := by decide +kernel
theorem dX11_afternoon_6 : decode cX11_afternoon 6 = .ok (.if_icmp .le 6, 3) := by decide +kernel
theorem dX11_afternoon_12 : decode cX11_afternoon 12 = .ok (.aload_n 0, 1) := by decide +kernel
theorem dX11_afternoon_13 : decode cX11_afternoon 13 = .ok (.iconst 0, 1) := by decide +kernel
theorem dX11_afternoon_14 : decode cX11_afternoon 14 = .ok (.invokevirtual 222, 3) := by decide +kernel
theorem dX11_afternoon_17 : decode cX11_afternoon 17 = .ok (.ifCond .eq 33, 3) := by decide +kernel
theorem dX11_afternoon_50 : decode cX11_afternoon 50 = .ok (.bipush (-5), 2) := by decide +kernel
theorem dX11_afternoon_52 : decode cX11_afternoon 52 = .ok (.ireturn, 1) := by decide +kernel
theorem dX11_sumBack_0 : decode cX11_sumBack 0 = .ok (.iload_n 1, 1) := by decide +kernel
theorem dX11_sumBack_1 : decode cX11_sumBack 1 = .ok (.invokestatic 122, 3) := by decide +kernel
theorem dX11_sumBack_4 : decode cX11_sumBack 4 = .ok (.ifCond .eq 32, 3) := by decide +kernel
theorem dX11_sumBack_36 : decode cX11_sumBack 36 = .ok (.bipush (-2), 2) := by decide +kernel
theorem dX11_sumBack_38 : decode cX11_sumBack 38 = .ok (.ireturn, 1) := by decide +kernel
theorem dX11_sumBack_7 : decode cX11_sumBack 7 = .ok (.aload_n 0, 1) := by decide +kernel
theorem dX11_sumBack_8 : decode cX11_sumBack 8 = .ok (.getfield 44, 3) := by decide +kernel
theorem dX11_sumBack_11 : decode cX11_sumBack 11 = .ok (.aload_n 0, 1) := by decide +kernel
theorem dX11_sumBack_12 : decode cX11_sumBack 12 = .ok (.getfield 27, 3) := by decide +kernel
theorem dX11_sumBack_15 : decode cX11_sumBack 15 = .ok (.getfield 88, 3) := by decide +kernel
theorem dX11_sumBack_18 : decode cX11_sumBack 18 = .ok (.aload_n 0, 1) := by decide +kernel
theorem dX11_sumBack_19 : decode cX11_sumBack 19 = .ok (.getfield 27, 3) := by decide +kernel
theorem dX11_sumBack_22 : decode cX11_sumBack 22 = .ok (.getfield 133, 3) := by decide +kernel
theorem dX11_sumBack_25 : decode cX11_sumBack 25 = .ok (.iload_n 1, 1) := by decide +kernel
theorem dX11_sumBack_26 : decode cX11_sumBack 26 = .ok (.aaload, 1) := by decide +kernel
theorem dX11_sumBack_27 : decode cX11_sumBack 27 = .ok (.iconst 1, 1) := by decide +kernel
theorem dX11_sumBack_28 : decode cX11_sumBack 28 = .ok (.ldc 207, 2) := by decide +kernel
theorem dX11_sumBack_30 : decode cX11_sumBack 30 = .ok (.invokevirtual 208, 3) := by decide +kernel
theorem dX11_sumBack_33 : decode cX11_sumBack 33 = .ok (.goto 5, 3) := by decide +kernel
theorem dX11_walk_0 : decode cX11_walk 0 = .ok (.iload_n 1, 1) := by decide +kernel
theorem dX11_walk_1 : decode cX11_walk 1 = .ok (.invokestatic 122, 3) := by decide +kernel
theorem dX11_walk_4 : decode cX11_walk 4 = .ok (.ifCond .eq 21, 3) := by decide +kernel
theorem dX11_walk_25 : decode cX11_walk 25 = .ok (.bipush (-2), 2) := by decide +kernel
theorem dX11_walk_27 : decode cX11_walk 27 = .ok (.ireturn, 1) := by decide +kernel
theorem dX11_walk_7 : decode cX11_walk 7 = .ok (.aload_n 0, 1) := by decide +kernel
theorem dX11_walk_8 : decode cX11_walk 8 = .ok (.iload_n 2, 1) := by decide +kernel
theorem dX11_walk_9 : decode cX11_walk 9 = .ok (.invokevirtual 191, 3) := by decide +kernel
theorem dX11_walk_12 : decode cX11_walk 12 = .ok (.ifCond .eq 13, 3) := by decide +kernel
theorem dX11_walk_15 : decode cX11_walk 15 = .ok (.iload_n 3, 1) := by decide +kernel
theorem dX11_walk_16 : decode cX11_walk 16 = .ok (.ifCond .lt 9, 3) := by decide +kernel
theorem dX11_walk_19 : decode cX11_walk 19 = .ok (.iload_n 3, 1) := by decide +kernel
theorem dX11_walk_20 : decode cX11_walk 20 = .ok (.bipush 100, 2) := by decide +kernel
theorem dX11_walk_22 : decode cX11_walk 22 = .ok (.if_icmp .le 6, 3) := by decide +kernel
theorem dX11_walk_28 : decode cX11_walk 28 = .ok (.iload_n 2, 1) := by decide +kernel
theorem dX11_walk_29 : decode cX11_walk 29 = .ok (.istore 4, 2) := by decide +kernel
theorem dX11_walk_31 : decode cX11_walk 31 = .ok (.iconst (-1), 1) := by decide +kernel
theorem dX11_walk_32 : decode cX11_walk 32 = .ok (.istore 5, 2) := by decide +kernel
theorem dX11_walk_34 : decode cX11_walk 34 = .ok (.iconst 0, 1) := by decide +kernel
theorem dX11_walk_35 : decode cX11_walk 35 = .ok (.istore 6, 2) := by decide +kernel
theorem dX11_walk_37 : decode cX11_walk 37 = .ok (.iload 6, 2) := by decide +kernel
theorem dX11_walk_39 : decode cX11_walk 39 = .ok (.iload_n 3, 1) := by decide +kernel
theorem dX11_walk_40 : decode cX11_walk 40 = .ok (.if_icmp .ge 67, 3) := by decide +kernel
theorem dX11_walk_107 : decode cX11_walk 107 = .ok (.iload 4, 2) := by decide +kernel
theorem dX11_walk_109 : decode cX11_walk 109 = .ok (.ireturn, 1) := by decide +kernel
theorem dX11_walk_43 : decode cX11_walk 43 = .ok (.aload_n 0, 1) := by decide +kernel
theorem dX11_walk_44 : decode cX11_walk 44 = .ok (.getfield 44, 3) := by decide +kernel
theorem dX11_walk_47 : decode cX11_walk 47 = .ok (.aload_n 0, 1) := by decide +kernel
theorem dX11_walk_48 : decode cX11_walk 48 = .ok (.getfield 27, 3) := by decide +kernel
theorem dX11_walk_51 : decode cX11_walk 51 = .ok (.getfield 88, 3) := by decide +kernel
theorem dX11_walk_54 : decode cX11_walk 54 = .ok (.aload_n 0, 1) := by decide +kernel
theorem dX11_walk_55 : decode cX11_walk 55 = .ok (.getfield 27, 3) := by decide +kernel
theorem dX11_walk_58 : decode cX11_walk 58 = .ok (.getfield 133, 3) := by decide +kernel
theorem dX11_walk_61 : decode cX11_walk 61 = .ok (.iload_n 1, 1) := by decide +kernel
theorem dX11_walk_62 : decode cX11_walk 62 = .ok (.aaload, 1) := by decide +kernel
theorem dX11_walk_63 : decode cX11_walk 63 = .ok (.iload 4, 2) := by decide +kernel
theorem dX11_walk_65 : decode cX11_walk 65 = .ok (.iload 5, 2) := by decide +kernel
theorem dX11_walk_67 : decode cX11_walk 67 = .ok (.invokevirtual 326, 3) := by decide +kernel
theorem dX2_strollFrom_0 : decode cX2_strollFrom 0 = .ok (.iconst (-1), 1) := by decide +kernel
theorem dX2_strollFrom_1 : decode cX2_strollFrom 1 = .ok (.istore 5, 2) := by decide +kernel
theorem dX2_strollFrom_3 : decode cX2_strollFrom 3 = .ok (.aload_n 1, 1) := by decide +kernel
theorem dX2_strollFrom_4 : decode cX2_strollFrom 4 = .ok (.getfield 81, 3) := by decide +kernel
theorem dX2_strollFrom_7 : decode cX2_strollFrom 7 = .ok (.iload_n 3, 1) := by decide +kernel
theorem dX2_strollFrom_8 : decode cX2_strollFrom 8 = .ok (.iaload, 1) := by decide +kernel
theorem dX2_strollFrom_9 : decode cX2_strollFrom 9 = .ok (.istore 6, 2) := by decide +kernel
theorem dX2_strollFrom_11 : decode cX2_strollFrom 11 = .ok (.iload 6, 2) := by decide +kernel
theorem dX2_strollFrom_13 : decode cX2_strollFrom 13 = .ok (.aload_n 1, 1) := by decide +kernel
theorem dX2_strollFrom_14 : decode cX2_strollFrom 14 = .ok (.getfield 81, 3) := by decide +kernel
theorem dX2_strollFrom_17 : decode cX2_strollFrom 17 = .ok (.iload_n 3, 1) := by decide +kernel
theorem dX2_strollFrom_18 : decode cX2_strollFrom 18 = .ok (.iconst 1, 1) := by decide +kernel
theorem dX2_strollFrom_19 : decode cX2_strollFrom 19 = .ok (.iadd, 1) := by decide +kernel
theorem dX2_strollFrom_20 : decode cX2_strollFrom 20 = .ok (.iaload, 1) := by decide +kernel
theorem dX2_strollFrom_21 : decode cX2_strollFrom 21 = .ok (.if_icmp .ge 43, 3) := by decide +kernel
theorem dX2_strollFrom_64 : decode cX2_strollFrom 64 = .ok (.iload 5, 2) := by decide +kernel
theorem dX2_strollFrom_66 : decode cX2_strollFrom 66 = .ok (.ireturn, 1) := by decide +kernel
theorem dX11_walk_70 : decode cX11_walk 70 = .ok (.istore 7, 2) := by decide +kernel
theorem dX11_walk_72 : decode cX11_walk 72 = .ok (.iload 7, 2) := by decide +kernel
theorem dX11_walk_74 : decode cX11_walk 74 = .ok (.iconst (-1), 1) := by decide +kernel
theorem dX11_walk_75 : decode cX11_walk 75 = .ok (.if_icmp .ne 6, 3) := by decide +kernel
theorem dX11_walk_78 : decode cX11_walk 78 = .ok (.iload 4, 2) := by decide +kernel
theorem dX11_walk_80 : decode cX11_walk 80 = .ok (.ireturn, 1) := by decide +kernel
theorem dX11_change_0 : decode cX11_change 0 = .ok (.aload_n 0, 1) := by decide +kernel
theorem dX11_change_1 : decode cX11_change 1 = .ok (.aload_n 0, 1) := by decide +kernel
theorem dX11_change_2 : decode cX11_change 2 = .ok (.getfield 27, 3) := by decide +kernel
theorem dX11_change_5 : decode cX11_change 5 = .ok (.getfield 133, 3) := by decide +kernel
theorem dX11_change_8 : decode cX11_change 8 = .ok (.iconst 0, 1) := by decide +kernel
theorem dX11_change_9 : decode cX11_change 9 = .ok (.aaload, 1) := by decide +kernel
theorem dX11_change_10 : decode cX11_change 10 = .ok (.aload_n 0, 1) := by decide +kernel
theorem dX11_change_11 : decode cX11_change 11 = .ok (.getfield 27, 3) := by decide +kernel
theorem dX11_change_14 : decode cX11_change 14 = .ok (.getfield 133, 3) := by decide +kernel
theorem dX11_change_17 : decode cX11_change 17 = .ok (.iconst 1, 1) := by decide +kernel
theorem dX11_change_18 : decode cX11_change 18 = .ok (.aaload, 1) := by decide +kernel
theorem dX11_change_19 : decode cX11_change 19 = .ok (.invokevirtual 329, 3) := by decide +kernel
theorem dX11_differing_0 : decode cX11_differing 0 = .ok (.iconst 0, 1) := by decide +kernel
theorem dX11_differing_1 : decode cX11_differing 1 = .ok (.istore_n 3, 1) := by decide +kernel
theorem dX11_differing_2 : decode cX11_differing 2 = .ok (.iconst 0, 1) := by decide +kernel
theorem dX11_differing_3 : decode cX11_differing 3 = .ok (.istore 4, 2) := by decide +kernel
theorem dX11_differing_5 : decode cX11_differing 5 = .ok (.iload 4, 2) := by decide +kernel
theorem dX11_differing_7 : decode cX11_differing 7 = .ok (.aload_n 0, 1) := by decide +kernel
theorem dX11_differing_8 : decode cX11_differing 8 = .ok (.getfield 27, 3) := by decide +kernel
theorem dX11_differing_11 : decode cX11_differing 11 = .ok (.getfield 88, 3) := by decide +kernel
theorem dX11_differing_14 : decode cX11_differing 14 = .ok (.getfield 147, 3) := by decide +kernel
theorem dX11_differing_17 : decode cX11_differing 17 = .ok (.if_icmp .ge 23, 3) := by decide +kernel
theorem dX11_differing_40 : decode cX11_differing 40 = .ok (.iload_n 3, 1) := by decide +kernel
theorem dX11_differing_41 : decode cX11_differing 41 = .ok (.ireturn, 1) := by decide +kernel
theorem dX11_change_22 : decode cX11_change 22 = .ok (.ireturn, 1) := by decide +kernel
theorem dX11_signs_0 : decode cX11_signs 0 = .ok (.iload_n 1, 1) := by decide +kernel
theorem dX11_signs_1 : decode cX11_signs 1 = .ok (.invokestatic 122, 3) := by decide +kernel
theorem dX11_signs_4 : decode cX11_signs 4 = .ok (.ifCond .eq 25, 3) := by decide +kernel
theorem dX11_signs_29 : decode cX11_signs 29 = .ok (.bipush (-2), 2) := by decide +kernel
theorem dX11_signs_31 : decode cX11_signs 31 = .ok (.ireturn, 1) := by decide +kernel
theorem dX11_signs_7 : decode cX11_signs 7 = .ok (.aload_n 0, 1) := by decide +kernel
theorem dX11_signs_8 : decode cX11_signs 8 = .ok (.getfield 27, 3) := by decide +kernel
theorem dX11_signs_11 : decode cX11_signs 11 = .ok (.getfield 88, 3) := by decide +kernel
theorem dX11_signs_14 : decode cX11_signs 14 = .ok (.aload_n 0, 1) := by decide +kernel
theorem dX11_signs_15 : decode cX11_signs 15 = .ok (.getfield 27, 3) := by decide +kernel
theorem dX11_signs_18 : decode cX11_signs 18 = .ok (.getfield 133, 3) := by decide +kernel
theorem dX11_signs_21 : decode cX11_signs 21 = .ok (.iload_n 1, 1) := by decide +kernel
theorem dX11_signs_22 : decode cX11_signs 22 = .ok (.aaload, 1) := by decide +kernel
theorem dX11_signs_23 : decode cX11_signs 23 = .ok (.invokevirtual 333, 3) := by decide +kernel
theorem dX8_signsFor_0 : decode cX8_signsFor 0 = .ok (.iconst 0, 1) := by decide +kernel
theorem dX8_signsFor_1 : decode cX8_signsFor 1 = .ok (.istore_n 2, 1) := by decide +kernel
theorem dX8_signsFor_2 : decode cX8_signsFor 2 = .ok (.iconst 0, 1) := by decide +kernel
theorem dX8_signsFor_3 : decode cX8_signsFor 3 = .ok (.istore_n 3, 1) := by decide +kernel
theorem dX8_signsFor_4 : decode cX8_signsFor 4 = .ok (.iload_n 3, 1) := by decide +kernel
theorem dX8_signsFor_5 : decode cX8_signsFor 5 = .ok (.aload_n 0, 1) := by decide +kernel
theorem dX8_signsFor_6 : decode cX8_signsFor 6 = .ok (.getfield 15, 3) := by decide +kernel
theorem dX8_signsFor_9 : decode cX8_signsFor 9 = .ok (.if_icmp .ge 98, 3) := by decide +kernel
theorem dX8_signsFor_12 : decode cX8_signsFor 12 = .ok (.aload_n 0, 1) := by decide +kernel
theorem dX8_signsFor_13 : decode cX8_signsFor 13 = .ok (.getfield 63, 3) := by decide +kernel
theorem dX8_signsFor_16 : decode cX8_signsFor 16 = .ok (.iload_n 3, 1) := by decide +kernel
theorem dX8_signsFor_17 : decode cX8_signsFor 17 = .ok (.iconst 1, 1) := by decide +kernel
theorem dX8_signsFor_18 : decode cX8_signsFor 18 = .ok (.iadd, 1) := by decide +kernel
theorem dX8_signsFor_19 : decode cX8_signsFor 19 = .ok (.iaload, 1) := by decide +kernel
theorem dX8_signsFor_20 : decode cX8_signsFor 20 = .ok (.aload_n 0, 1) := by decide +kernel
theorem dX8_signsFor_21 : decode cX8_signsFor 21 = .ok (.getfield 63, 3) := by decide +kernel
theorem dX8_signsFor_24 : decode cX8_signsFor 24 = .ok (.iload_n 3, 1) := by decide +kernel
theorem dX8_signsFor_25 : decode cX8_signsFor 25 = .ok (.iaload, 1) := by decide +kernel
theorem dX8_signsFor_26 : decode cX8_signsFor 26 = .ok (.isub, 1) := by decide +kernel
theorem dX8_signsFor_27 : decode cX8_signsFor 27 = .ok (.istore 4, 2) := by decide +kernel
theorem dX8_signsFor_29 : decode cX8_signsFor 29 = .ok (.iconst 0, 1) := by decide +kernel
theorem dX8_signsFor_30 : decode cX8_signsFor 30 = .ok (.istore 5, 2) := by decide +kernel
theorem dX8_signsFor_32 : decode cX8_signsFor 32 = .ok (.aload_n 0, 1) := by decide +kernel
theorem dX8_signsFor_33 : decode cX8_signsFor 33 = .ok (.getfield 63, 3) := by decide +kernel
theorem dX8_signsFor_36 : decode cX8_signsFor 36 = .ok (.iload_n 3, 1) := by decide +kernel
theorem dX8_signsFor_37 : decode cX8_signsFor 37 = .ok (.iaload, 1) := by decide +kernel
theorem dX8_signsFor_38 : decode cX8_signsFor 38 = .ok (.istore 6, 2) := by decide +kernel
theorem dX8_signsFor_40 : decode cX8_signsFor 40 = .ok (.iload 6, 2) := by decide +kernel
theorem dX8_signsFor_42 : decode cX8_signsFor 42 = .ok (.aload_n 0, 1) := by decide +kernel
theorem dX8_signsFor_43 : decode cX8_signsFor 43 = .ok (.getfield 63, 3) := by decide +kernel
theorem dX8_signsFor_46 : decode cX8_signsFor 46 = .ok (.iload_n 3, 1) := by decide +kernel
theorem dX8_signsFor_47 : decode cX8_signsFor 47 = .ok (.iconst 1, 1) := by decide +kernel
theorem dX8_signsFor_48 : decode cX8_signsFor 48 = .ok (.iadd, 1) := by decide +kernel
theorem dX8_signsFor_49 : decode cX8_signsFor 49 = .ok (.iaload, 1) := by decide +kernel
theorem dX8_signsFor_50 : decode cX8_signsFor 50 = .ok (.if_icmp .ge 28, 3) := by decide +kernel
theorem dX8_signsFor_78 : decode cX8_signsFor 78 = .ok (.iload_n 2, 1) := by decide +kernel
theorem dX8_signsFor_79 : decode cX8_signsFor 79 = .ok (.iload 5, 2) := by decide +kernel
theorem dX8_signsFor_81 : decode cX8_signsFor 81 = .ok (.ifCond .le 16, 3) := by decide +kernel
theorem dX8_signsFor_97 : decode cX8_signsFor 97 = .ok (.iload 5, 2) := by decide +kernel
theorem dX8_signsFor_99 : decode cX8_signsFor 99 = .ok (.iadd, 1) := by decide +kernel
theorem dX8_signsFor_100 : decode cX8_signsFor 100 = .ok (.istore_n 2, 1) := by decide +kernel
theorem dX8_signsFor_101 : decode cX8_signsFor 101 = .ok (.iinc 3 1, 3) := by decide +kernel
theorem dX8_signsFor_104 : decode cX8_signsFor 104 = .ok (.goto (-100), 3) := by decide +kernel
theorem dX8_signsFor_107 : decode cX8_signsFor 107 = .ok (.iload_n 2, 1) := by decide +kernel
theorem dX8_signsFor_108 : decode cX8_signsFor 108 = .ok (.ireturn, 1) := by decide +kernel
theorem dX11_signs_26 : decode cX11_signs 26 = .ok (.goto 5, 3) := by decide +kernel
theorem dX11_gone_0 : decode cX11_gone 0 = .ok (.iload_n 1, 1) := by decide +kernel
theorem dX11_gone_1 : decode cX11_gone 1 = .ok (.invokestatic 122, 3) := by decide +kernel
theorem dX11_gone_4 : decode cX11_gone 4 = .ok (.ifCond .eq 11, 3) := by decide +kernel
theorem dX11_gone_15 : decode cX11_gone 15 = .ok (.bipush (-2), 2) := by decide +kernel
theorem dX11_gone_17 : decode cX11_gone 17 = .ok (.ireturn, 1) := by decide +kernel
theorem dX11_gone_7 : decode cX11_gone 7 = .ok (.aload_n 0, 1) := by decide +kernel
theorem dX11_gone_8 : decode cX11_gone 8 = .ok (.iload_n 2, 1) := by decide +kernel
theorem dX11_gone_9 : decode cX11_gone 9 = .ok (.invokevirtual 201, 3) := by decide +kernel
theorem dX11_gone_12 : decode cX11_gone 12 = .ok (.ifCond .ne 6, 3) := by decide +kernel
theorem dX11_load_0 : decode cX11_load 0 = .ok (.iload_n 1, 1) := by decide +kernel
theorem dX11_load_1 : decode cX11_load 1 = .ok (.invokestatic 122, 3) := by decide +kernel
theorem dX11_load_4 : decode cX11_load 4 = .ok (.ifCond .eq 11, 3) := by decide +kernel
theorem dX11_load_15 : decode cX11_load 15 = .ok (.bipush (-2), 2) := by decide +kernel
theorem dX11_load_17 : decode cX11_load 17 = .ok (.ireturn, 1) := by decide +kernel
theorem dX11_load_7 : decode cX11_load 7 = .ok (.aload_n 0, 1) := by decide +kernel
theorem dX11_load_8 : decode cX11_load 8 = .ok (.iload_n 2, 1) := by decide +kernel
theorem dX11_load_9 : decode cX11_load 9 = .ok (.invokevirtual 126, 3) := by decide +kernel
theorem dX11_load_12 : decode cX11_load 12 = .ok (.ifCond .ne 6, 3) := by decide +kernel
theorem dX11_busiest_0 : decode cX11_busiest 0 = .ok (.iload_n 1, 1) := by decide +kernel
theorem dX11_busiest_1 : decode cX11_busiest 1 = .ok (.invokestatic 122, 3) := by decide +kernel
theorem dX11_busiest_4 : decode cX11_busiest 4 = .ok (.ifCond .ne 6, 3) := by decide +kernel
theorem dX11_busiest_7 : decode cX11_busiest 7 = .ok (.bipush (-2), 2) := by decide +kernel
theorem dX11_busiest_9 : decode cX11_busiest 9 = .ok (.ireturn, 1) := by decide +kernel
theorem dX11_busiest_10 : decode cX11_busiest 10 = .ok (.aload_n 0, 1) := by decide +kernel
theorem dX11_busiest_11 : decode cX11_busiest 11 = .ok (.getfield 44, 3) := by decide +kernel
theorem dX11_busiest_14 : decode cX11_busiest 14 = .ok (.aload_n 0, 1) := by decide +kernel
theorem dX11_busiest_15 : decode cX11_busiest 15 = .ok (.getfield 27, 3) := by decide +kernel
theorem dX11_busiest_18 : decode cX11_busiest 18 = .ok (.getfield 88, 3) := by decide +kernel
theorem dX11_busiest_21 : decode cX11_busiest 21 = .ok (.aload_n 0, 1) := by decide +kernel
theorem dX11_busiest_22 : decode cX11_busiest 22 = .ok (.getfield 27, 3) := by decide +kernel
theorem dX11_busiest_25 : decode cX11_busiest 25 = .ok (.getfield 133, 3) := by decide +kernel
theorem dX11_busiest_28 : decode cX11_busiest 28 = .ok (.iload_n 1, 1) := by decide +kernel
theorem dX11_busiest_29 : decode cX11_busiest 29 = .ok (.aaload, 1) := by decide +kernel
theorem dX11_busiest_30 : decode cX11_busiest 30 = .ok (.invokevirtual 339, 3) := by decide +kernel
theorem dX2_carryAll_0 : decode cX2_carryAll 0 = .ok (.aload_n 0, 1) := by decide +kernel
theorem dX2_carryAll_1 : decode cX2_carryAll 1 = .ok (.getfield 18, 3) := by decide +kernel
theorem dX2_carryAll_4 : decode cX2_carryAll 4 = .ok (.iconst 0, 1) := by decide +kernel
theorem dX2_carryAll_5 : decode cX2_carryAll 5 = .ok (.invokestatic 61, 3) := by decide +kernel
theorem dX2_carryAll_8 : decode cX2_carryAll 8 = .ok (.iconst 0, 1) := by decide +kernel
theorem dX2_carryAll_9 : decode cX2_carryAll 9 = .ok (.istore_n 3, 1) := by decide +kernel
theorem dX2_carryAll_10 : decode cX2_carryAll 10 = .ok (.iload_n 3, 1) := by decide +kernel
theorem dX2_carryAll_11 : decode cX2_carryAll 11 = .ok (.aload_n 1, 1) := by decide +kernel
theorem dX2_carryAll_12 : decode cX2_carryAll 12 = .ok (.getfield 111, 3) := by decide +kernel
theorem dX2_carryAll_15 : decode cX2_carryAll 15 = .ok (.getfield 119, 3) := by decide +kernel
theorem dX2_carryAll_18 : decode cX2_carryAll 18 = .ok (.if_icmp .ge 89, 3) := by decide +kernel
theorem dX2_carryAll_107 : decode cX2_carryAll 107 = .ok (.return_, 1) := by decide +kernel
theorem dX11_busiest_33 : decode cX11_busiest 33 = .ok (.iconst (-1), 1) := by decide +kernel
theorem dX11_busiest_34 : decode cX11_busiest 34 = .ok (.istore_n 2, 1) := by decide +kernel
theorem dX11_busiest_35 : decode cX11_busiest 35 = .ok (.iconst 0, 1) := by decide +kernel
theorem dX11_busiest_36 : decode cX11_busiest 36 = .ok (.istore_n 3, 1) := by decide +kernel
theorem dX11_busiest_37 : decode cX11_busiest 37 = .ok (.iload_n 3, 1) := by decide +kernel
theorem dX11_busiest_38 : decode cX11_busiest 38 = .ok (.aload_n 0, 1) := by decide +kernel
theorem dX11_busiest_39 : decode cX11_busiest 39 = .ok (.getfield 27, 3) := by decide +kernel
theorem dX11_busiest_42 : decode cX11_busiest 42 = .ok (.getfield 88, 3) := by decide +kernel
theorem dX11_busiest_45 : decode cX11_busiest 45 = .ok (.getfield 147, 3) := by decide +kernel
theorem dX11_busiest_48 : decode cX11_busiest 48 = .ok (.if_icmp .ge 37, 3) := by decide +kernel
theorem dX11_busiest_85 : decode cX11_busiest 85 = .ok (.iload_n 2, 1) := by decide +kernel
theorem dX11_busiest_86 : decode cX11_busiest 86 = .ok (.ireturn, 1) := by decide +kernel
theorem dX11_judge_0 : decode cX11_judge 0 = .ok (.iload_n 1, 1) := by decide +kernel
theorem dX11_judge_1 : decode cX11_judge 1 = .ok (.invokestatic 137, 3) := by decide +kernel
theorem dX11_judge_4 : decode cX11_judge 4 = .ok (.ifCond .eq 13, 3) := by decide +kernel
theorem dX11_judge_17 : decode cX11_judge 17 = .ok (.bipush (-2), 2) := by decide +kernel
theorem dX11_judge_19 : decode cX11_judge 19 = .ok (.ireturn, 1) := by decide +kernel
theorem dX11_judge_7 : decode cX11_judge 7 = .ok (.iload_n 2, 1) := by decide +kernel
theorem dX11_judge_8 : decode cX11_judge 8 = .ok (.ifCond .lt 9, 3) := by decide +kernel
theorem dX11_judge_11 : decode cX11_judge 11 = .ok (.iload_n 2, 1) := by decide +kernel
theorem dX11_judge_12 : decode cX11_judge 12 = .ok (.bipush 6, 2) := by decide +kernel
theorem dX11_judge_14 : decode cX11_judge 14 = .ok (.if_icmp .le 6, 3) := by decide +kernel
theorem dX11_judge_20 : decode cX11_judge 20 = .ok (.aload_n 0, 1) := by decide +kernel
theorem dX11_judge_21 : decode cX11_judge 21 = .ok (.getfield 37, 3) := by decide +kernel
theorem dX11_judge_24 : decode cX11_judge 24 = .ok (.iload_n 1, 1) := by decide +kernel
theorem dX11_judge_25 : decode cX11_judge 25 = .ok (.aaload, 1) := by decide +kernel
theorem dX11_judge_26 : decode cX11_judge 26 = .ok (.invokevirtual 140, 3) := by decide +kernel
theorem dX11_judge_29 : decode cX11_judge 29 = .ok (.ifCond .ne 6, 3) := by decide +kernel
theorem dX11_judge_32 : decode cX11_judge 32 = .ok (.bipush (-6), 2) := by decide +kernel
theorem dX11_judge_34 : decode cX11_judge 34 = .ok (.ireturn, 1) := by decide +kernel
theorem dX11_spare_0 : decode cX11_spare 0 = .ok (.iload_n 1, 1) := by decide +kernel
theorem dX11_spare_1 : decode cX11_spare 1 = .ok (.invokestatic 122, 3) := by decide +kernel
theorem dX11_spare_4 : decode cX11_spare 4 = .ok (.ifCond .eq 14, 3) := by decide +kernel
theorem dX11_spare_18 : decode cX11_spare 18 = .ok (.bipush (-2), 2) := by decide +kernel
theorem dX11_spare_20 : decode cX11_spare 20 = .ok (.ireturn, 1) := by decide +kernel
theorem dX11_spare_7 : decode cX11_spare 7 = .ok (.iload_n 2, 1) := by decide +kernel
theorem dX11_spare_8 : decode cX11_spare 8 = .ok (.iconst 1, 1) := by decide +kernel
theorem dX11_spare_9 : decode cX11_spare 9 = .ok (.if_icmp .lt 9, 3) := by decide +kernel
theorem dX11_spare_12 : decode cX11_spare 12 = .ok (.iload_n 2, 1) := by decide +kernel
theorem dX11_spare_13 : decode cX11_spare 13 = .ok (.bipush 60, 2) := by decide +kernel
theorem dX11_spare_15 : decode cX11_spare 15 = .ok (.if_icmp .le 6, 3) := by decide +kernel
theorem dX11_spare_21 : decode cX11_spare 21 = .ok (.aload_n 0, 1) := by decide +kernel
theorem dX11_spare_22 : decode cX11_spare 22 = .ok (.getfield 44, 3) := by decide +kernel
theorem dX11_spare_25 : decode cX11_spare 25 = .ok (.aload_n 0, 1) := by decide +kernel
theorem dX11_spare_26 : decode cX11_spare 26 = .ok (.getfield 27, 3) := by decide +kernel
theorem dX11_spare_29 : decode cX11_spare 29 = .ok (.getfield 88, 3) := by decide +kernel
theorem dX11_spare_32 : decode cX11_spare 32 = .ok (.aload_n 0, 1) := by decide +kernel
theorem dX11_spare_33 : decode cX11_spare 33 = .ok (.getfield 27, 3) := by decide +kernel
theorem dX11_spare_36 : decode cX11_spare 36 = .ok (.getfield 133, 3) := by decide +kernel
theorem dX11_spare_39 : decode cX11_spare 39 = .ok (.iload_n 1, 1) := by decide +kernel
theorem dX11_spare_40 : decode cX11_spare 40 = .ok (.aaload, 1) := by decide +kernel
theorem dX11_spare_41 : decode cX11_spare 41 = .ok (.iconst 0, 1) := by decide +kernel
theorem dX11_spare_42 : decode cX11_spare 42 = .ok (.ldc 207, 2) := by decide +kernel
theorem dX11_spare_44 : decode cX11_spare 44 = .ok (.invokevirtual 208, 3) := by decide +kernel
theorem dX11_spare_47 : decode cX11_spare 47 = .ok (.iconst (-1), 1) := by decide +kernel
theorem dX11_spare_48 : decode cX11_spare 48 = .ok (.if_icmp .ne 6, 3) := by decide +kernel
theorem dX11_spare_54 : decode cX11_spare 54 = .ok (.aload_n 0, 1) := by decide +kernel
theorem dX11_spare_55 : decode cX11_spare 55 = .ok (.getfield 44, 3) := by decide +kernel
theorem dX11_spare_58 : decode cX11_spare 58 = .ok (.aload_n 0, 1) := by decide +kernel
theorem dX11_spare_59 : decode cX11_spare 59 = .ok (.getfield 27, 3) := by decide +kernel
theorem dX11_spare_62 : decode cX11_spare 62 = .ok (.getfield 88, 3) := by decide +kernel
theorem dX11_spare_65 : decode cX11_spare 65 = .ok (.aload_n 0, 1) := by decide +kernel
theorem dX11_spare_66 : decode cX11_spare 66 = .ok (.getfield 27, 3) := by decide +kernel
theorem dX11_spare_69 : decode cX11_spare 69 = .ok (.getfield 133, 3) := by decide +kernel
theorem dX11_spare_72 : decode cX11_spare 72 = .ok (.iload_n 1, 1) := by decide +kernel
theorem dX11_spare_73 : decode cX11_spare 73 = .ok (.aaload, 1) := by decide +kernel
theorem dX11_spare_74 : decode cX11_spare 74 = .ok (.aload_n 0, 1) := by decide +kernel
theorem dX11_spare_75 : decode cX11_spare 75 = .ok (.getfield 44, 3) := by decide +kernel
theorem dX11_spare_78 : decode cX11_spare 78 = .ok (.getfield 253, 3) := by decide +kernel
theorem dX11_spare_81 : decode cX11_spare 81 = .ok (.invokevirtual 256, 3) := by decide +kernel
theorem dX11_spare_84 : decode cX11_spare 84 = .ok (.iconst (-1), 1) := by decide +kernel
theorem dX11_spare_85 : decode cX11_spare 85 = .ok (.istore_n 3, 1) := by decide +kernel
theorem dX11_spare_86 : decode cX11_spare 86 = .ok (.iconst 0, 1) := by decide +kernel
theorem dX11_spare_87 : decode cX11_spare 87 = .ok (.istore 4, 2) := by decide +kernel
theorem dX11_spare_89 : decode cX11_spare 89 = .ok (.iload 4, 2) := by decide +kernel
theorem dX11_spare_91 : decode cX11_spare 91 = .ok (.aload_n 0, 1) := by decide +kernel
theorem dX11_spare_92 : decode cX11_spare 92 = .ok (.getfield 27, 3) := by decide +kernel
theorem dX11_spare_95 : decode cX11_spare 95 = .ok (.getfield 88, 3) := by decide +kernel
theorem dX11_spare_98 : decode cX11_spare 98 = .ok (.getfield 175, 3) := by decide +kernel
theorem dX11_spare_101 : decode cX11_spare 101 = .ok (.if_icmp .ge 78, 3) := by decide +kernel
theorem dX11_spare_104 : decode cX11_spare 104 = .ok (.iload 4, 2) := by decide +kernel
theorem dX11_spare_106 : decode cX11_spare 106 = .ok (.iconst 1, 1) := by decide +kernel
theorem dX11_spare_107 : decode cX11_spare 107 = .ok (.iadd, 1) := by decide +kernel
theorem dX11_spare_108 : decode cX11_spare 108 = .ok (.istore 5, 2) := by decide +kernel
theorem dX11_spare_110 : decode cX11_spare 110 = .ok (.iload 5, 2) := by decide +kernel
theorem dX11_spare_112 : decode cX11_spare 112 = .ok (.aload_n 0, 1) := by decide +kernel
theorem dX11_spare_113 : decode cX11_spare 113 = .ok (.getfield 27, 3) := by decide +kernel
theorem dX11_spare_116 : decode cX11_spare 116 = .ok (.getfield 88, 3) := by decide +kernel
theorem dX11_spare_119 : decode cX11_spare 119 = .ok (.getfield 175, 3) := by decide +kernel
theorem dX11_spare_122 : decode cX11_spare 122 = .ok (.if_icmp .ge 51, 3) := by decide +kernel
theorem dX11_spare_125 : decode cX11_spare 125 = .ok (.aload_n 0, 1) := by decide +kernel
theorem dX11_spare_126 : decode cX11_spare 126 = .ok (.getfield 44, 3) := by decide +kernel
theorem dX11_spare_129 : decode cX11_spare 129 = .ok (.aload_n 0, 1) := by decide +kernel
theorem dX11_spare_130 : decode cX11_spare 130 = .ok (.getfield 27, 3) := by decide +kernel
theorem dX11_spare_133 : decode cX11_spare 133 = .ok (.getfield 88, 3) := by decide +kernel
theorem dX11_spare_136 : decode cX11_spare 136 = .ok (.iload 4, 2) := by decide +kernel
theorem dX11_spare_138 : decode cX11_spare 138 = .ok (.iload 5, 2) := by decide +kernel
theorem dX11_spare_140 : decode cX11_spare 140 = .ok (.iload_n 2, 1) := by decide +kernel
theorem dX11_spare_141 : decode cX11_spare 141 = .ok (.invokevirtual 356, 3) := by decide +kernel
theorem dX2_sparedBy_0 : decode cX2_sparedBy 0 = .ok (.iconst 0, 1) := by decide +kernel
theorem dX2_sparedBy_1 : decode cX2_sparedBy 1 = .ok (.istore 5, 2) := by decide +kernel
theorem dX2_sparedBy_3 : decode cX2_sparedBy 3 = .ok (.iconst 0, 1) := by decide +kernel
theorem dX2_sparedBy_4 : decode cX2_sparedBy 4 = .ok (.istore 6, 2) := by decide +kernel
theorem dX2_sparedBy_6 : decode cX2_sparedBy 6 = .ok (.iload 6, 2) := by decide +kernel
theorem dX2_sparedBy_8 : decode cX2_sparedBy 8 = .ok (.aload_n 1, 1) := by decide +kernel
theorem dX2_sparedBy_9 : decode cX2_sparedBy 9 = .ok (.getfield 111, 3) := by decide +kernel
theorem dX2_sparedBy_12 : decode cX2_sparedBy 12 = .ok (.getfield 119, 3) := by decide +kernel
theorem dX2_sparedBy_15 : decode cX2_sparedBy 15 = .ok (.if_icmp .ge 132, 3) := by decide +kernel
theorem dX2_sparedBy_147 : decode cX2_sparedBy 147 = .ok (.iload 5, 2) := by decide +kernel
theorem dX2_sparedBy_149 : decode cX2_sparedBy 149 = .ok (.ireturn, 1) := by decide +kernel
theorem dX11_spare_144 : decode cX11_spare 144 = .ok (.istore 6, 2) := by decide +kernel
theorem dX11_spare_146 : decode cX11_spare 146 = .ok (.iload 6, 2) := by decide +kernel
theorem dX11_spare_148 : decode cX11_spare 148 = .ok (.iload_n 3, 1) := by decide +kernel
theorem dX11_spare_149 : decode cX11_spare 149 = .ok (.if_icmp .le 18, 3) := by decide +kernel
theorem dX11_spare_152 : decode cX11_spare 152 = .ok (.iload 6, 2) := by decide +kernel
theorem dX11_spare_154 : decode cX11_spare 154 = .ok (.istore_n 3, 1) := by decide +kernel
theorem dX11_spare_155 : decode cX11_spare 155 = .ok (.aload_n 0, 1) := by decide +kernel
theorem dX11_spare_156 : decode cX11_spare 156 = .ok (.iload 4, 2) := by decide +kernel
theorem dX11_spare_158 : decode cX11_spare 158 = .ok (.putfield 81, 3) := by decide +kernel
theorem dX11_spare_161 : decode cX11_spare 161 = .ok (.aload_n 0, 1) := by decide +kernel
theorem dX11_spare_162 : decode cX11_spare 162 = .ok (.iload 5, 2) := by decide +kernel
theorem dX11_spare_164 : decode cX11_spare 164 = .ok (.putfield 84, 3) := by decide +kernel
theorem dX11_spare_167 : decode cX11_spare 167 = .ok (.iinc 5 1, 3) := by decide +kernel
theorem dX11_spare_170 : decode cX11_spare 170 = .ok (.goto (-60), 3) := by decide +kernel
theorem dX11_spare_173 : decode cX11_spare 173 = .ok (.iinc 4 1, 3) := by decide +kernel
theorem dX11_spare_176 : decode cX11_spare 176 = .ok (.goto (-87), 3) := by decide +kernel
theorem dX11_spare_179 : decode cX11_spare 179 = .ok (.iload_n 3, 1) := by decide +kernel
theorem dX11_spare_180 : decode cX11_spare 180 = .ok (.ireturn, 1) := by decide +kernel
theorem dX11_spared_0 : decode cX11_spared 0 = .ok (.iload_n 1, 1) := by decide +kernel
theorem dX11_spared_1 : decode cX11_spared 1 = .ok (.ifCond .ne 8, 3) := by decide +kernel
theorem dX11_spared_9 : decode cX11_spared 9 = .ok (.iload_n 1, 1) := by decide +kernel
theorem dX11_spared_10 : decode cX11_spared 10 = .ok (.iconst 1, 1) := by decide +kernel
theorem dX11_spared_11 : decode cX11_spared 11 = .ok (.if_icmp .ne 10, 3) := by decide +kernel
theorem dX11_spared_21 : decode cX11_spared 21 = .ok (.iconst (-1), 1) := by decide +kernel
theorem dX11_spared_22 : decode cX11_spared 22 = .ok (.ireturn, 1) := by decide +kernel
theorem dX11_spared_14 : decode cX11_spared 14 = .ok (.aload_n 0, 1) := by decide +kernel
theorem dX11_spared_15 : decode cX11_spared 15 = .ok (.getfield 84, 3) := by decide +kernel
theorem dX11_spared_18 : decode cX11_spared 18 = .ok (.goto 4, 3) := by decide +kernel
theorem dX11_spared_4 : decode cX11_spared 4 = .ok (.aload_n 0, 1) := by decide +kernel
theorem dX11_spared_5 : decode cX11_spared 5 = .ok (.getfield 81, 3) := by decide +kernel
theorem dX11_spared_8 : decode cX11_spared 8 = .ok (.ireturn, 1) := by decide +kernel
theorem dX11_alley_0 : decode cX11_alley 0 = .ok (.aload_n 0, 1) := by decide +kernel
theorem dX11_alley_1 : decode cX11_alley 1 = .ok (.iload_n 1, 1) := by decide +kernel
theorem dX11_alley_2 : decode cX11_alley 2 = .ok (.invokevirtual 126, 3) := by decide +kernel
theorem dX11_alley_5 : decode cX11_alley 5 = .ok (.ifCond .ne 7, 3) := by decide +kernel
theorem dX11_alley_8 : decode cX11_alley 8 = .ok (.ldc_w 360, 3) := by decide +kernel
theorem dX11_alley_11 : decode cX11_alley 11 = .ok (.ireturn, 1) := by decide +kernel
theorem dX11_street_0 : decode cX11_street 0 = .ok (.aload_n 0, 1) := by decide +kernel
theorem dX11_street_1 : decode cX11_street 1 = .ok (.getfield 27, 3) := by decide +kernel
theorem dX11_street_4 : decode cX11_street 4 = .ok (.getfield 88, 3) := by decide +kernel
theorem dX11_street_7 : decode cX11_street 7 = .ok (.getfield 232, 3) := by decide +kernel
theorem dX11_street_10 : decode cX11_street 10 = .ok (.astore_n 3, 1) := by decide +kernel
theorem dX11_street_11 : decode cX11_street 11 = .ok (.iload_n 1, 1) := by decide +kernel
theorem dX11_street_12 : decode cX11_street 12 = .ok (.ifCond .lt 25, 3) := by decide +kernel
theorem dX11_street_37 : decode cX11_street 37 = .ok (.iconst (-1), 1) := by decide +kernel
theorem dX11_street_38 : decode cX11_street 38 = .ok (.ireturn, 1) := by decide +kernel
theorem dX11_street_15 : decode cX11_street 15 = .ok (.iload_n 1, 1) := by decide +kernel
theorem dX11_street_16 : decode cX11_street 16 = .ok (.aload_n 3, 1) := by decide +kernel
theorem dX11_street_17 : decode cX11_street 17 = .ok (.getfield 236, 3) := by decide +kernel
theorem dX11_street_20 : decode cX11_street 20 = .ok (.if_icmp .ge 17, 3) := by decide +kernel
theorem dX11_journey_0 : decode cX11_journey 0 = .ok (.aload_n 0, 1) := by decide +kernel
theorem dX11_journey_1 : decode cX11_journey 1 = .ok (.iload_n 1, 1) := by decide +kernel
theorem dX11_journey_2 : decode cX11_journey 2 = .ok (.invokevirtual 201, 3) := by decide +kernel
theorem dX11_journey_5 : decode cX11_journey 5 = .ok (.ifCond .ne 7, 3) := by decide +kernel
theorem dX11_journey_8 : decode cX11_journey 8 = .ok (.ldc_w 360, 3) := by decide +kernel
theorem dX11_journey_11 : decode cX11_journey 11 = .ok (.ireturn, 1) := by decide +kernel
theorem dX11_count_0 : decode cX11_count 0 = .ok (.iload_n 1, 1) := by decide +kernel
theorem dX11_count_1 : decode cX11_count 1 = .ok (.tableswitch 188 0 11 #[63, 74, 85, 96, 110, 124, 129, 138, 147, 158, 163, 177], 63) := by decide +kernel
theorem dX11_count_189 : decode cX11_count 189 = .ok (.iconst (-1), 1) := by decide +kernel
theorem dX11_count_190 : decode cX11_count 190 = .ok (.ireturn, 1) := by decide +kernel
theorem dX11_count_64 : decode cX11_count 64 = .ok (.aload_n 0, 1) := by decide +kernel
theorem dX11_count_65 : decode cX11_count 65 = .ok (.getfield 27, 3) := by decide +kernel
theorem dX11_count_68 : decode cX11_count 68 = .ok (.getfield 88, 3) := by decide +kernel
theorem dX11_count_71 : decode cX11_count 71 = .ok (.getfield 111, 3) := by decide +kernel
theorem dX11_count_74 : decode cX11_count 74 = .ok (.ireturn, 1) := by decide +kernel
theorem dX11_count_75 : decode cX11_count 75 = .ok (.aload_n 0, 1) := by decide +kernel
theorem dX11_count_76 : decode cX11_count 76 = .ok (.getfield 27, 3) := by decide +kernel
theorem dX11_count_79 : decode cX11_count 79 = .ok (.getfield 88, 3) := by decide +kernel
theorem dX11_count_82 : decode cX11_count 82 = .ok (.getfield 175, 3) := by decide +kernel
theorem dX11_count_85 : decode cX11_count 85 = .ok (.ireturn, 1) := by decide +kernel
theorem dX11_count_86 : decode cX11_count 86 = .ok (.aload_n 0, 1) := by decide +kernel
theorem dX11_count_87 : decode cX11_count 87 = .ok (.getfield 27, 3) := by decide +kernel
theorem dX11_count_90 : decode cX11_count 90 = .ok (.getfield 88, 3) := by decide +kernel
theorem dX11_count_93 : decode cX11_count 93 = .ok (.getfield 147, 3) := by decide +kernel
theorem dX11_count_96 : decode cX11_count 96 = .ok (.ireturn, 1) := by decide +kernel
theorem dX11_count_97 : decode cX11_count 97 = .ok (.aload_n 0, 1) := by decide +kernel
theorem dX11_count_98 : decode cX11_count 98 = .ok (.getfield 27, 3) := by decide +kernel
theorem dX11_count_101 : decode cX11_count 101 = .ok (.getfield 88, 3) := by decide +kernel
theorem dX11_count_104 : decode cX11_count 104 = .ok (.getfield 287, 3) := by decide +kernel
theorem dX11_count_107 : decode cX11_count 107 = .ok (.getfield 381, 3) := by decide +kernel
theorem dX11_count_110 : decode cX11_count 110 = .ok (.ireturn, 1) := by decide +kernel
theorem dX11_count_111 : decode cX11_count 111 = .ok (.aload_n 0, 1) := by decide +kernel
theorem dX11_count_112 : decode cX11_count 112 = .ok (.getfield 27, 3) := by decide +kernel
theorem dX11_count_115 : decode cX11_count 115 = .ok (.getfield 88, 3) := by decide +kernel
theorem dX11_count_118 : decode cX11_count 118 = .ok (.getfield 366, 3) := by decide +kernel
theorem dX11_count_121 : decode cX11_count 121 = .ok (.invokestatic 321, 3) := by decide +kernel
theorem dX11_count_124 : decode cX11_count 124 = .ok (.ireturn, 1) := by decide +kernel
theorem dX11_count_125 : decode cX11_count 125 = .ok (.aload_n 0, 1) := by decide +kernel
theorem dX11_count_126 : decode cX11_count 126 = .ok (.getfield 13, 3) := by decide +kernel
theorem dX11_count_129 : decode cX11_count 129 = .ok (.ireturn, 1) := by decide +kernel
theorem dX11_count_130 : decode cX11_count 130 = .ok (.aload_n 0, 1) := by decide +kernel
theorem dX11_count_131 : decode cX11_count 131 = .ok (.getfield 27, 3) := by decide +kernel
theorem dX11_count_134 : decode cX11_count 134 = .ok (.iconst 0, 1) := by decide +kernel
theorem dX11_count_135 : decode cX11_count 135 = .ok (.invokevirtual 215, 3) := by decide +kernel
theorem dX11_count_138 : decode cX11_count 138 = .ok (.ireturn, 1) := by decide +kernel
theorem dX11_count_139 : decode cX11_count 139 = .ok (.aload_n 0, 1) := by decide +kernel
theorem dX11_count_140 : decode cX11_count 140 = .ok (.getfield 27, 3) := by decide +kernel
theorem dX11_count_143 : decode cX11_count 143 = .ok (.iconst 1, 1) := by decide +kernel
theorem dX11_count_144 : decode cX11_count 144 = .ok (.invokevirtual 215, 3) := by decide +kernel
theorem dX11_count_147 : decode cX11_count 147 = .ok (.ireturn, 1) := by decide +kernel
theorem dX11_count_148 : decode cX11_count 148 = .ok (.aload_n 0, 1) := by decide +kernel
theorem dX11_count_149 : decode cX11_count 149 = .ok (.getfield 27, 3) := by decide +kernel
theorem dX11_count_152 : decode cX11_count 152 = .ok (.getfield 88, 3) := by decide +kernel
theorem dX11_count_155 : decode cX11_count 155 = .ok (.getfield 278, 3) := by decide +kernel
theorem dX11_count_158 : decode cX11_count 158 = .ok (.ireturn, 1) := by decide +kernel
theorem dX11_count_159 : decode cX11_count 159 = .ok (.aload_n 0, 1) := by decide +kernel
theorem dX11_count_160 : decode cX11_count 160 = .ok (.invokevirtual 382, 3) := by decide +kernel
theorem dX11_filledSlots_0 : decode cX11_filledSlots 0 = .ok (.iconst 0, 1) := by decide +kernel
theorem dX11_filledSlots_1 : decode cX11_filledSlots 1 = .ok (.istore_n 1, 1) := by decide +kernel
theorem dX11_filledSlots_2 : decode cX11_filledSlots 2 = .ok (.iconst 0, 1) := by decide +kernel
theorem dX11_filledSlots_3 : decode cX11_filledSlots 3 = .ok (.istore_n 2, 1) := by decide +kernel
theorem dX11_filledSlots_4 : decode cX11_filledSlots 4 = .ok (.iload_n 2, 1) := by decide +kernel
theorem dX11_filledSlots_5 : decode cX11_filledSlots 5 = .ok (.iconst 4, 1) := by decide +kernel
theorem dX11_filledSlots_6 : decode cX11_filledSlots 6 = .ok (.if_icmp .ge 24, 3) := by decide +kernel
theorem dX11_filledSlots_9 : decode cX11_filledSlots 9 = .ok (.aload_n 0, 1) := by decide +kernel
theorem dX11_filledSlots_10 : decode cX11_filledSlots 10 = .ok (.getfield 37, 3) := by decide +kernel
theorem dX11_filledSlots_13 : decode cX11_filledSlots 13 = .ok (.iload_n 2, 1) := by decide +kernel
theorem dX11_filledSlots_14 : decode cX11_filledSlots 14 = .ok (.aaload, 1) := by decide +kernel
theorem dX11_filledSlots_15 : decode cX11_filledSlots 15 = .ok (.invokevirtual 140, 3) := by decide +kernel
theorem dX11_filledSlots_18 : decode cX11_filledSlots 18 = .ok (.ifCond .eq 6, 3) := by decide +kernel
theorem dX11_filledSlots_24 : decode cX11_filledSlots 24 = .ok (.iinc 2 1, 3) := by decide +kernel
theorem dX11_filledSlots_27 : decode cX11_filledSlots 27 = .ok (.goto (-23), 3) := by decide +kernel
theorem dX11_filledSlots_30 : decode cX11_filledSlots 30 = .ok (.iload_n 1, 1) := by decide +kernel
theorem dX11_filledSlots_31 : decode cX11_filledSlots 31 = .ok (.ireturn, 1) := by decide +kernel
theorem dX11_count_163 : decode cX11_count 163 = .ok (.ireturn, 1) := by decide +kernel
theorem dX11_count_164 : decode cX11_count 164 = .ok (.aload_n 0, 1) := by decide +kernel
theorem dX11_count_165 : decode cX11_count 165 = .ok (.getfield 27, 3) := by decide +kernel
theorem dX11_count_168 : decode cX11_count 168 = .ok (.getfield 88, 3) := by decide +kernel
theorem dX11_count_171 : decode cX11_count 171 = .ok (.getfield 232, 3) := by decide +kernel
theorem dX11_count_174 : decode cX11_count 174 = .ok (.getfield 236, 3) := by decide +kernel
theorem dX11_count_177 : decode cX11_count 177 = .ok (.ireturn, 1) := by decide +kernel
theorem dX11_count_178 : decode cX11_count 178 = .ok (.aload_n 0, 1) := by decide +kernel
theorem dX11_count_179 : decode cX11_count 179 = .ok (.getfield 27, 3) := by decide +kernel
theorem dX11_count_182 : decode cX11_count 182 = .ok (.getfield 88, 3) := by decide +kernel
theorem dX11_count_185 : decode cX11_count 185 = .ok (.invokevirtual 385, 3) := by decide +kernel
theorem dX8_gridAlleys_0 : decode cX8_gridAlleys 0 = .ok (.aload_n 0, 1) := by decide +kernel
theorem dX8_gridAlleys_1 : decode cX8_gridAlleys 1 = .ok (.getfield 24, 3) := by decide +kernel
theorem dX8_gridAlleys_4 : decode cX8_gridAlleys 4 = .ok (.ifCond .ne 7, 3) := by decide +kernel
theorem dX8_gridAlleys_7 : decode cX8_gridAlleys 7 = .ok (.iconst 0, 1) := by decide +kernel
theorem dX8_gridAlleys_8 : decode cX8_gridAlleys 8 = .ok (.goto 26, 3) := by decide +kernel
theorem dX8_gridAlleys_34 : decode cX8_gridAlleys 34 = .ok (.ireturn, 1) := by decide +kernel
theorem dX11_count_188 : decode cX11_count 188 = .ok (.ireturn, 1) := by decide +kernel
theorem dX11_keep_0 : decode cX11_keep 0 = .ok (.iload_n 1, 1) := by decide +kernel
theorem dX11_keep_1 : decode cX11_keep 1 = .ok (.ifCond .lt 8, 3) := by decide +kernel
theorem dX11_keep_9 : decode cX11_keep 9 = .ok (.bipush (-2), 2) := by decide +kernel
theorem dX11_keep_11 : decode cX11_keep 11 = .ok (.ireturn, 1) := by decide +kernel
theorem dX11_keep_4 : decode cX11_keep 4 = .ok (.iload_n 1, 1) := by decide +kernel
theorem dX11_keep_5 : decode cX11_keep 5 = .ok (.iconst 3, 1) := by decide +kernel
theorem dX11_keep_6 : decode cX11_keep 6 = .ok (.if_icmp .lt 6, 3) := by decide +kernel
theorem dX11_keep_12 : decode cX11_keep 12 = .ok (.aload_n 0, 1) := by decide +kernel
theorem dX11_keep_13 : decode cX11_keep 13 = .ok (.getfield 31, 3) := by decide +kernel
theorem dX11_keep_16 : decode cX11_keep 16 = .ok (.iload_n 1, 1) := by decide +kernel
theorem dX11_keep_17 : decode cX11_keep 17 = .ok (.aaload, 1) := by decide +kernel
theorem dX11_keep_18 : decode cX11_keep 18 = .ok (.aload_n 0, 1) := by decide +kernel
theorem dX11_keep_19 : decode cX11_keep 19 = .ok (.getfield 27, 3) := by decide +kernel
theorem dX11_keep_22 : decode cX11_keep 22 = .ok (.invokevirtual 388, 3) := by decide +kernel
theorem dX5_takeFrom_0 : decode cX5_takeFrom 0 = .ok (.aload_n 0, 1) := by decide +kernel
theorem dX5_takeFrom_1 : decode cX5_takeFrom 1 = .ok (.getfield 12, 3) := by decide +kernel
theorem dX5_takeFrom_4 : decode cX5_takeFrom 4 = .ok (.aload_n 1, 1) := by decide +kernel
theorem dX5_takeFrom_5 : decode cX5_takeFrom 5 = .ok (.getfield 12, 3) := by decide +kernel
theorem dX5_takeFrom_8 : decode cX5_takeFrom 8 = .ok (.invokevirtual 27, 3) := by decide +kernel
theorem dX8_takeFrom_0 : decode cX8_takeFrom 0 = .ok (.aload_n 0, 1) := by decide +kernel
theorem dX8_takeFrom_1 : decode cX8_takeFrom 1 = .ok (.aload_n 1, 1) := by decide +kernel
theorem dX8_takeFrom_2 : decode cX8_takeFrom 2 = .ok (.getfield 9, 3) := by decide +kernel
theorem dX8_takeFrom_5 : decode cX8_takeFrom 5 = .ok (.putfield 9, 3) := by decide +kernel
theorem dX8_takeFrom_8 : decode cX8_takeFrom 8 = .ok (.aload_n 0, 1) := by decide +kernel
theorem dX8_takeFrom_9 : decode cX8_takeFrom 9 = .ok (.aload_n 1, 1) := by decide +kernel
theorem dX8_takeFrom_10 : decode cX8_takeFrom 10 = .ok (.getfield 15, 3) := by decide +kernel
theorem dX8_takeFrom_13 : decode cX8_takeFrom 13 = .ok (.putfield 15, 3) := by decide +kernel
theorem dX8_takeFrom_16 : decode cX8_takeFrom 16 = .ok (.aload_n 0, 1) := by decide +kernel
theorem dX8_takeFrom_17 : decode cX8_takeFrom 17 = .ok (.aload_n 1, 1) := by decide +kernel
theorem dX8_takeFrom_18 : decode cX8_takeFrom 18 = .ok (.getfield 18, 3) := by decide +kernel
theorem dX8_takeFrom_21 : decode cX8_takeFrom 21 = .ok (.putfield 18, 3) := by decide +kernel
theorem dX8_takeFrom_24 : decode cX8_takeFrom 24 = .ok (.aload_n 0, 1) := by decide +kernel
theorem dX8_takeFrom_25 : decode cX8_takeFrom 25 = .ok (.aload_n 1, 1) := by decide +kernel
theorem dX8_takeFrom_26 : decode cX8_takeFrom 26 = .ok (.getfield 21, 3) := by decide +kernel
theorem dX8_takeFrom_29 : decode cX8_takeFrom 29 = .ok (.putfield 21, 3) := by decide +kernel
theorem dX8_takeFrom_32 : decode cX8_takeFrom 32 = .ok (.aload_n 0, 1) := by decide +kernel
theorem dX8_takeFrom_33 : decode cX8_takeFrom 33 = .ok (.aload_n 1, 1) := by decide +kernel
theorem dX8_takeFrom_34 : decode cX8_takeFrom 34 = .ok (.getfield 24, 3) := by decide +kernel
theorem dX8_takeFrom_37 : decode cX8_takeFrom 37 = .ok (.putfield 24, 3) := by decide +kernel
theorem dX8_takeFrom_40 : decode cX8_takeFrom 40 = .ok (.aload_n 0, 1) := by decide +kernel
theorem dX8_takeFrom_41 : decode cX8_takeFrom 41 = .ok (.aload_n 1, 1) := by decide +kernel
theorem dX8_takeFrom_42 : decode cX8_takeFrom 42 = .ok (.getfield 27, 3) := by decide +kernel
theorem dX8_takeFrom_45 : decode cX8_takeFrom 45 = .ok (.putfield 27, 3) := by decide +kernel
theorem dX8_takeFrom_48 : decode cX8_takeFrom 48 = .ok (.aload_n 1, 1) := by decide +kernel
theorem dX8_takeFrom_49 : decode cX8_takeFrom 49 = .ok (.getfield 30, 3) := by decide +kernel
theorem dX8_takeFrom_52 : decode cX8_takeFrom 52 = .ok (.iconst 0, 1) := by decide +kernel
theorem dX8_takeFrom_53 : decode cX8_takeFrom 53 = .ok (.aload_n 0, 1) := by decide +kernel
theorem dX8_takeFrom_54 : decode cX8_takeFrom 54 = .ok (.getfield 30, 3) := by decide +kernel
theorem dX8_takeFrom_57 : decode cX8_takeFrom 57 = .ok (.iconst 0, 1) := by decide +kernel
theorem dX8_takeFrom_58 : decode cX8_takeFrom 58 = .ok (.bipush 28, 2) := by decide +kernel
theorem dX8_takeFrom_60 : decode cX8_takeFrom 60 = .ok (.invokestatic 81, 3) := by decide +kernel
theorem dX8_takeFrom_63 : decode cX8_takeFrom 63 = .ok (.aload_n 1, 1) := by decide +kernel
theorem dX8_takeFrom_64 : decode cX8_takeFrom 64 = .ok (.getfield 34, 3) := by decide +kernel
theorem dX8_takeFrom_67 : decode cX8_takeFrom 67 = .ok (.iconst 0, 1) := by decide +kernel
theorem dX8_takeFrom_68 : decode cX8_takeFrom 68 = .ok (.aload_n 0, 1) := by decide +kernel
theorem dX8_takeFrom_69 : decode cX8_takeFrom 69 = .ok (.getfield 34, 3) := by decide +kernel
theorem dX8_takeFrom_72 : decode cX8_takeFrom 72 = .ok (.iconst 0, 1) := by decide +kernel
theorem dX8_takeFrom_73 : decode cX8_takeFrom 73 = .ok (.bipush 28, 2) := by decide +kernel
theorem dX8_takeFrom_75 : decode cX8_takeFrom 75 = .ok (.invokestatic 81, 3) := by decide +kernel
theorem dX8_takeFrom_78 : decode cX8_takeFrom 78 = .ok (.aload_n 1, 1) := by decide +kernel
theorem dX8_takeFrom_79 : decode cX8_takeFrom 79 = .ok (.getfield 37, 3) := by decide +kernel
theorem dX8_takeFrom_82 : decode cX8_takeFrom 82 = .ok (.iconst 0, 1) := by decide +kernel
theorem dX8_takeFrom_83 : decode cX8_takeFrom 83 = .ok (.aload_n 0, 1) := by decide +kernel
theorem dX8_takeFrom_84 : decode cX8_takeFrom 84 = .ok (.getfield 37, 3) := by decide +kernel
theorem dX8_takeFrom_87 : decode cX8_takeFrom 87 = .ok (.iconst 0, 1) := by decide +kernel
theorem dX8_takeFrom_88 : decode cX8_takeFrom 88 = .ok (.bipush 28, 2) := by decide +kernel
theorem dX8_takeFrom_90 : decode cX8_takeFrom 90 = .ok (.invokestatic 81, 3) := by decide +kernel
theorem dX8_takeFrom_93 : decode cX8_takeFrom 93 = .ok (.aload_n 1, 1) := by decide +kernel
theorem dX8_takeFrom_94 : decode cX8_takeFrom 94 = .ok (.getfield 40, 3) := by decide +kernel
theorem dX8_takeFrom_97 : decode cX8_takeFrom 97 = .ok (.iconst 0, 1) := by decide +kernel
theorem dX8_takeFrom_98 : decode cX8_takeFrom 98 = .ok (.aload_n 0, 1) := by decide +kernel
theorem dX8_takeFrom_99 : decode cX8_takeFrom 99 = .ok (.getfield 40, 3) := by decide +kernel
theorem dX8_takeFrom_102 : decode cX8_takeFrom 102 = .ok (.iconst 0, 1) := by decide +kernel
theorem dX8_takeFrom_103 : decode cX8_takeFrom 103 = .ok (.bipush 28, 2) := by decide +kernel
theorem dX8_takeFrom_105 : decode cX8_takeFrom 105 = .ok (.invokestatic 81, 3) := by decide +kernel
theorem dX8_takeFrom_108 : decode cX8_takeFrom 108 = .ok (.aload_n 0, 1) := by decide +kernel
theorem dX8_takeFrom_109 : decode cX8_takeFrom 109 = .ok (.aload_n 1, 1) := by decide +kernel
theorem dX8_takeFrom_110 : decode cX8_takeFrom 110 = .ok (.getfield 43, 3) := by decide +kernel
theorem dX8_takeFrom_113 : decode cX8_takeFrom 113 = .ok (.putfield 43, 3) := by decide +kernel
theorem dX8_takeFrom_116 : decode cX8_takeFrom 116 = .ok (.aload_n 0, 1) := by decide +kernel
theorem dX8_takeFrom_117 : decode cX8_takeFrom 117 = .ok (.aload_n 1, 1) := by decide +kernel
theorem dX8_takeFrom_118 : decode cX8_takeFrom 118 = .ok (.getfield 46, 3) := by decide +kernel
theorem dX8_takeFrom_121 : decode cX8_takeFrom 121 = .ok (.putfield 46, 3) := by decide +kernel
theorem dX8_takeFrom_124 : decode cX8_takeFrom 124 = .ok (.aload_n 0, 1) := by decide +kernel
theorem dX8_takeFrom_125 : decode cX8_takeFrom 125 = .ok (.getfield 52, 3) := by decide +kernel
theorem dX8_takeFrom_128 : decode cX8_takeFrom 128 = .ok (.aload_n 1, 1) := by decide +kernel
theorem dX8_takeFrom_129 : decode cX8_takeFrom 129 = .ok (.getfield 52, 3) := by decide +kernel
theorem dX8_takeFrom_132 : decode cX8_takeFrom 132 = .ok (.invokevirtual 87, 3) := by decide +kernel
theorem dX1_takeFrom_0 : decode cX1_takeFrom 0 = .ok (.aload_n 0, 1) := by decide +kernel
theorem dX1_takeFrom_1 : decode cX1_takeFrom 1 = .ok (.aload_n 1, 1) := by decide +kernel
theorem dX1_takeFrom_2 : decode cX1_takeFrom 2 = .ok (.getfield 9, 3) := by decide +kernel
theorem dX1_takeFrom_5 : decode cX1_takeFrom 5 = .ok (.putfield 9, 3) := by decide +kernel
theorem dX1_takeFrom_8 : decode cX1_takeFrom 8 = .ok (.aload_n 1, 1) := by decide +kernel
theorem dX1_takeFrom_9 : decode cX1_takeFrom 9 = .ok (.getfield 15, 3) := by decide +kernel
theorem dX1_takeFrom_12 : decode cX1_takeFrom 12 = .ok (.iconst 0, 1) := by decide +kernel
theorem dX1_takeFrom_13 : decode cX1_takeFrom 13 = .ok (.aload_n 0, 1) := by decide +kernel
theorem dX1_takeFrom_14 : decode cX1_takeFrom 14 = .ok (.getfield 15, 3) := by decide +kernel
theorem dX1_takeFrom_17 : decode cX1_takeFrom 17 = .ok (.iconst 0, 1) := by decide +kernel
theorem dX1_takeFrom_18 : decode cX1_takeFrom 18 = .ok (.bipush 10, 2) := by decide +kernel
theorem dX1_takeFrom_20 : decode cX1_takeFrom 20 = .ok (.invokestatic 25, 3) := by decide +kernel
theorem dX1_takeFrom_23 : decode cX1_takeFrom 23 = .ok (.aload_n 1, 1) := by decide +kernel
theorem dX1_takeFrom_24 : decode cX1_takeFrom 24 = .ok (.getfield 19, 3) := by decide +kernel
theorem dX1_takeFrom_27 : decode cX1_takeFrom 27 = .ok (.iconst 0, 1) := by decide +kernel
theorem dX1_takeFrom_28 : decode cX1_takeFrom 28 = .ok (.aload_n 0, 1) := by decide +kernel
theorem dX1_takeFrom_29 : decode cX1_takeFrom 29 = .ok (.getfield 19, 3) := by decide +kernel
theorem dX1_takeFrom_32 : decode cX1_takeFrom 32 = .ok (.iconst 0, 1) := by decide +kernel
theorem dX1_takeFrom_33 : decode cX1_takeFrom 33 = .ok (.bipush 10, 2) := by decide +kernel
theorem dX1_takeFrom_35 : decode cX1_takeFrom 35 = .ok (.invokestatic 25, 3) := by decide +kernel
theorem dX1_takeFrom_38 : decode cX1_takeFrom 38 = .ok (.aload_n 1, 1) := by decide +kernel
theorem dX1_takeFrom_39 : decode cX1_takeFrom 39 = .ok (.getfield 22, 3) := by decide +kernel
theorem dX1_takeFrom_42 : decode cX1_takeFrom 42 = .ok (.iconst 0, 1) := by decide +kernel
theorem dX1_takeFrom_43 : decode cX1_takeFrom 43 = .ok (.aload_n 0, 1) := by decide +kernel
theorem dX1_takeFrom_44 : decode cX1_takeFrom 44 = .ok (.getfield 22, 3) := by decide +kernel
theorem dX1_takeFrom_47 : decode cX1_takeFrom 47 = .ok (.iconst 0, 1) := by decide +kernel
theorem dX1_takeFrom_48 : decode cX1_takeFrom 48 = .ok (.bipush 10, 2) := by decide +kernel
theorem dX1_takeFrom_50 : decode cX1_takeFrom 50 = .ok (.invokestatic 25, 3) := by decide +kernel
theorem dX1_takeFrom_53 : decode cX1_takeFrom 53 = .ok (.return_, 1) := by decide +kernel
theorem dX8_takeFrom_135 : decode cX8_takeFrom 135 = .ok (.aload_n 0, 1) := by decide +kernel
theorem dX8_takeFrom_136 : decode cX8_takeFrom 136 = .ok (.getfield 59, 3) := by decide +kernel
theorem dX8_takeFrom_139 : decode cX8_takeFrom 139 = .ok (.aload_n 1, 1) := by decide +kernel
theorem dX8_takeFrom_140 : decode cX8_takeFrom 140 = .ok (.getfield 59, 3) := by decide +kernel
theorem dX8_takeFrom_143 : decode cX8_takeFrom 143 = .ok (.invokevirtual 91, 3) := by decide +kernel
theorem dX6_takeFrom_0 : decode cX6_takeFrom 0 = .ok (.aload_n 0, 1) := by decide +kernel
theorem dX6_takeFrom_1 : decode cX6_takeFrom 1 = .ok (.aload_n 1, 1) := by decide +kernel
theorem dX6_takeFrom_2 : decode cX6_takeFrom 2 = .ok (.getfield 9, 3) := by decide +kernel
theorem dX6_takeFrom_5 : decode cX6_takeFrom 5 = .ok (.putfield 9, 3) := by decide +kernel
theorem dX6_takeFrom_8 : decode cX6_takeFrom 8 = .ok (.aload_n 0, 1) := by decide +kernel
theorem dX6_takeFrom_9 : decode cX6_takeFrom 9 = .ok (.aload_n 1, 1) := by decide +kernel
theorem dX6_takeFrom_10 : decode cX6_takeFrom 10 = .ok (.getfield 15, 3) := by decide +kernel
theorem dX6_takeFrom_13 : decode cX6_takeFrom 13 = .ok (.putfield 15, 3) := by decide +kernel
theorem dX6_takeFrom_16 : decode cX6_takeFrom 16 = .ok (.aload_n 1, 1) := by decide +kernel
theorem dX6_takeFrom_17 : decode cX6_takeFrom 17 = .ok (.getfield 18, 3) := by decide +kernel
theorem dX6_takeFrom_20 : decode cX6_takeFrom 20 = .ok (.iconst 0, 1) := by decide +kernel
theorem dX6_takeFrom_21 : decode cX6_takeFrom 21 = .ok (.aload_n 0, 1) := by decide +kernel
theorem dX6_takeFrom_22 : decode cX6_takeFrom 22 = .ok (.getfield 18, 3) := by decide +kernel
theorem dX6_takeFrom_25 : decode cX6_takeFrom 25 = .ok (.iconst 0, 1) := by decide +kernel
theorem dX6_takeFrom_26 : decode cX6_takeFrom 26 = .ok (.bipush 6, 2) := by decide +kernel
theorem dX6_takeFrom_28 : decode cX6_takeFrom 28 = .ok (.invokestatic 31, 3) := by decide +kernel
theorem dX6_takeFrom_31 : decode cX6_takeFrom 31 = .ok (.aload_n 1, 1) := by decide +kernel
theorem dX6_takeFrom_32 : decode cX6_takeFrom 32 = .ok (.getfield 22, 3) := by decide +kernel
theorem dX6_takeFrom_35 : decode cX6_takeFrom 35 = .ok (.iconst 0, 1) := by decide +kernel
theorem dX6_takeFrom_36 : decode cX6_takeFrom 36 = .ok (.aload_n 0, 1) := by decide +kernel
theorem dX6_takeFrom_37 : decode cX6_takeFrom 37 = .ok (.getfield 22, 3) := by decide +kernel
theorem dX6_takeFrom_40 : decode cX6_takeFrom 40 = .ok (.iconst 0, 1) := by decide +kernel
theorem dX6_takeFrom_41 : decode cX6_takeFrom 41 = .ok (.bipush 36, 2) := by decide +kernel
theorem dX6_takeFrom_43 : decode cX6_takeFrom 43 = .ok (.invokestatic 31, 3) := by decide +kernel
theorem dX6_takeFrom_46 : decode cX6_takeFrom 46 = .ok (.return_, 1) := by decide +kernel
theorem dX8_takeFrom_146 : decode cX8_takeFrom 146 = .ok (.aload_n 1, 1) := by decide +kernel
theorem dX8_takeFrom_147 : decode cX8_takeFrom 147 = .ok (.getfield 63, 3) := by decide +kernel
theorem dX8_takeFrom_150 : decode cX8_takeFrom 150 = .ok (.iconst 0, 1) := by decide +kernel
theorem dX8_takeFrom_151 : decode cX8_takeFrom 151 = .ok (.aload_n 0, 1) := by decide +kernel
theorem dX8_takeFrom_152 : decode cX8_takeFrom 152 = .ok (.getfield 63, 3) := by decide +kernel
theorem dX8_takeFrom_155 : decode cX8_takeFrom 155 = .ok (.iconst 0, 1) := by decide +kernel
theorem dX8_takeFrom_156 : decode cX8_takeFrom 156 = .ok (.bipush 17, 2) := by decide +kernel
theorem dX8_takeFrom_158 : decode cX8_takeFrom 158 = .ok (.invokestatic 81, 3) := by decide +kernel
theorem dX8_takeFrom_161 : decode cX8_takeFrom 161 = .ok (.aload_n 1, 1) := by decide +kernel
theorem dX8_takeFrom_162 : decode cX8_takeFrom 162 = .ok (.getfield 66, 3) := by decide +kernel
theorem dX8_takeFrom_165 : decode cX8_takeFrom 165 = .ok (.iconst 0, 1) := by decide +kernel
theorem dX8_takeFrom_166 : decode cX8_takeFrom 166 = .ok (.aload_n 0, 1) := by decide +kernel
theorem dX8_takeFrom_167 : decode cX8_takeFrom 167 = .ok (.getfield 66, 3) := by decide +kernel
theorem dX8_takeFrom_170 : decode cX8_takeFrom 170 = .ok (.iconst 0, 1) := by decide +kernel
theorem dX8_takeFrom_171 : decode cX8_takeFrom 171 = .ok (.bipush 56, 2) := by decide +kernel
theorem dX8_takeFrom_173 : decode cX8_takeFrom 173 = .ok (.invokestatic 81, 3) := by decide +kernel
theorem dX8_takeFrom_176 : decode cX8_takeFrom 176 = .ok (.aload_n 1, 1) := by decide +kernel
theorem dX8_takeFrom_177 : decode cX8_takeFrom 177 = .ok (.getfield 69, 3) := by decide +kernel
theorem dX8_takeFrom_180 : decode cX8_takeFrom 180 = .ok (.iconst 0, 1) := by decide +kernel
theorem dX8_takeFrom_181 : decode cX8_takeFrom 181 = .ok (.aload_n 0, 1) := by decide +kernel
theorem dX8_takeFrom_182 : decode cX8_takeFrom 182 = .ok (.getfield 69, 3) := by decide +kernel
theorem dX8_takeFrom_185 : decode cX8_takeFrom 185 = .ok (.iconst 0, 1) := by decide +kernel
theorem dX8_takeFrom_186 : decode cX8_takeFrom 186 = .ok (.sipush 256, 3) := by decide +kernel
theorem dX8_takeFrom_189 : decode cX8_takeFrom 189 = .ok (.invokestatic 81, 3) := by decide +kernel
theorem dX8_takeFrom_192 : decode cX8_takeFrom 192 = .ok (.aload_n 0, 1) := by decide +kernel
theorem dX8_takeFrom_193 : decode cX8_takeFrom 193 = .ok (.aload_n 1, 1) := by decide +kernel
theorem dX8_takeFrom_194 : decode cX8_takeFrom 194 = .ok (.getfield 72, 3) := by decide +kernel
theorem dX8_takeFrom_197 : decode cX8_takeFrom 197 = .ok (.putfield 72, 3) := by decide +kernel
theorem dX8_takeFrom_200 : decode cX8_takeFrom 200 = .ok (.return_, 1) := by decide +kernel
theorem dX5_takeFrom_11 : decode cX5_takeFrom 11 = .ok (.iconst 0, 1) := by decide +kernel
theorem dX5_takeFrom_12 : decode cX5_takeFrom 12 = .ok (.istore_n 2, 1) := by decide +kernel
theorem dX5_takeFrom_13 : decode cX5_takeFrom 13 = .ok (.iload_n 2, 1) := by decide +kernel
theorem dX5_takeFrom_14 : decode cX5_takeFrom 14 = .ok (.iconst 2, 1) := by decide +kernel
theorem dX5_takeFrom_15 : decode cX5_takeFrom 15 = .ok (.if_icmp .ge 28, 3) := by decide +kernel
theorem dX5_takeFrom_18 : decode cX5_takeFrom 18 = .ok (.aload_n 1, 1) := by decide +kernel
theorem dX5_takeFrom_19 : decode cX5_takeFrom 19 = .ok (.getfield 20, 3) := by decide +kernel
theorem dX5_takeFrom_22 : decode cX5_takeFrom 22 = .ok (.iload_n 2, 1) := by decide +kernel
theorem dX5_takeFrom_23 : decode cX5_takeFrom 23 = .ok (.aaload, 1) := by decide +kernel
theorem dX5_takeFrom_24 : decode cX5_takeFrom 24 = .ok (.iconst 0, 1) := by decide +kernel
theorem dX5_takeFrom_25 : decode cX5_takeFrom 25 = .ok (.aload_n 0, 1) := by decide +kernel
theorem dX5_takeFrom_26 : decode cX5_takeFrom 26 = .ok (.getfield 20, 3) := by decide +kernel
theorem dX5_takeFrom_29 : decode cX5_takeFrom 29 = .ok (.iload_n 2, 1) := by decide +kernel
theorem dX5_takeFrom_30 : decode cX5_takeFrom 30 = .ok (.aaload, 1) := by decide +kernel
theorem dX5_takeFrom_31 : decode cX5_takeFrom 31 = .ok (.iconst 0, 1) := by decide +kernel
theorem dX5_takeFrom_32 : decode cX5_takeFrom 32 = .ok (.bipush 28, 2) := by decide +kernel
theorem dX5_takeFrom_34 : decode cX5_takeFrom 34 = .ok (.invokestatic 31, 3) := by decide +kernel
theorem dX5_takeFrom_37 : decode cX5_takeFrom 37 = .ok (.iinc 2 1, 3) := by decide +kernel
theorem dX5_takeFrom_40 : decode cX5_takeFrom 40 = .ok (.goto (-27), 3) := by decide +kernel
theorem dX5_takeFrom_43 : decode cX5_takeFrom 43 = .ok (.return_, 1) := by decide +kernel
theorem dX11_keep_25 : decode cX11_keep 25 = .ok (.aload_n 0, 1) := by decide +kernel
theorem dX11_keep_26 : decode cX11_keep 26 = .ok (.getfield 31, 3) := by decide +kernel
theorem dX11_keep_29 : decode cX11_keep 29 = .ok (.iload_n 1, 1) := by decide +kernel
theorem dX11_keep_30 : decode cX11_keep 30 = .ok (.aaload, 1) := by decide +kernel
theorem dX11_keep_31 : decode cX11_keep 31 = .ok (.iconst 1, 1) := by decide +kernel
theorem dX11_keep_32 : decode cX11_keep 32 = .ok (.putfield 392, 3) := by decide +kernel
theorem dX11_keep_35 : decode cX11_keep 35 = .ok (.iconst 0, 1) := by decide +kernel
theorem dX11_keep_36 : decode cX11_keep 36 = .ok (.ireturn, 1) := by decide +kernel
theorem dX11_back_0 : decode cX11_back 0 = .ok (.iload_n 1, 1) := by decide +kernel
theorem dX11_back_1 : decode cX11_back 1 = .ok (.ifCond .lt 8, 3) := by decide +kernel
theorem dX11_back_9 : decode cX11_back 9 = .ok (.bipush (-2), 2) := by decide +kernel
theorem dX11_back_11 : decode cX11_back 11 = .ok (.ireturn, 1) := by decide +kernel
theorem dX11_back_4 : decode cX11_back 4 = .ok (.iload_n 1, 1) := by decide +kernel
theorem dX11_back_5 : decode cX11_back 5 = .ok (.iconst 3, 1) := by decide +kernel
theorem dX11_back_6 : decode cX11_back 6 = .ok (.if_icmp .lt 6, 3) := by decide +kernel
theorem dX11_back_12 : decode cX11_back 12 = .ok (.aload_n 0, 1) := by decide +kernel
theorem dX11_back_13 : decode cX11_back 13 = .ok (.getfield 31, 3) := by decide +kernel
theorem dX11_back_16 : decode cX11_back 16 = .ok (.iload_n 1, 1) := by decide +kernel
theorem dX11_back_17 : decode cX11_back 17 = .ok (.aaload, 1) := by decide +kernel
theorem dX11_back_18 : decode cX11_back 18 = .ok (.getfield 392, 3) := by decide +kernel
theorem dX11_back_21 : decode cX11_back 21 = .ok (.ifCond .ne 6, 3) := by decide +kernel
theorem dX11_back_24 : decode cX11_back 24 = .ok (.bipush (-6), 2) := by decide +kernel
theorem dX11_back_26 : decode cX11_back 26 = .ok (.ireturn, 1) := by decide +kernel
theorem dX11_row_0 : decode cX11_row 0 = .ok (.iload_n 1, 1) := by decide +kernel
theorem dX11_row_1 : decode cX11_row 1 = .ok (.invokestatic 137, 3) := by decide +kernel
theorem dX11_row_4 : decode cX11_row 4 = .ok (.ifCond .eq 18, 3) := by decide +kernel
theorem dX11_row_22 : decode cX11_row 22 = .ok (.bipush (-2), 2) := by decide +kernel
theorem dX11_row_24 : decode cX11_row 24 = .ok (.ireturn, 1) := by decide +kernel
theorem dX11_row_7 : decode cX11_row 7 = .ok (.iload_n 2, 1) := by decide +kernel
theorem dX11_row_8 : decode cX11_row 8 = .ok (.ifCond .lt 14, 3) := by decide +kernel
theorem dX11_row_11 : decode cX11_row 11 = .ok (.iload_n 2, 1) := by decide +kernel
theorem dX11_row_12 : decode cX11_row 12 = .ok (.iconst 4, 1) := by decide +kernel
theorem dX11_row_13 : decode cX11_row 13 = .ok (.if_icmp .ge 9, 3) := by decide +kernel
theorem dX11_row_16 : decode cX11_row 16 = .ok (.iload_n 3, 1) := by decide +kernel
theorem dX11_row_17 : decode cX11_row 17 = .ok (.bipush 60, 2) := by decide +kernel
theorem dX11_row_19 : decode cX11_row 19 = .ok (.if_icmp .le 6, 3) := by decide +kernel
theorem dX11_row_25 : decode cX11_row 25 = .ok (.iload_n 3, 1) := by decide +kernel
theorem dX11_row_26 : decode cX11_row 26 = .ok (.ifCond .ge 6, 3) := by decide +kernel
theorem dX11_row_32 : decode cX11_row 32 = .ok (.aload_n 0, 1) := by decide +kernel
theorem dX11_row_33 : decode cX11_row 33 = .ok (.getfield 37, 3) := by decide +kernel
theorem dX11_row_36 : decode cX11_row 36 = .ok (.iload_n 1, 1) := by decide +kernel
theorem dX11_row_37 : decode cX11_row 37 = .ok (.aaload, 1) := by decide +kernel
theorem dX11_row_38 : decode cX11_row 38 = .ok (.iload_n 2, 1) := by decide +kernel
theorem dX11_row_39 : decode cX11_row 39 = .ok (.iload_n 3, 1) := by decide +kernel
theorem dX11_row_40 : decode cX11_row 40 = .ok (.invokevirtual 396, 3) := by decide +kernel
theorem dX4_makeRow_0 : decode cX4_makeRow 0 = .ok (.aload_n 0, 1) := by decide +kernel
theorem dX4_makeRow_1 : decode cX4_makeRow 1 = .ok (.iload_n 1, 1) := by decide +kernel
theorem dX4_makeRow_2 : decode cX4_makeRow 2 = .ok (.putfield 9, 3) := by decide +kernel
theorem dX4_makeRow_5 : decode cX4_makeRow 5 = .ok (.aload_n 0, 1) := by decide +kernel
theorem dX4_makeRow_6 : decode cX4_makeRow 6 = .ok (.iload_n 2, 1) := by decide +kernel
theorem dX4_makeRow_7 : decode cX4_makeRow 7 = .ok (.putfield 15, 3) := by decide +kernel
theorem dX4_makeRow_10 : decode cX4_makeRow 10 = .ok (.aload_n 0, 1) := by decide +kernel
theorem dX4_makeRow_11 : decode cX4_makeRow 11 = .ok (.getfield 18, 3) := by decide +kernel
theorem dX4_makeRow_14 : decode cX4_makeRow 14 = .ok (.lconst 0, 1) := by decide +kernel
theorem dX4_makeRow_15 : decode cX4_makeRow 15 = .ok (.invokestatic 22, 3) := by decide +kernel
theorem dX4_makeRow_18 : decode cX4_makeRow 18 = .ok (.return_, 1) := by decide +kernel
theorem dX11_row_43 : decode cX11_row 43 = .ok (.iconst 0, 1) := by decide +kernel
theorem dX11_row_44 : decode cX11_row 44 = .ok (.ireturn, 1) := by decide +kernel
theorem dX11_row_29 : decode cX11_row 29 = .ok (.bipush (-3), 2) := by decide +kernel
theorem dX11_row_31 : decode cX11_row 31 = .ok (.ireturn, 1) := by decide +kernel
theorem dX11_write_0 : decode cX11_write 0 = .ok (.iload_n 1, 1) := by decide +kernel
theorem dX11_write_1 : decode cX11_write 1 = .ok (.invokestatic 137, 3) := by decide +kernel
theorem dX11_write_4 : decode cX11_write 4 = .ok (.ifCond .ne 6, 3) := by decide +kernel
theorem dX11_write_7 : decode cX11_write 7 = .ok (.bipush (-2), 2) := by decide +kernel
theorem dX11_write_9 : decode cX11_write 9 = .ok (.ireturn, 1) := by decide +kernel
theorem dX11_write_10 : decode cX11_write 10 = .ok (.aload_n 0, 1) := by decide +kernel
theorem dX11_write_11 : decode cX11_write 11 = .ok (.getfield 37, 3) := by decide +kernel
theorem dX11_write_14 : decode cX11_write 14 = .ok (.iload_n 1, 1) := by decide +kernel
theorem dX11_write_15 : decode cX11_write 15 = .ok (.aaload, 1) := by decide +kernel
theorem dX11_write_16 : decode cX11_write 16 = .ok (.astore 5, 2) := by decide +kernel
theorem dX11_write_18 : decode cX11_write 18 = .ok (.aload 5, 2) := by decide +kernel
theorem dX11_write_20 : decode cX11_write 20 = .ok (.invokevirtual 140, 3) := by decide +kernel
theorem dX11_write_23 : decode cX11_write 23 = .ok (.ifCond .ne 6, 3) := by decide +kernel
theorem dX11_write_26 : decode cX11_write 26 = .ok (.bipush (-6), 2) := by decide +kernel
theorem dX11_write_28 : decode cX11_write 28 = .ok (.ireturn, 1) := by decide +kernel
theorem dX11_paste_0 : decode cX11_paste 0 = .ok (.iload_n 1, 1) := by decide +kernel
theorem dX11_paste_1 : decode cX11_paste 1 = .ok (.invokestatic 137, 3) := by decide +kernel
theorem dX11_paste_4 : decode cX11_paste 4 = .ok (.ifCond .eq 10, 3) := by decide +kernel
theorem dX11_paste_14 : decode cX11_paste 14 = .ok (.bipush (-2), 2) := by decide +kernel
theorem dX11_paste_16 : decode cX11_paste 16 = .ok (.ireturn, 1) := by decide +kernel
theorem dX11_paste_7 : decode cX11_paste 7 = .ok (.iload_n 3, 1) := by decide +kernel
theorem dX11_paste_8 : decode cX11_paste 8 = .ok (.invokestatic 137, 3) := by decide +kernel
theorem dX11_paste_11 : decode cX11_paste 11 = .ok (.ifCond .ne 6, 3) := by decide +kernel
theorem dX11_paste_17 : decode cX11_paste 17 = .ok (.aload_n 0, 1) := by decide +kernel
theorem dX11_paste_18 : decode cX11_paste 18 = .ok (.getfield 37, 3) := by decide +kernel
theorem dX11_paste_21 : decode cX11_paste 21 = .ok (.iload_n 1, 1) := by decide +kernel
theorem dX11_paste_22 : decode cX11_paste 22 = .ok (.aaload, 1) := by decide +kernel
theorem dX11_paste_23 : decode cX11_paste 23 = .ok (.astore 6, 2) := by decide +kernel
theorem dX11_paste_25 : decode cX11_paste 25 = .ok (.aload_n 0, 1) := by decide +kernel
theorem dX11_paste_26 : decode cX11_paste 26 = .ok (.getfield 37, 3) := by decide +kernel
theorem dX11_paste_29 : decode cX11_paste 29 = .ok (.iload_n 3, 1) := by decide +kernel
theorem dX11_paste_30 : decode cX11_paste 30 = .ok (.aaload, 1) := by decide +kernel
theorem dX11_paste_31 : decode cX11_paste 31 = .ok (.astore 7, 2) := by decide +kernel
theorem dX11_paste_33 : decode cX11_paste 33 = .ok (.aload 6, 2) := by decide +kernel
theorem dX11_paste_35 : decode cX11_paste 35 = .ok (.invokevirtual 140, 3) := by decide +kernel
theorem dX11_paste_38 : decode cX11_paste 38 = .ok (.ifCond .eq 11, 3) := by decide +kernel
theorem dX11_paste_49 : decode cX11_paste 49 = .ok (.bipush (-6), 2) := by decide +kernel
theorem dX11_paste_51 : decode cX11_paste 51 = .ok (.ireturn, 1) := by decide +kernel
theorem dX12_feed_0 : decode cX12_feed 0 = .ok (.aload_n 0, 1) := by decide +kernel
theorem dX12_feed_1 : decode cX12_feed 1 = .ok (.getfield 112, 3) := by decide +kernel
theorem dX12_feed_4 : decode cX12_feed 4 = .ok (.bipush 20, 2) := by decide +kernel
theorem dX12_feed_6 : decode cX12_feed 6 = .ok (.iadd, 1) := by decide +kernel
theorem dX12_feed_7 : decode cX12_feed 7 = .ok (.sipush 800, 3) := by decide +kernel
theorem dX12_feed_10 : decode cX12_feed 10 = .ok (.if_icmp .le 5, 3) := by decide +kernel
theorem dX12_feed_15 : decode cX12_feed 15 = .ok (.aload_n 0, 1) := by decide +kernel
theorem dX12_feed_16 : decode cX12_feed 16 = .ok (.getfield 28, 3) := by decide +kernel
theorem dX12_feed_19 : decode cX12_feed 19 = .ok (.iconst 0, 1) := by decide +kernel
theorem dX12_feed_20 : decode cX12_feed 20 = .ok (.iload_n 1, 1) := by decide +kernel
theorem dX12_feed_21 : decode cX12_feed 21 = .ok (.iastore, 1) := by decide +kernel
theorem dX12_feed_22 : decode cX12_feed 22 = .ok (.aload_n 0, 1) := by decide +kernel
theorem dX12_feed_23 : decode cX12_feed 23 = .ok (.getfield 28, 3) := by decide +kernel
theorem dX12_feed_26 : decode cX12_feed 26 = .ok (.iconst 1, 1) := by decide +kernel
theorem dX12_feed_27 : decode cX12_feed 27 = .ok (.iload_n 2, 1) := by decide +kernel
theorem dX12_feed_28 : decode cX12_feed 28 = .ok (.iastore, 1) := by decide +kernel
theorem dX12_feed_29 : decode cX12_feed 29 = .ok (.aload_n 0, 1) := by decide +kernel
theorem dX12_feed_30 : decode cX12_feed 30 = .ok (.getfield 28, 3) := by decide +kernel
theorem dX12_feed_33 : decode cX12_feed 33 = .ok (.iconst 2, 1) := by decide +kernel
theorem dX12_feed_34 : decode cX12_feed 34 = .ok (.iload_n 3, 1) := by decide +kernel
theorem dX12_feed_35 : decode cX12_feed 35 = .ok (.iastore, 1) := by decide +kernel
theorem dX12_feed_36 : decode cX12_feed 36 = .ok (.aload_n 0, 1) := by decide +kernel
theorem dX12_feed_37 : decode cX12_feed 37 = .ok (.getfield 28, 3) := by decide +kernel
theorem dX12_feed_40 : decode cX12_feed 40 = .ok (.iconst 3, 1) := by decide +kernel
theorem dX12_feed_41 : decode cX12_feed 41 = .ok (.iload 4, 2) := by decide +kernel
theorem dX12_feed_43 : decode cX12_feed 43 = .ok (.iastore, 1) := by decide +kernel
theorem dX12_feed_44 : decode cX12_feed 44 = .ok (.aload_n 0, 1) := by decide +kernel
theorem dX12_feed_45 : decode cX12_feed 45 = .ok (.getfield 28, 3) := by decide +kernel
theorem dX12_feed_48 : decode cX12_feed 48 = .ok (.iconst 4, 1) := by decide +kernel
theorem dX12_feed_49 : decode cX12_feed 49 = .ok (.iload 5, 2) := by decide +kernel
theorem dX12_feed_51 : decode cX12_feed 51 = .ok (.iastore, 1) := by decide +kernel
theorem dX12_feed_52 : decode cX12_feed 52 = .ok (.iconst 0, 1) := by decide +kernel
theorem dX12_feed_53 : decode cX12_feed 53 = .ok (.istore 6, 2) := by decide +kernel
theorem dX12_feed_55 : decode cX12_feed 55 = .ok (.iload 6, 2) := by decide +kernel
theorem dX12_feed_57 : decode cX12_feed 57 = .ok (.bipush 20, 2) := by decide +kernel
theorem dX12_feed_59 : decode cX12_feed 59 = .ok (.if_icmp .ge 42, 3) := by decide +kernel
theorem dX12_feed_62 : decode cX12_feed 62 = .ok (.aload_n 0, 1) := by decide +kernel
theorem dX12_feed_63 : decode cX12_feed 63 = .ok (.getfield 24, 3) := by decide +kernel
theorem dX12_feed_66 : decode cX12_feed 66 = .ok (.aload_n 0, 1) := by decide +kernel
theorem dX12_feed_67 : decode cX12_feed 67 = .ok (.getfield 112, 3) := by decide +kernel
theorem dX12_feed_70 : decode cX12_feed 70 = .ok (.iload 6, 2) := by decide +kernel
theorem dX12_feed_72 : decode cX12_feed 72 = .ok (.iadd, 1) := by decide +kernel
theorem dX12_feed_73 : decode cX12_feed 73 = .ok (.aload_n 0, 1) := by decide +kernel
theorem dX12_feed_74 : decode cX12_feed 74 = .ok (.getfield 28, 3) := by decide +kernel
theorem dX12_feed_77 : decode cX12_feed 77 = .ok (.iload 6, 2) := by decide +kernel
theorem dX12_feed_79 : decode cX12_feed 79 = .ok (.iconst 4, 1) := by decide +kernel
theorem dX12_feed_80 : decode cX12_feed 80 = .ok (.idiv, 1) := by decide +kernel
theorem dX12_feed_81 : decode cX12_feed 81 = .ok (.iaload, 1) := by decide +kernel
theorem dX12_feed_82 : decode cX12_feed 82 = .ok (.bipush 24, 2) := by decide +kernel
theorem dX12_feed_84 : decode cX12_feed 84 = .ok (.bipush 8, 2) := by decide +kernel
theorem dX12_feed_86 : decode cX12_feed 86 = .ok (.iload 6, 2) := by decide +kernel
theorem dX12_feed_88 : decode cX12_feed 88 = .ok (.iconst 4, 1) := by decide +kernel
theorem dX12_feed_89 : decode cX12_feed 89 = .ok (.irem, 1) := by decide +kernel
theorem dX12_feed_90 : decode cX12_feed 90 = .ok (.imul, 1) := by decide +kernel
theorem dX12_feed_91 : decode cX12_feed 91 = .ok (.isub, 1) := by decide +kernel
theorem dX12_feed_92 : decode cX12_feed 92 = .ok (.ishr, 1) := by decide +kernel
theorem dX12_feed_93 : decode cX12_feed 93 = .ok (.i2b, 1) := by decide +kernel
theorem dX12_feed_94 : decode cX12_feed 94 = .ok (.bastore, 1) := by decide +kernel
theorem dX12_feed_95 : decode cX12_feed 95 = .ok (.iinc 6 1, 3) := by decide +kernel
theorem dX12_feed_98 : decode cX12_feed 98 = .ok (.goto (-43), 3) := by decide +kernel
theorem dX12_feed_101 : decode cX12_feed 101 = .ok (.aload_n 0, 1) := by decide +kernel
theorem dX12_feed_102 : decode cX12_feed 102 = .ok (.dup, 1) := by decide +kernel
theorem dX12_feed_103 : decode cX12_feed 103 = .ok (.getfield 112, 3) := by decide +kernel
theorem dX12_feed_106 : decode cX12_feed 106 = .ok (.bipush 20, 2) := by decide +kernel
theorem dX12_feed_108 : decode cX12_feed 108 = .ok (.iadd, 1) := by decide +kernel
theorem dX12_feed_109 : decode cX12_feed 109 = .ok (.putfield 112, 3) := by decide +kernel
theorem dX12_feed_112 : decode cX12_feed 112 = .ok (.aload_n 0, 1) := by decide +kernel
theorem dX12_feed_113 : decode cX12_feed 113 = .ok (.getfield 112, 3) := by decide +kernel
theorem dX12_feed_116 : decode cX12_feed 116 = .ok (.ireturn, 1) := by decide +kernel
theorem dX12_end_0 : decode cX12_end 0 = .ok (.iload_n 1, 1) := by decide +kernel
theorem dX12_end_1 : decode cX12_end 1 = .ok (.i2l, 1) := by decide +kernel
theorem dX12_end_2 : decode cX12_end 2 = .ok (.lconst 0, 1) := by decide +kernel
theorem dX12_end_3 : decode cX12_end 3 = .ok (.aload_n 0, 1) := by decide +kernel
theorem dX12_end_4 : decode cX12_end 4 = .ok (.getfield 112, 3) := by decide +kernel
theorem dX12_end_7 : decode cX12_end 7 = .ok (.i2l, 1) := by decide +kernel
theorem dX12_end_8 : decode cX12_end 8 = .ok (.invokestatic 98, 3) := by decide +kernel
theorem dX12_end_11 : decode cX12_end 11 = .ok (.ifCond .ne 5, 3) := by decide +kernel
theorem dX12_end_16 : decode cX12_end 16 = .ok (.aload_n 0, 1) := by decide +kernel
theorem dX12_end_17 : decode cX12_end 17 = .ok (.iload_n 1, 1) := by decide +kernel
theorem dX12_end_18 : decode cX12_end 18 = .ok (.putfield 112, 3) := by decide +kernel
theorem dX12_end_21 : decode cX12_end 21 = .ok (.iload_n 1, 1) := by decide +kernel
theorem dX12_end_22 : decode cX12_end 22 = .ok (.ireturn, 1) := by decide +kernel
theorem dX12_end_14 : decode cX12_end 14 = .ok (.iconst (-1), 1) := by decide +kernel
theorem dX12_end_15 : decode cX12_end 15 = .ok (.ireturn, 1) := by decide +kernel
theorem dX12_text_0 : decode cX12_text 0 = .ok (.aload_n 0, 1) := by decide +kernel
theorem dX12_text_1 : decode cX12_text 1 = .ok (.aload_n 0, 1) := by decide +kernel
theorem dX12_text_2 : decode cX12_text 2 = .ok (.getfield 112, 3) := by decide +kernel
theorem dX12_text_5 : decode cX12_text 5 = .ok (.putfield 115, 3) := by decide +kernel
theorem dX12_text_8 : decode cX12_text 8 = .ok (.aload_n 0, 1) := by decide +kernel
theorem dX12_text_9 : decode cX12_text 9 = .ok (.iconst 0, 1) := by decide +kernel
theorem dX12_text_10 : decode cX12_text 10 = .ok (.putfield 112, 3) := by decide +kernel
theorem dX12_text_13 : decode cX12_text 13 = .ok (.aload_n 0, 1) := by decide +kernel
theorem dX12_text_14 : decode cX12_text 14 = .ok (.iconst 0, 1) := by decide +kernel
theorem dX12_text_15 : decode cX12_text 15 = .ok (.putfield 118, 3) := by decide +kernel
theorem dX12_text_18 : decode cX12_text 18 = .ok (.aload_n 0, 1) := by decide +kernel
theorem dX12_text_19 : decode cX12_text 19 = .ok (.iconst 0, 1) := by decide +kernel
theorem dX12_text_20 : decode cX12_text 20 = .ok (.putfield 149, 3) := by decide +kernel
theorem dX12_text_23 : decode cX12_text 23 = .ok (.aload_n 0, 1) := by decide +kernel
theorem dX12_text_24 : decode cX12_text 24 = .ok (.iconst (-1), 1) := by decide +kernel
theorem dX12_text_25 : decode cX12_text 25 = .ok (.putfield 31, 3) := by decide +kernel
theorem dX12_text_28 : decode cX12_text 28 = .ok (.aload_n 0, 1) := by decide +kernel
theorem dX12_text_29 : decode cX12_text 29 = .ok (.getfield 34, 3) := by decide +kernel
theorem dX12_text_32 : decode cX12_text 32 = .ok (.invokestatic 92, 3) := by decide +kernel
theorem dX12_text_35 : decode cX12_text 35 = .ok (.iconst 0, 1) := by decide +kernel
theorem dX12_text_36 : decode cX12_text 36 = .ok (.istore_n 1, 1) := by decide +kernel
theorem dX12_text_37 : decode cX12_text 37 = .ok (.iload_n 1, 1) := by decide +kernel
theorem dX12_text_38 : decode cX12_text 38 = .ok (.bipush 28, 2) := by decide +kernel
theorem dX12_text_40 : decode cX12_text 40 = .ok (.if_icmp .ge 16, 3) := by decide +kernel
theorem dX12_text_43 : decode cX12_text 43 = .ok (.aload_n 0, 1) := by decide +kernel
theorem dX12_text_44 : decode cX12_text 44 = .ok (.getfield 37, 3) := by decide +kernel
theorem dX12_text_47 : decode cX12_text 47 = .ok (.iload_n 1, 1) := by decide +kernel
theorem dX12_text_48 : decode cX12_text 48 = .ok (.iconst 0, 1) := by decide +kernel
theorem dX12_text_49 : decode cX12_text 49 = .ok (.bastore, 1) := by decide +kernel
theorem dX12_text_50 : decode cX12_text 50 = .ok (.iinc 1 1, 3) := by decide +kernel
theorem dX12_text_53 : decode cX12_text 53 = .ok (.goto (-16), 3) := by decide +kernel
theorem dX12_text_56 : decode cX12_text 56 = .ok (.aload_n 0, 1) := by decide +kernel
theorem dX12_text_57 : decode cX12_text 57 = .ok (.invokevirtual 169, 3) := by decide +kernel
theorem dX12_step_0 : decode cX12_step 0 = .ok (.aload_n 0, 1) := by decide +kernel
theorem dX12_step_1 : decode cX12_step 1 = .ok (.aload_n 0, 1) := by decide +kernel
theorem dX12_step_2 : decode cX12_step 2 = .ok (.getfield 118, 3) := by decide +kernel
theorem dX12_step_5 : decode cX12_step 5 = .ok (.invokevirtual 121, 3) := by decide +kernel
theorem dX12_see_0 : decode cX12_see 0 = .ok (.iload_n 1, 1) := by decide +kernel
theorem dX12_see_1 : decode cX12_see 1 = .ok (.aload_n 0, 1) := by decide +kernel
theorem dX12_see_2 : decode cX12_see 2 = .ok (.getfield 115, 3) := by decide +kernel
theorem dX12_see_5 : decode cX12_see 5 = .ok (.if_icmp .ge 16, 3) := by decide +kernel
theorem dX12_see_21 : decode cX12_see 21 = .ok (.iconst (-1), 1) := by decide +kernel
theorem dX12_see_22 : decode cX12_see 22 = .ok (.ireturn, 1) := by decide +kernel
theorem dX12_step_8 : decode cX12_step 8 = .ok (.bipush 32, 2) := by decide +kernel
theorem dX12_step_10 : decode cX12_step 10 = .ok (.if_icmp .eq 16, 3) := by decide +kernel
theorem dX12_step_13 : decode cX12_step 13 = .ok (.aload_n 0, 1) := by decide +kernel
theorem dX12_step_14 : decode cX12_step 14 = .ok (.aload_n 0, 1) := by decide +kernel
theorem dX12_step_15 : decode cX12_step 15 = .ok (.getfield 118, 3) := by decide +kernel
theorem dX12_step_18 : decode cX12_step 18 = .ok (.invokevirtual 121, 3) := by decide +kernel
theorem dX12_step_21 : decode cX12_step 21 = .ok (.bipush 10, 2) := by decide +kernel
theorem dX12_step_23 : decode cX12_step 23 = .ok (.if_icmp .ne 16, 3) := by decide +kernel
theorem dX12_step_39 : decode cX12_step 39 = .ok (.aload_n 0, 1) := by decide +kernel
theorem dX12_step_40 : decode cX12_step 40 = .ok (.aload_n 0, 1) := by decide +kernel
theorem dX12_step_41 : decode cX12_step 41 = .ok (.getfield 118, 3) := by decide +kernel
theorem dX12_step_44 : decode cX12_step 44 = .ok (.putfield 125, 3) := by decide +kernel
theorem dX12_step_47 : decode cX12_step 47 = .ok (.aload_n 0, 1) := by decide +kernel
theorem dX12_step_48 : decode cX12_step 48 = .ok (.aload_n 0, 1) := by decide +kernel
theorem dX12_step_49 : decode cX12_step 49 = .ok (.getfield 118, 3) := by decide +kernel
theorem dX12_step_52 : decode cX12_step 52 = .ok (.invokevirtual 121, 3) := by decide +kernel
theorem dX12_step_55 : decode cX12_step 55 = .ok (.istore_n 1, 1) := by decide +kernel
theorem dX12_step_56 : decode cX12_step 56 = .ok (.iload_n 1, 1) := by decide +kernel
theorem dX12_step_57 : decode cX12_step 57 = .ok (.iconst (-1), 1) := by decide +kernel
theorem dX12_step_58 : decode cX12_step 58 = .ok (.if_icmp .ne 11, 3) := by decide +kernel
theorem dX12_step_61 : decode cX12_step 61 = .ok (.aload_n 0, 1) := by decide +kernel
theorem dX12_step_62 : decode cX12_step 62 = .ok (.iconst 0, 1) := by decide +kernel
theorem dX12_step_63 : decode cX12_step 63 = .ok (.putfield 128, 3) := by decide +kernel
theorem dX12_step_66 : decode cX12_step 66 = .ok (.goto 173, 3) := by decide +kernel
theorem dX12_step_239 : decode cX12_step 239 = .ok (.return_, 1) := by decide +kernel
theorem dX12_text_60 : decode cX12_text 60 = .ok (.aload_n 0, 1) := by decide +kernel
theorem dX12_text_61 : decode cX12_text 61 = .ok (.invokevirtual 152, 3) := by decide +kernel
theorem dX12_good_0 : decode cX12_good 0 = .ok (.aload_n 0, 1) := by decide +kernel
theorem dX12_good_1 : decode cX12_good 1 = .ok (.getfield 149, 3) := by decide +kernel
theorem dX12_good_4 : decode cX12_good 4 = .ok (.ifCond .ne 7, 3) := by decide +kernel
theorem dX12_good_7 : decode cX12_good 7 = .ok (.iconst 1, 1) := by decide +kernel
theorem dX12_good_8 : decode cX12_good 8 = .ok (.goto 4, 3) := by decide +kernel
theorem dX12_good_12 : decode cX12_good 12 = .ok (.ireturn, 1) := by decide +kernel
theorem dX12_text_64 : decode cX12_text 64 = .ok (.ifCond .eq 17, 3) := by decide +kernel
theorem dX12_text_67 : decode cX12_text 67 = .ok (.aload_n 0, 1) := by decide +kernel
theorem dX12_text_68 : decode cX12_text 68 = .ok (.getfield 128, 3) := by decide +kernel
theorem dX12_text_71 : decode cX12_text 71 = .ok (.ifCond .eq 10, 3) := by decide +kernel
theorem dX12_text_81 : decode cX12_text 81 = .ok (.aload_n 0, 1) := by decide +kernel
theorem dX12_text_82 : decode cX12_text 82 = .ok (.invokevirtual 152, 3) := by decide +kernel
theorem dX12_text_85 : decode cX12_text 85 = .ok (.ifCond .ne 6, 3) := by decide +kernel
theorem dX12_text_91 : decode cX12_text 91 = .ok (.iconst 0, 1) := by decide +kernel
theorem dX12_text_92 : decode cX12_text 92 = .ok (.istore_n 1, 1) := by decide +kernel
theorem dX12_text_93 : decode cX12_text 93 = .ok (.iload_n 1, 1) := by decide +kernel
theorem dX12_text_94 : decode cX12_text 94 = .ok (.sipush 304, 3) := by decide +kernel
theorem dX12_text_97 : decode cX12_text 97 = .ok (.if_icmp .ge 21, 3) := by decide +kernel
theorem dX12_text_100 : decode cX12_text 100 = .ok (.aload_n 0, 1) := by decide +kernel
theorem dX12_text_101 : decode cX12_text 101 = .ok (.getfield 13, 3) := by decide +kernel
theorem dX12_text_104 : decode cX12_text 104 = .ok (.iload_n 1, 1) := by decide +kernel
theorem dX12_text_105 : decode cX12_text 105 = .ok (.aload_n 0, 1) := by decide +kernel
theorem dX12_text_106 : decode cX12_text 106 = .ok (.getfield 34, 3) := by decide +kernel
theorem dX12_text_109 : decode cX12_text 109 = .ok (.iload_n 1, 1) := by decide +kernel
theorem dX12_text_110 : decode cX12_text 110 = .ok (.iaload, 1) := by decide +kernel
theorem dX12_text_111 : decode cX12_text 111 = .ok (.iastore, 1) := by decide +kernel
theorem dX12_text_112 : decode cX12_text 112 = .ok (.iinc 1 1, 3) := by decide +kernel
theorem dX12_text_115 : decode cX12_text 115 = .ok (.goto (-22), 3) := by decide +kernel
theorem dX12_text_118 : decode cX12_text 118 = .ok (.iconst 0, 1) := by decide +kernel
theorem dX12_text_119 : decode cX12_text 119 = .ok (.istore_n 1, 1) := by decide +kernel
theorem dX12_text_120 : decode cX12_text 120 = .ok (.iload_n 1, 1) := by decide +kernel
theorem dX12_text_121 : decode cX12_text 121 = .ok (.iconst 2, 1) := by decide +kernel
theorem dX12_text_122 : decode cX12_text 122 = .ok (.if_icmp .ge 55, 3) := by decide +kernel
theorem dX12_text_125 : decode cX12_text 125 = .ok (.iconst 0, 1) := by decide +kernel
theorem dX12_text_126 : decode cX12_text 126 = .ok (.istore_n 2, 1) := by decide +kernel
theorem dX12_text_127 : decode cX12_text 127 = .ok (.iload_n 2, 1) := by decide +kernel
theorem dX12_text_128 : decode cX12_text 128 = .ok (.aload_n 0, 1) := by decide +kernel
theorem dX12_text_129 : decode cX12_text 129 = .ok (.invokevirtual 102, 3) := by decide +kernel
theorem dX12_alleys_0 : decode cX12_alleys 0 = .ok (.aload_n 0, 1) := by decide +kernel
theorem dX12_alleys_1 : decode cX12_alleys 1 = .ok (.getfield 13, 3) := by decide +kernel
theorem dX12_alleys_4 : decode cX12_alleys 4 = .ok (.iconst 2, 1) := by decide +kernel
theorem dX12_alleys_5 : decode cX12_alleys 5 = .ok (.iaload, 1) := by decide +kernel
theorem dX12_alleys_6 : decode cX12_alleys 6 = .ok (.ireturn, 1) := by decide +kernel
theorem dX12_text_132 : decode cX12_text 132 = .ok (.if_icmp .ge 39, 3) := by decide +kernel
theorem dX12_text_171 : decode cX12_text 171 = .ok (.iinc 1 1, 3) := by decide +kernel
theorem dX12_text_174 : decode cX12_text 174 = .ok (.goto (-54), 3) := by decide +kernel
theorem dX12_text_177 : decode cX12_text 177 = .ok (.aload_n 0, 1) := by decide +kernel
theorem dX12_text_178 : decode cX12_text 178 = .ok (.getfield 13, 3) := by decide +kernel
theorem dX12_text_181 : decode cX12_text 181 = .ok (.iconst 0, 1) := by decide +kernel
theorem dX12_text_182 : decode cX12_text 182 = .ok (.iaload, 1) := by decide +kernel
theorem dX12_text_183 : decode cX12_text 183 = .ok (.ireturn, 1) := by decide +kernel
theorem dX12_fault_0 : decode cX12_fault 0 = .ok (.iload_n 1, 1) := by decide +kernel
theorem dX12_fault_1 : decode cX12_fault 1 = .ok (.ifCond .ne 10, 3) := by decide +kernel
theorem dX12_fault_11 : decode cX12_fault 11 = .ok (.iload_n 1, 1) := by decide +kernel
theorem dX12_fault_12 : decode cX12_fault 12 = .ok (.iconst 1, 1) := by decide +kernel
theorem dX12_fault_13 : decode cX12_fault 13 = .ok (.if_icmp .ne 10, 3) := by decide +kernel
theorem dX12_fault_23 : decode cX12_fault 23 = .ok (.iconst (-1), 1) := by decide +kernel
theorem dX12_fault_24 : decode cX12_fault 24 = .ok (.ireturn, 1) := by decide +kernel
theorem dX12_fault_16 : decode cX12_fault 16 = .ok (.aload_n 0, 1) := by decide +kernel
theorem dX12_fault_17 : decode cX12_fault 17 = .ok (.getfield 31, 3) := by decide +kernel
theorem dX12_fault_20 : decode cX12_fault 20 = .ok (.goto 4, 3) := by decide +kernel
theorem dX12_fault_4 : decode cX12_fault 4 = .ok (.aload_n 0, 1) := by decide +kernel
theorem dX12_fault_5 : decode cX12_fault 5 = .ok (.getfield 149, 3) := by decide +kernel
theorem dX12_fault_8 : decode cX12_fault 8 = .ok (.goto 16, 3) := by decide +kernel
theorem dX12_give_0 : decode cX12_give 0 = .ok (.iload_n 1, 1) := by decide +kernel
theorem dX12_give_1 : decode cX12_give 1 = .ok (.invokestatic 239, 3) := by decide +kernel
theorem dX12_isGiving_0 : decode cX12_isGiving 0 = .ok (.iload_n 0, 1) := by decide +kernel
theorem dX12_isGiving_1 : decode cX12_isGiving 1 = .ok (.i2l, 1) := by decide +kernel
theorem dX12_isGiving_2 : decode cX12_isGiving 2 = .ok (.lconst 0, 1) := by decide +kernel
theorem dX12_isGiving_3 : decode cX12_isGiving 3 = .ok (.lconst 1, 1) := by decide +kernel
theorem dX12_isGiving_4 : decode cX12_isGiving 4 = .ok (.invokestatic 98, 3) := by decide +kernel
theorem dX12_isGiving_7 : decode cX12_isGiving 7 = .ok (.ireturn, 1) := by decide +kernel
theorem dX12_give_4 : decode cX12_give 4 = .ok (.ifCond .eq 21, 3) := by decide +kernel
theorem dX12_give_7 : decode cX12_give 7 = .ok (.aload_n 0, 1) := by decide +kernel
theorem dX12_give_8 : decode cX12_give 8 = .ok (.iload_n 2, 1) := by decide +kernel
theorem dX12_give_9 : decode cX12_give 9 = .ok (.invokevirtual 243, 3) := by decide +kernel
theorem dX12_isAlley_0 : decode cX12_isAlley 0 = .ok (.iload_n 1, 1) := by decide +kernel
theorem dX12_isAlley_1 : decode cX12_isAlley 1 = .ok (.i2l, 1) := by decide +kernel
theorem dX12_isAlley_2 : decode cX12_isAlley 2 = .ok (.lconst 0, 1) := by decide +kernel
theorem dX12_isAlley_3 : decode cX12_isAlley 3 = .ok (.aload_n 0, 1) := by decide +kernel
theorem dX12_isAlley_4 : decode cX12_isAlley 4 = .ok (.invokevirtual 102, 3) := by decide +kernel
theorem dX12_isAlley_7 : decode cX12_isAlley 7 = .ok (.iconst 1, 1) := by decide +kernel
theorem dX12_isAlley_8 : decode cX12_isAlley 8 = .ok (.isub, 1) := by decide +kernel
theorem dX12_isAlley_9 : decode cX12_isAlley 9 = .ok (.i2l, 1) := by decide +kernel
theorem dX12_isAlley_10 : decode cX12_isAlley 10 = .ok (.invokestatic 98, 3) := by decide +kernel
theorem dX12_isAlley_13 : decode cX12_isAlley 13 = .ok (.ireturn, 1) := by decide +kernel
theorem dX12_give_12 : decode cX12_give 12 = .ok (.ifCond .eq 13, 3) := by decide +kernel
theorem dX12_give_25 : decode cX12_give 25 = .ok (.bipush (-2), 2) := by decide +kernel
theorem dX12_give_27 : decode cX12_give 27 = .ok (.ireturn, 1) := by decide +kernel
theorem dX12_gives_0 : decode cX12_gives 0 = .ok (.iload_n 1, 1) := by decide +kernel
theorem dX12_gives_1 : decode cX12_gives 1 = .ok (.invokestatic 239, 3) := by decide +kernel
theorem dX12_gives_4 : decode cX12_gives 4 = .ok (.ifCond .eq 10, 3) := by decide +kernel
theorem dX12_gives_7 : decode cX12_gives 7 = .ok (.iload_n 2, 1) := by decide +kernel
theorem dX12_gives_8 : decode cX12_gives 8 = .ok (.invokestatic 252, 3) := by decide +kernel
theorem dX12_isSlot_0 : decode cX12_isSlot 0 = .ok (.iload_n 0, 1) := by decide +kernel
theorem dX12_isSlot_1 : decode cX12_isSlot 1 = .ok (.i2l, 1) := by decide +kernel
theorem dX12_isSlot_2 : decode cX12_isSlot 2 = .ok (.lconst 0, 1) := by decide +kernel
theorem dX12_isSlot_3 : decode cX12_isSlot 3 = .ok (.ldc2_w 233, 3) := by decide +kernel
theorem dX12_isSlot_6 : decode cX12_isSlot 6 = .ok (.invokestatic 98, 3) := by decide +kernel
theorem dX12_isSlot_9 : decode cX12_isSlot 9 = .ok (.ireturn, 1) := by decide +kernel
theorem dX12_gives_11 : decode cX12_gives 11 = .ok (.ifCond .ne 6, 3) := by decide +kernel
theorem dX12_gives_17 : decode cX12_gives 17 = .ok (.aload_n 0, 1) := by decide +kernel
theorem dX12_gives_18 : decode cX12_gives 18 = .ok (.getfield 79, 3) := by decide +kernel
theorem dX12_gives_21 : decode cX12_gives 21 = .ok (.iload_n 2, 1) := by decide +kernel
theorem dX12_gives_22 : decode cX12_gives 22 = .ok (.iaload, 1) := by decide +kernel
theorem dX12_gives_23 : decode cX12_gives 23 = .ok (.iconst (-1), 1) := by decide +kernel
theorem dX12_gives_24 : decode cX12_gives 24 = .ok (.if_icmp .ne 6, 3) := by decide +kernel
theorem dX12_gives_27 : decode cX12_gives 27 = .ok (.bipush (-6), 2) := by decide +kernel
theorem dX12_gives_29 : decode cX12_gives 29 = .ok (.ireturn, 1) := by decide +kernel
theorem dX12_gives_14 : decode cX12_gives 14 = .ok (.bipush (-2), 2) := by decide +kernel
theorem dX12_gives_16 : decode cX12_gives 16 = .ok (.ireturn, 1) := by decide +kernel
theorem dX12_way_0 : decode cX12_way 0 = .ok (.iload_n 1, 1) := by decide +kernel
theorem dX12_way_1 : decode cX12_way 1 = .ok (.invokestatic 239, 3) := by decide +kernel
theorem dX12_way_4 : decode cX12_way 4 = .ok (.ifCond .eq 20, 3) := by decide +kernel
theorem dX12_way_7 : decode cX12_way 7 = .ok (.aload_n 0, 1) := by decide +kernel
theorem dX12_way_8 : decode cX12_way 8 = .ok (.iload_n 2, 1) := by decide +kernel
theorem dX12_way_9 : decode cX12_way 9 = .ok (.invokevirtual 243, 3) := by decide +kernel
theorem dX12_way_12 : decode cX12_way 12 = .ok (.ifCond .eq 12, 3) := by decide +kernel
theorem dX12_way_24 : decode cX12_way 24 = .ok (.iconst (-1), 1) := by decide +kernel
theorem dX12_way_25 : decode cX12_way 25 = .ok (.ireturn, 1) := by decide +kernel
theorem dX12_clear_0 : decode cX12_clear 0 = .ok (.iload_n 1, 1) := by decide +kernel
theorem dX12_clear_1 : decode cX12_clear 1 = .ok (.invokestatic 239, 3) := by decide +kernel
theorem dX12_clear_4 : decode cX12_clear 4 = .ok (.ifCond .ne 6, 3) := by decide +kernel
theorem dX12_clear_10 : decode cX12_clear 10 = .ok (.iconst 0, 1) := by decide +kernel
theorem dX12_clear_11 : decode cX12_clear 11 = .ok (.istore_n 2, 1) := by decide +kernel
theorem dX12_clear_12 : decode cX12_clear 12 = .ok (.iconst 0, 1) := by decide +kernel
theorem dX12_clear_13 : decode cX12_clear 13 = .ok (.istore_n 3, 1) := by decide +kernel
theorem dX12_clear_14 : decode cX12_clear 14 = .ok (.iload_n 3, 1) := by decide +kernel
theorem dX12_clear_15 : decode cX12_clear 15 = .ok (.aload_n 0, 1) := by decide +kernel
theorem dX12_clear_16 : decode cX12_clear 16 = .ok (.invokevirtual 102, 3) := by decide +kernel
theorem dX12_clear_19 : decode cX12_clear 19 = .ok (.if_icmp .ge 50, 3) := by decide +kernel
theorem dX12_clear_69 : decode cX12_clear 69 = .ok (.iload_n 2, 1) := by decide +kernel
theorem dX12_clear_70 : decode cX12_clear 70 = .ok (.ireturn, 1) := by decide +kernel
theorem dX12_clear_7 : decode cX12_clear 7 = .ok (.bipush (-2), 2) := by decide +kernel
theorem dX12_clear_9 : decode cX12_clear 9 = .ok (.ireturn, 1) := by decide +kernel
theorem dX12_whole_0 : decode cX12_whole 0 = .ok (.iload_n 1, 1) := by decide +kernel
theorem dX12_whole_1 : decode cX12_whole 1 = .ok (.invokestatic 239, 3) := by decide +kernel
theorem dX12_whole_4 : decode cX12_whole 4 = .ok (.ifCond .ne 6, 3) := by decide +kernel
theorem dX12_whole_10 : decode cX12_whole 10 = .ok (.aload_n 0, 1) := by decide +kernel
theorem dX12_whole_11 : decode cX12_whole 11 = .ok (.iload_n 1, 1) := by decide +kernel
theorem dX12_whole_12 : decode cX12_whole 12 = .ok (.invokevirtual 271, 3) := by decide +kernel
theorem dX12_tries_0 : decode cX12_tries 0 = .ok (.iconst 0, 1) := by decide +kernel
theorem dX12_tries_1 : decode cX12_tries 1 = .ok (.istore_n 2, 1) := by decide +kernel
theorem dX12_tries_2 : decode cX12_tries 2 = .ok (.iload_n 2, 1) := by decide +kernel
theorem dX12_tries_3 : decode cX12_tries 3 = .ok (.aload_n 0, 1) := by decide +kernel
theorem dX12_tries_4 : decode cX12_tries 4 = .ok (.invokevirtual 102, 3) := by decide +kernel
theorem dX12_tries_7 : decode cX12_tries 7 = .ok (.if_icmp .ge 21, 3) := by decide +kernel
theorem dX12_tries_28 : decode cX12_tries 28 = .ok (.return_, 1) := by decide +kernel
theorem dX12_whole_15 : decode cX12_whole 15 = .ok (.aload_n 0, 1) := by decide +kernel
theorem dX12_whole_16 : decode cX12_whole 16 = .ok (.invokevirtual 274, 3) := by decide +kernel
theorem dX12_isWhole_0 : decode cX12_isWhole 0 = .ok (.aload_n 0, 1) := by decide +kernel
theorem dX12_isWhole_1 : decode cX12_isWhole 1 = .ok (.invokevirtual 264, 3) := by decide +kernel
theorem dX12_measure_0 : decode cX12_measure 0 = .ok (.aload_n 0, 1) := by decide +kernel
theorem dX12_measure_1 : decode cX12_measure 1 = .ok (.aload_n 0, 1) := by decide +kernel
theorem dX12_measure_2 : decode cX12_measure 2 = .ok (.getfield 43, 3) := by decide +kernel
theorem dX12_measure_5 : decode cX12_measure 5 = .ok (.iconst 0, 1) := by decide +kernel
theorem dX12_measure_6 : decode cX12_measure 6 = .ok (.invokevirtual 260, 3) := by decide +kernel
theorem dX12_measures_0 : decode cX12_measures 0 = .ok (.aload_n 0, 1) := by decide +kernel
theorem dX12_measures_1 : decode cX12_measures 1 = .ok (.invokevirtual 106, 3) := by decide +kernel
theorem dX12_corners_0 : decode cX12_corners 0 = .ok (.aload_n 0, 1) := by decide +kernel
theorem dX12_corners_1 : decode cX12_corners 1 = .ok (.getfield 13, 3) := by decide +kernel
theorem dX12_corners_4 : decode cX12_corners 4 = .ok (.iconst 1, 1) := by decide +kernel
theorem dX12_corners_5 : decode cX12_corners 5 = .ok (.iaload, 1) := by decide +kernel
theorem dX12_corners_6 : decode cX12_corners 6 = .ok (.ireturn, 1) := by decide +kernel
theorem dX12_measures_4 : decode cX12_measures 4 = .ok (.istore_n 3, 1) := by decide +kernel
theorem dX12_measures_5 : decode cX12_measures 5 = .ok (.iconst 0, 1) := by decide +kernel
theorem dX12_measures_6 : decode cX12_measures 6 = .ok (.istore 4, 2) := by decide +kernel
theorem dX12_measures_8 : decode cX12_measures 8 = .ok (.iload 4, 2) := by decide +kernel
theorem dX12_measures_10 : decode cX12_measures 10 = .ok (.iload_n 3, 1) := by decide +kernel
theorem dX12_measures_11 : decode cX12_measures 11 = .ok (.if_icmp .ge 47, 3) := by decide +kernel
theorem dX12_measures_14 : decode cX12_measures 14 = .ok (.iconst 0, 1) := by decide +kernel
theorem dX12_measures_15 : decode cX12_measures 15 = .ok (.istore 5, 2) := by decide +kernel
theorem dX12_measures_17 : decode cX12_measures 17 = .ok (.iload 5, 2) := by decide +kernel
theorem dX12_measures_19 : decode cX12_measures 19 = .ok (.iload_n 3, 1) := by decide +kernel
theorem dX12_measures_20 : decode cX12_measures 20 = .ok (.if_icmp .ge 32, 3) := by decide +kernel
theorem dX12_measures_23 : decode cX12_measures 23 = .ok (.aload_n 1, 1) := by decide +kernel
theorem dX12_measures_24 : decode cX12_measures 24 = .ok (.bipush 16, 2) := by decide +kernel
theorem dX12_measures_26 : decode cX12_measures 26 = .ok (.iload 4, 2) := by decide +kernel
theorem dX12_measures_28 : decode cX12_measures 28 = .ok (.imul, 1) := by decide +kernel
theorem dX12_measures_29 : decode cX12_measures 29 = .ok (.iload 5, 2) := by decide +kernel
theorem dX12_measures_31 : decode cX12_measures 31 = .ok (.iadd, 1) := by decide +kernel
theorem dX12_measures_32 : decode cX12_measures 32 = .ok (.iload 4, 2) := by decide +kernel
theorem dX12_measures_34 : decode cX12_measures 34 = .ok (.iload 5, 2) := by decide +kernel
theorem dX12_measures_36 : decode cX12_measures 36 = .ok (.if_icmp .ne 7, 3) := by decide +kernel
theorem dX12_measures_39 : decode cX12_measures 39 = .ok (.iconst 0, 1) := by decide +kernel
theorem dX12_measures_40 : decode cX12_measures 40 = .ok (.goto 5, 3) := by decide +kernel
theorem dX12_measures_45 : decode cX12_measures 45 = .ok (.iastore, 1) := by decide +kernel
theorem dX12_measures_46 : decode cX12_measures 46 = .ok (.iinc 5 1, 3) := by decide +kernel
theorem dX12_measures_49 : decode cX12_measures 49 = .ok (.goto (-32), 3) := by decide +kernel
theorem dX12_measures_43 : decode cX12_measures 43 = .ok (.ldc 255, 2) := by decide +kernel
theorem dX12_measures_52 : decode cX12_measures 52 = .ok (.iinc 4 1, 3) := by decide +kernel
theorem dX12_measures_55 : decode cX12_measures 55 = .ok (.goto (-47), 3) := by decide +kernel
theorem dX12_measures_58 : decode cX12_measures 58 = .ok (.iconst 0, 1) := by decide +kernel
theorem dX12_measures_59 : decode cX12_measures 59 = .ok (.istore 4, 2) := by decide +kernel
theorem dX12_measures_61 : decode cX12_measures 61 = .ok (.iload 4, 2) := by decide +kernel
theorem dX12_measures_63 : decode cX12_measures 63 = .ok (.aload_n 0, 1) := by decide +kernel
theorem dX12_measures_64 : decode cX12_measures 64 = .ok (.invokevirtual 102, 3) := by decide +kernel
theorem dX12_measures_67 : decode cX12_measures 67 = .ok (.if_icmp .ge 89, 3) := by decide +kernel
theorem dX12_measures_156 : decode cX12_measures 156 = .ok (.iconst 0, 1) := by decide +kernel
theorem dX12_measures_157 : decode cX12_measures 157 = .ok (.istore 4, 2) := by decide +kernel
theorem dX12_measures_159 : decode cX12_measures 159 = .ok (.iload 4, 2) := by decide +kernel
theorem dX12_measures_161 : decode cX12_measures 161 = .ok (.iload_n 3, 1) := by decide +kernel
theorem dX12_measures_162 : decode cX12_measures 162 = .ok (.if_icmp .ge 68, 3) := by decide +kernel
theorem dX12_measures_165 : decode cX12_measures 165 = .ok (.iconst 0, 1) := by decide +kernel
theorem dX12_measures_166 : decode cX12_measures 166 = .ok (.istore 5, 2) := by decide +kernel
theorem dX12_measures_168 : decode cX12_measures 168 = .ok (.iload 5, 2) := by decide +kernel
theorem dX12_measures_170 : decode cX12_measures 170 = .ok (.iload_n 3, 1) := by decide +kernel
theorem dX12_measures_171 : decode cX12_measures 171 = .ok (.if_icmp .ge 53, 3) := by decide +kernel
theorem dX12_measures_174 : decode cX12_measures 174 = .ok (.iconst 0, 1) := by decide +kernel
theorem dX12_measures_175 : decode cX12_measures 175 = .ok (.istore 6, 2) := by decide +kernel
theorem dX12_measures_177 : decode cX12_measures 177 = .ok (.iload 6, 2) := by decide +kernel
theorem dX12_measures_179 : decode cX12_measures 179 = .ok (.iload_n 3, 1) := by decide +kernel
theorem dX12_measures_180 : decode cX12_measures 180 = .ok (.if_icmp .ge 38, 3) := by decide +kernel
theorem dX12_measures_183 : decode cX12_measures 183 = .ok (.aload_n 1, 1) := by decide +kernel
theorem dX12_measures_184 : decode cX12_measures 184 = .ok (.iload 5, 2) := by decide +kernel
theorem dX12_measures_186 : decode cX12_measures 186 = .ok (.iload 6, 2) := by decide +kernel
theorem dX12_measures_188 : decode cX12_measures 188 = .ok (.aload_n 1, 1) := by decide +kernel
theorem dX12_measures_189 : decode cX12_measures 189 = .ok (.bipush 16, 2) := by decide +kernel
theorem dX12_measures_191 : decode cX12_measures 191 = .ok (.iload 5, 2) := by decide +kernel
theorem dX12_measures_193 : decode cX12_measures 193 = .ok (.imul, 1) := by decide +kernel
theorem dX12_measures_194 : decode cX12_measures 194 = .ok (.iload 4, 2) := by decide +kernel
theorem dX12_measures_196 : decode cX12_measures 196 = .ok (.iadd, 1) := by decide +kernel
theorem dX12_measures_197 : decode cX12_measures 197 = .ok (.iaload, 1) := by decide +kernel
theorem dX12_measures_198 : decode cX12_measures 198 = .ok (.aload_n 1, 1) := by decide +kernel
theorem dX12_measures_199 : decode cX12_measures 199 = .ok (.bipush 16, 2) := by decide +kernel
theorem dX12_measures_201 : decode cX12_measures 201 = .ok (.iload 4, 2) := by decide +kernel
theorem dX12_measures_203 : decode cX12_measures 203 = .ok (.imul, 1) := by decide +kernel
theorem dX12_measures_204 : decode cX12_measures 204 = .ok (.iload 6, 2) := by decide +kernel
theorem dX12_measures_206 : decode cX12_measures 206 = .ok (.iadd, 1) := by decide +kernel
theorem dX12_measures_207 : decode cX12_measures 207 = .ok (.iaload, 1) := by decide +kernel
theorem dX12_measures_208 : decode cX12_measures 208 = .ok (.iadd, 1) := by decide +kernel
theorem dX12_measures_209 : decode cX12_measures 209 = .ok (.invokestatic 256, 3) := by decide +kernel
theorem dX12_nearer_0 : decode cX12_nearer 0 = .ok (.iload_n 3, 1) := by decide +kernel
theorem dX12_nearer_1 : decode cX12_nearer 1 = .ok (.aload_n 0, 1) := by decide +kernel
theorem dX12_nearer_2 : decode cX12_nearer 2 = .ok (.bipush 16, 2) := by decide +kernel
theorem dX12_nearer_4 : decode cX12_nearer 4 = .ok (.iload_n 1, 1) := by decide +kernel
theorem dX12_nearer_5 : decode cX12_nearer 5 = .ok (.imul, 1) := by decide +kernel
theorem dX12_nearer_6 : decode cX12_nearer 6 = .ok (.iload_n 2, 1) := by decide +kernel
theorem dX12_nearer_7 : decode cX12_nearer 7 = .ok (.iadd, 1) := by decide +kernel
theorem dX12_nearer_8 : decode cX12_nearer 8 = .ok (.iaload, 1) := by decide +kernel
theorem dX12_nearer_9 : decode cX12_nearer 9 = .ok (.if_icmp .ge 12, 3) := by decide +kernel
theorem dX12_nearer_21 : decode cX12_nearer 21 = .ok (.return_, 1) := by decide +kernel
theorem dX12_measures_212 : decode cX12_measures 212 = .ok (.iinc 6 1, 3) := by decide +kernel
theorem dX12_measures_215 : decode cX12_measures 215 = .ok (.goto (-38), 3) := by decide +kernel
theorem dX12_measures_218 : decode cX12_measures 218 = .ok (.iinc 5 1, 3) := by decide +kernel
theorem dX12_measures_221 : decode cX12_measures 221 = .ok (.goto (-53), 3) := by decide +kernel
theorem dX12_measures_224 : decode cX12_measures 224 = .ok (.iinc 4 1, 3) := by decide +kernel
theorem dX12_measures_227 : decode cX12_measures 227 = .ok (.goto (-68), 3) := by decide +kernel
theorem dX12_measures_230 : decode cX12_measures 230 = .ok (.return_, 1) := by decide +kernel
theorem dX12_measure_9 : decode cX12_measure 9 = .ok (.return_, 1) := by decide +kernel
theorem dX12_isWhole_4 : decode cX12_isWhole 4 = .ok (.aload_n 0, 1) := by decide +kernel
theorem dX12_isWhole_5 : decode cX12_isWhole 5 = .ok (.aload_n 0, 1) := by decide +kernel
theorem dX12_isWhole_6 : decode cX12_isWhole 6 = .ok (.getfield 43, 3) := by decide +kernel
theorem dX12_isWhole_9 : decode cX12_isWhole 9 = .ok (.invokevirtual 267, 3) := by decide +kernel
theorem dX12_isWholeBy_0 : decode cX12_isWholeBy 0 = .ok (.iconst 0, 1) := by decide +kernel
theorem dX12_isWholeBy_1 : decode cX12_isWholeBy 1 = .ok (.istore_n 2, 1) := by decide +kernel
theorem dX12_isWholeBy_2 : decode cX12_isWholeBy 2 = .ok (.iload_n 2, 1) := by decide +kernel
theorem dX12_isWholeBy_3 : decode cX12_isWholeBy 3 = .ok (.aload_n 0, 1) := by decide +kernel
theorem dX12_isWholeBy_4 : decode cX12_isWholeBy 4 = .ok (.invokevirtual 106, 3) := by decide +kernel
theorem dX12_isWholeBy_7 : decode cX12_isWholeBy 7 = .ok (.if_icmp .ge 40, 3) := by decide +kernel
theorem dX12_isWholeBy_10 : decode cX12_isWholeBy 10 = .ok (.iconst 0, 1) := by decide +kernel
theorem dX12_isWholeBy_11 : decode cX12_isWholeBy 11 = .ok (.istore_n 3, 1) := by decide +kernel
theorem dX12_isWholeBy_12 : decode cX12_isWholeBy 12 = .ok (.iload_n 3, 1) := by decide +kernel
theorem dX12_isWholeBy_13 : decode cX12_isWholeBy 13 = .ok (.aload_n 0, 1) := by decide +kernel
theorem dX12_isWholeBy_14 : decode cX12_isWholeBy 14 = .ok (.invokevirtual 106, 3) := by decide +kernel
theorem dX12_isWholeBy_17 : decode cX12_isWholeBy 17 = .ok (.if_icmp .ge 24, 3) := by decide +kernel
theorem dX12_isWholeBy_20 : decode cX12_isWholeBy 20 = .ok (.aload_n 1, 1) := by decide +kernel
theorem dX12_isWholeBy_21 : decode cX12_isWholeBy 21 = .ok (.bipush 16, 2) := by decide +kernel
theorem dX12_isWholeBy_23 : decode cX12_isWholeBy 23 = .ok (.iload_n 2, 1) := by decide +kernel
theorem dX12_isWholeBy_24 : decode cX12_isWholeBy 24 = .ok (.imul, 1) := by decide +kernel
theorem dX12_isWholeBy_25 : decode cX12_isWholeBy 25 = .ok (.iload_n 3, 1) := by decide +kernel
theorem dX12_isWholeBy_26 : decode cX12_isWholeBy 26 = .ok (.iadd, 1) := by decide +kernel
theorem dX12_isWholeBy_27 : decode cX12_isWholeBy 27 = .ok (.iaload, 1) := by decide +kernel
theorem dX12_isWholeBy_28 : decode cX12_isWholeBy 28 = .ok (.ldc 255, 2) := by decide +kernel
theorem dX12_isWholeBy_30 : decode cX12_isWholeBy 30 = .ok (.if_icmp .lt 5, 3) := by decide +kernel
theorem dX12_isWholeBy_35 : decode cX12_isWholeBy 35 = .ok (.iinc 3 1, 3) := by decide +kernel
theorem dX12_isWholeBy_38 : decode cX12_isWholeBy 38 = .ok (.goto (-26), 3) := by decide +kernel
theorem dX12_isWholeBy_33 : decode cX12_isWholeBy 33 = .ok (.iconst 0, 1) := by decide +kernel
theorem dX12_isWholeBy_34 : decode cX12_isWholeBy 34 = .ok (.ireturn, 1) := by decide +kernel
theorem dX12_isWhole_12 : decode cX12_isWhole 12 = .ok (.ireturn, 1) := by decide +kernel
theorem dX12_whole_19 : decode cX12_whole 19 = .ok (.ifCond .eq 7, 3) := by decide +kernel
theorem dX12_whole_26 : decode cX12_whole 26 = .ok (.iconst 0, 1) := by decide +kernel
theorem dX12_whole_27 : decode cX12_whole 27 = .ok (.ireturn, 1) := by decide +kernel
theorem dX12_whole_7 : decode cX12_whole 7 = .ok (.bipush (-2), 2) := by decide +kernel
theorem dX12_whole_9 : decode cX12_whole 9 = .ok (.ireturn, 1) := by decide +kernel
theorem dX12_can_0 : decode cX12_can 0 = .ok (.iload_n 1, 1) := by decide +kernel
theorem dX12_can_1 : decode cX12_can 1 = .ok (.invokestatic 239, 3) := by decide +kernel
theorem dX12_can_4 : decode cX12_can 4 = .ok (.ifCond .ne 6, 3) := by decide +kernel
theorem dX12_can_10 : decode cX12_can 10 = .ok (.aload_n 0, 1) := by decide +kernel
theorem dX12_can_11 : decode cX12_can 11 = .ok (.iload_n 1, 1) := by decide +kernel
theorem dX12_can_12 : decode cX12_can 12 = .ok (.invokevirtual 271, 3) := by decide +kernel
theorem dX12_can_15 : decode cX12_can 15 = .ok (.aload_n 0, 1) := by decide +kernel
theorem dX12_can_16 : decode cX12_can 16 = .ok (.invokevirtual 283, 3) := by decide +kernel
theorem dX12_canEnd_0 : decode cX12_canEnd 0 = .ok (.aload_n 0, 1) := by decide +kernel
theorem dX12_canEnd_1 : decode cX12_canEnd 1 = .ok (.invokevirtual 274, 3) := by decide +kernel
theorem dX12_canEnd_4 : decode cX12_canEnd 4 = .ok (.ifCond .eq 15, 3) := by decide +kernel
theorem dX12_canEnd_19 : decode cX12_canEnd 19 = .ok (.iconst 0, 1) := by decide +kernel
theorem dX12_canEnd_20 : decode cX12_canEnd 20 = .ok (.ireturn, 1) := by decide +kernel
theorem dX12_can_19 : decode cX12_can 19 = .ok (.ifCond .eq 7, 3) := by decide +kernel
theorem dX12_can_26 : decode cX12_can 26 = .ok (.iconst 0, 1) := by decide +kernel
theorem dX12_can_27 : decode cX12_can 27 = .ok (.ireturn, 1) := by decide +kernel
theorem dX12_can_7 : decode cX12_can 7 = .ok (.bipush (-2), 2) := by decide +kernel
theorem dX12_can_9 : decode cX12_can 9 = .ok (.ireturn, 1) := by decide +kernel
theorem dX12_bar_0 : decode cX12_bar 0 = .ok (.iload_n 1, 1) := by decide +kernel
theorem dX12_bar_1 : decode cX12_bar 1 = .ok (.invokestatic 239, 3) := by decide +kernel
theorem dX12_bar_4 : decode cX12_bar 4 = .ok (.ifCond .ne 6, 3) := by decide +kernel
theorem dX12_bar_10 : decode cX12_bar 10 = .ok (.aload_n 0, 1) := by decide +kernel
theorem dX12_bar_11 : decode cX12_bar 11 = .ok (.iload_n 1, 1) := by decide +kernel
theorem dX12_bar_12 : decode cX12_bar 12 = .ok (.invokevirtual 271, 3) := by decide +kernel
theorem dX12_bar_15 : decode cX12_bar 15 = .ok (.aload_n 0, 1) := by decide +kernel
theorem dX12_bar_16 : decode cX12_bar 16 = .ok (.invokevirtual 274, 3) := by decide +kernel
theorem dX12_bar_19 : decode cX12_bar 19 = .ok (.ifCond .eq 10, 3) := by decide +kernel
theorem dX12_bar_29 : decode cX12_bar 29 = .ok (.bipush (-3), 2) := by decide +kernel
theorem dX12_bar_31 : decode cX12_bar 31 = .ok (.ireturn, 1) := by decide +kernel
theorem dX12_bar_7 : decode cX12_bar 7 = .ok (.bipush (-2), 2) := by decide +kernel
theorem dX12_bar_9 : decode cX12_bar 9 = .ok (.ireturn, 1) := by decide +kernel
theorem dX12_cut_0 : decode cX12_cut 0 = .ok (.iload_n 1, 1) := by decide +kernel
theorem dX12_cut_1 : decode cX12_cut 1 = .ok (.invokestatic 239, 3) := by decide +kernel
theorem dX12_cut_4 : decode cX12_cut 4 = .ok (.ifCond .ne 6, 3) := by decide +kernel
theorem dX12_cut_10 : decode cX12_cut 10 = .ok (.aload_n 0, 1) := by decide +kernel
theorem dX12_cut_11 : decode cX12_cut 11 = .ok (.iload_n 1, 1) := by decide +kernel
theorem dX12_cut_12 : decode cX12_cut 12 = .ok (.invokevirtual 271, 3) := by decide +kernel
theorem dX12_cut_15 : decode cX12_cut 15 = .ok (.aload_n 0, 1) := by decide +kernel
theorem dX12_cut_16 : decode cX12_cut 16 = .ok (.invokevirtual 264, 3) := by decide +kernel
theorem dX12_cut_19 : decode cX12_cut 19 = .ok (.iconst 0, 1) := by decide +kernel
theorem dX12_cut_20 : decode cX12_cut 20 = .ok (.istore_n 2, 1) := by decide +kernel
theorem dX12_cut_21 : decode cX12_cut 21 = .ok (.iload_n 2, 1) := by decide +kernel
theorem dX12_cut_22 : decode cX12_cut 22 = .ok (.aload_n 0, 1) := by decide +kernel
theorem dX12_cut_23 : decode cX12_cut 23 = .ok (.invokevirtual 106, 3) := by decide +kernel
theorem dX12_cut_26 : decode cX12_cut 26 = .ok (.if_icmp .ge 71, 3) := by decide +kernel
theorem dX12_cut_29 : decode cX12_cut 29 = .ok (.iconst 0, 1) := by decide +kernel
theorem dX12_cut_30 : decode cX12_cut 30 = .ok (.istore_n 3, 1) := by decide +kernel
theorem dX12_cut_31 : decode cX12_cut 31 = .ok (.iconst 0, 1) := by decide +kernel
theorem dX12_cut_32 : decode cX12_cut 32 = .ok (.istore 4, 2) := by decide +kernel
theorem dX12_cut_34 : decode cX12_cut 34 = .ok (.iload 4, 2) := by decide +kernel
theorem dX12_cut_36 : decode cX12_cut 36 = .ok (.aload_n 0, 1) := by decide +kernel
theorem dX12_cut_37 : decode cX12_cut 37 = .ok (.invokevirtual 106, 3) := by decide +kernel
theorem dX12_cut_40 : decode cX12_cut 40 = .ok (.if_icmp .ge 37, 3) := by decide +kernel
theorem dX12_cut_43 : decode cX12_cut 43 = .ok (.iload_n 3, 1) := by decide +kernel
theorem dX12_cut_44 : decode cX12_cut 44 = .ok (.aload_n 0, 1) := by decide +kernel
theorem dX12_cut_45 : decode cX12_cut 45 = .ok (.getfield 43, 3) := by decide +kernel
theorem dX12_cut_48 : decode cX12_cut 48 = .ok (.bipush 16, 2) := by decide +kernel
theorem dX12_cut_50 : decode cX12_cut 50 = .ok (.iload_n 2, 1) := by decide +kernel
theorem dX12_cut_51 : decode cX12_cut 51 = .ok (.imul, 1) := by decide +kernel
theorem dX12_cut_52 : decode cX12_cut 52 = .ok (.iload 4, 2) := by decide +kernel
theorem dX12_cut_54 : decode cX12_cut 54 = .ok (.iadd, 1) := by decide +kernel
theorem dX12_cut_55 : decode cX12_cut 55 = .ok (.iaload, 1) := by decide +kernel
theorem dX12_cut_56 : decode cX12_cut 56 = .ok (.ldc 255, 2) := by decide +kernel
theorem dX12_cut_58 : decode cX12_cut 58 = .ok (.if_icmp .ge 10, 3) := by decide +kernel
theorem dX12_cut_61 : decode cX12_cut 61 = .ok (.iconst 1, 1) := by decide +kernel
theorem dX12_cut_62 : decode cX12_cut 62 = .ok (.iload 4, 2) := by decide +kernel
theorem dX12_cut_64 : decode cX12_cut 64 = .ok (.ishl, 1) := by decide +kernel
theorem dX12_cut_65 : decode cX12_cut 65 = .ok (.goto 4, 3) := by decide +kernel
theorem dX12_cut_69 : decode cX12_cut 69 = .ok (.ior, 1) := by decide +kernel
theorem dX12_cut_70 : decode cX12_cut 70 = .ok (.istore_n 3, 1) := by decide +kernel
theorem dX12_cut_71 : decode cX12_cut 71 = .ok (.iinc 4 1, 3) := by decide +kernel
theorem dX12_cut_74 : decode cX12_cut 74 = .ok (.goto (-40), 3) := by decide +kernel
theorem dX12_cut_68 : decode cX12_cut 68 = .ok (.iconst 0, 1) := by decide +kernel
theorem dX12_cut_77 : decode cX12_cut 77 = .ok (.iload_n 3, 1) := by decide +kernel
theorem dX12_cut_78 : decode cX12_cut 78 = .ok (.iconst 1, 1) := by decide +kernel
theorem dX12_cut_79 : decode cX12_cut 79 = .ok (.aload_n 0, 1) := by decide +kernel
theorem dX12_cut_80 : decode cX12_cut 80 = .ok (.invokevirtual 106, 3) := by decide +kernel
theorem dX12_cut_83 : decode cX12_cut 83 = .ok (.ishl, 1) := by decide +kernel
theorem dX12_cut_84 : decode cX12_cut 84 = .ok (.iconst 1, 1) := by decide +kernel
theorem dX12_cut_85 : decode cX12_cut 85 = .ok (.isub, 1) := by decide +kernel
theorem dX12_cut_86 : decode cX12_cut 86 = .ok (.if_icmp .eq 5, 3) := by decide +kernel
theorem dX12_cut_89 : decode cX12_cut 89 = .ok (.iload_n 3, 1) := by decide +kernel
theorem dX12_cut_90 : decode cX12_cut 90 = .ok (.ireturn, 1) := by decide +kernel
theorem dX12_cut_7 : decode cX12_cut 7 = .ok (.bipush (-2), 2) := by decide +kernel
theorem dX12_cut_9 : decode cX12_cut 9 = .ok (.ireturn, 1) := by decide +kernel
theorem dX12_show_0 : decode cX12_show 0 = .ok (.iload_n 1, 1) := by decide +kernel
theorem dX12_show_1 : decode cX12_show 1 = .ok (.invokestatic 239, 3) := by decide +kernel
theorem dX12_show_4 : decode cX12_show 4 = .ok (.ifCond .ne 6, 3) := by decide +kernel
theorem dX12_show_10 : decode cX12_show 10 = .ok (.aload_n 0, 1) := by decide +kernel
theorem dX12_show_11 : decode cX12_show 11 = .ok (.iload_n 1, 1) := by decide +kernel
theorem dX12_show_12 : decode cX12_show 12 = .ok (.invokevirtual 271, 3) := by decide +kernel
theorem dX12_show_15 : decode cX12_show 15 = .ok (.aload_n 0, 1) := by decide +kernel
theorem dX12_show_16 : decode cX12_show 16 = .ok (.invokevirtual 283, 3) := by decide +kernel
theorem dX12_show_19 : decode cX12_show 19 = .ok (.ifCond .ne 5, 3) := by decide +kernel
theorem dX12_show_22 : decode cX12_show 22 = .ok (.iconst (-1), 1) := by decide +kernel
theorem dX12_show_23 : decode cX12_show 23 = .ok (.ireturn, 1) := by decide +kernel
theorem dX12_show_7 : decode cX12_show 7 = .ok (.bipush (-2), 2) := by decide +kernel
theorem dX12_show_9 : decode cX12_show 9 = .ok (.ireturn, 1) := by decide +kernel
theorem dX12_forced_0 : decode cX12_forced 0 = .ok (.iload_n 1, 1) := by decide +kernel
theorem dX12_forced_1 : decode cX12_forced 1 = .ok (.invokestatic 239, 3) := by decide +kernel
theorem dX12_forced_4 : decode cX12_forced 4 = .ok (.ifCond .ne 6, 3) := by decide +kernel
theorem dX12_forced_10 : decode cX12_forced 10 = .ok (.aload_n 0, 1) := by decide +kernel
theorem dX12_forced_11 : decode cX12_forced 11 = .ok (.iload_n 1, 1) := by decide +kernel
theorem dX12_forced_12 : decode cX12_forced 12 = .ok (.invokevirtual 271, 3) := by decide +kernel
theorem dX12_forced_15 : decode cX12_forced 15 = .ok (.aload_n 0, 1) := by decide +kernel
theorem dX12_forced_16 : decode cX12_forced 16 = .ok (.invokevirtual 283, 3) := by decide +kernel
theorem dX12_forced_19 : decode cX12_forced 19 = .ok (.ifCond .ne 5, 3) := by decide +kernel
theorem dX12_forced_22 : decode cX12_forced 22 = .ok (.iconst (-1), 1) := by decide +kernel
theorem dX12_forced_23 : decode cX12_forced 23 = .ok (.ireturn, 1) := by decide +kernel
theorem dX12_forced_7 : decode cX12_forced 7 = .ok (.bipush (-2), 2) := by decide +kernel
theorem dX12_forced_9 : decode cX12_forced 9 = .ok (.ireturn, 1) := by decide +kernel
theorem dX12_forcedWay_0 : decode cX12_forcedWay 0 = .ok (.iload_n 1, 1) := by decide +kernel
theorem dX12_forcedWay_1 : decode cX12_forcedWay 1 = .ok (.invokestatic 239, 3) := by decide +kernel
theorem dX12_forcedWay_4 : decode cX12_forcedWay 4 = .ok (.ifCond .eq 11, 3) := by decide +kernel
theorem dX12_forcedWay_7 : decode cX12_forcedWay 7 = .ok (.aload_n 0, 1) := by decide +kernel
theorem dX12_forcedWay_8 : decode cX12_forcedWay 8 = .ok (.iload_n 2, 1) := by decide +kernel
theorem dX12_forcedWay_9 : decode cX12_forcedWay 9 = .ok (.invokevirtual 243, 3) := by decide +kernel
theorem dX12_forcedWay_12 : decode cX12_forcedWay 12 = .ok (.ifCond .ne 5, 3) := by decide +kernel
theorem dX12_forcedWay_15 : decode cX12_forcedWay 15 = .ok (.iconst (-1), 1) := by decide +kernel
theorem dX12_forcedWay_16 : decode cX12_forcedWay 16 = .ok (.ireturn, 1) := by decide +kernel
theorem dX12_minutes_0 : decode cX12_minutes 0 = .ok (.iload_n 1, 1) := by decide +kernel
theorem dX12_minutes_1 : decode cX12_minutes 1 = .ok (.invokestatic 239, 3) := by decide +kernel
theorem dX12_minutes_4 : decode cX12_minutes 4 = .ok (.ifCond .eq 19, 3) := by decide +kernel
theorem dX12_minutes_7 : decode cX12_minutes 7 = .ok (.aload_n 0, 1) := by decide +kernel
theorem dX12_minutes_8 : decode cX12_minutes 8 = .ok (.iload_n 2, 1) := by decide +kernel
theorem dX12_minutes_9 : decode cX12_minutes 9 = .ok (.invokevirtual 292, 3) := by decide +kernel
theorem dX12_isCorner_0 : decode cX12_isCorner 0 = .ok (.iload_n 1, 1) := by decide +kernel
theorem dX12_isCorner_1 : decode cX12_isCorner 1 = .ok (.i2l, 1) := by decide +kernel
theorem dX12_isCorner_2 : decode cX12_isCorner 2 = .ok (.lconst 0, 1) := by decide +kernel
theorem dX12_isCorner_3 : decode cX12_isCorner 3 = .ok (.aload_n 0, 1) := by decide +kernel
theorem dX12_isCorner_4 : decode cX12_isCorner 4 = .ok (.invokevirtual 106, 3) := by decide +kernel
theorem dX12_isCorner_7 : decode cX12_isCorner 7 = .ok (.iconst 1, 1) := by decide +kernel
theorem dX12_isCorner_8 : decode cX12_isCorner 8 = .ok (.isub, 1) := by decide +kernel
theorem dX12_isCorner_9 : decode cX12_isCorner 9 = .ok (.i2l, 1) := by decide +kernel
theorem dX12_isCorner_10 : decode cX12_isCorner 10 = .ok (.invokestatic 98, 3) := by decide +kernel
theorem dX12_isCorner_13 : decode cX12_isCorner 13 = .ok (.ireturn, 1) := by decide +kernel
theorem dX12_minutes_12 : decode cX12_minutes 12 = .ok (.ifCond .eq 11, 3) := by decide +kernel
theorem dX12_minutes_15 : decode cX12_minutes 15 = .ok (.aload_n 0, 1) := by decide +kernel
theorem dX12_minutes_16 : decode cX12_minutes 16 = .ok (.iload_n 3, 1) := by decide +kernel
theorem dX12_minutes_17 : decode cX12_minutes 17 = .ok (.invokevirtual 292, 3) := by decide +kernel
theorem dX12_minutes_20 : decode cX12_minutes 20 = .ok (.ifCond .ne 6, 3) := by decide +kernel
theorem dX12_minutes_26 : decode cX12_minutes 26 = .ok (.aload_n 0, 1) := by decide +kernel
theorem dX12_minutes_27 : decode cX12_minutes 27 = .ok (.iload_n 1, 1) := by decide +kernel
theorem dX12_minutes_28 : decode cX12_minutes 28 = .ok (.invokevirtual 271, 3) := by decide +kernel
theorem dX12_minutes_31 : decode cX12_minutes 31 = .ok (.aload_n 0, 1) := by decide +kernel
theorem dX12_minutes_32 : decode cX12_minutes 32 = .ok (.invokevirtual 264, 3) := by decide +kernel
theorem dX12_minutes_35 : decode cX12_minutes 35 = .ok (.aload_n 0, 1) := by decide +kernel
theorem dX12_minutes_36 : decode cX12_minutes 36 = .ok (.getfield 43, 3) := by decide +kernel
theorem dX12_minutes_39 : decode cX12_minutes 39 = .ok (.bipush 16, 2) := by decide +kernel
theorem dX12_minutes_41 : decode cX12_minutes 41 = .ok (.iload_n 2, 1) := by decide +kernel
theorem dX12_minutes_42 : decode cX12_minutes 42 = .ok (.imul, 1) := by decide +kernel
theorem dX12_minutes_43 : decode cX12_minutes 43 = .ok (.iload_n 3, 1) := by decide +kernel
theorem dX12_minutes_44 : decode cX12_minutes 44 = .ok (.iadd, 1) := by decide +kernel
theorem dX12_minutes_45 : decode cX12_minutes 45 = .ok (.iaload, 1) := by decide +kernel
theorem dX12_minutes_46 : decode cX12_minutes 46 = .ok (.istore 4, 2) := by decide +kernel
theorem dX12_minutes_48 : decode cX12_minutes 48 = .ok (.iload 4, 2) := by decide +kernel
theorem dX12_minutes_50 : decode cX12_minutes 50 = .ok (.ldc 255, 2) := by decide +kernel
theorem dX12_minutes_52 : decode cX12_minutes 52 = .ok (.if_icmp .lt 7, 3) := by decide +kernel
theorem dX12_minutes_59 : decode cX12_minutes 59 = .ok (.iload 4, 2) := by decide +kernel
theorem dX12_minutes_61 : decode cX12_minutes 61 = .ok (.ireturn, 1) := by decide +kernel
theorem dX12_minutes_55 : decode cX12_minutes 55 = .ok (.iconst (-1), 1) := by decide +kernel
theorem dX12_minutes_56 : decode cX12_minutes 56 = .ok (.goto 5, 3) := by decide +kernel
theorem dX12_minutes_23 : decode cX12_minutes 23 = .ok (.bipush (-2), 2) := by decide +kernel
theorem dX12_minutes_25 : decode cX12_minutes 25 = .ok (.ireturn, 1) := by decide +kernel
theorem dX12_round_0 : decode cX12_round 0 = .ok (.iload_n 1, 1) := by decide +kernel
theorem dX12_round_1 : decode cX12_round 1 = .ok (.invokestatic 239, 3) := by decide +kernel
theorem dX12_round_4 : decode cX12_round 4 = .ok (.ifCond .eq 11, 3) := by decide +kernel
theorem dX12_round_7 : decode cX12_round 7 = .ok (.aload_n 0, 1) := by decide +kernel
theorem dX12_round_8 : decode cX12_round 8 = .ok (.iload_n 2, 1) := by decide +kernel
theorem dX12_round_9 : decode cX12_round 9 = .ok (.invokevirtual 301, 3) := by decide +kernel
theorem dX12_isJourney_0 : decode cX12_isJourney 0 = .ok (.iload_n 1, 1) := by decide +kernel
theorem dX12_isJourney_1 : decode cX12_isJourney 1 = .ok (.i2l, 1) := by decide +kernel
theorem dX12_isJourney_2 : decode cX12_isJourney 2 = .ok (.lconst 0, 1) := by decide +kernel
theorem dX12_isJourney_3 : decode cX12_isJourney 3 = .ok (.aload_n 0, 1) := by decide +kernel
theorem dX12_isJourney_4 : decode cX12_isJourney 4 = .ok (.invokevirtual 109, 3) := by decide +kernel
theorem dX12_journeys_0 : decode cX12_journeys 0 = .ok (.aload_n 0, 1) := by decide +kernel
theorem dX12_journeys_1 : decode cX12_journeys 1 = .ok (.getfield 13, 3) := by decide +kernel
theorem dX12_journeys_4 : decode cX12_journeys 4 = .ok (.iconst 3, 1) := by decide +kernel
theorem dX12_journeys_5 : decode cX12_journeys 5 = .ok (.iaload, 1) := by decide +kernel
theorem dX12_journeys_6 : decode cX12_journeys 6 = .ok (.ireturn, 1) := by decide +kernel
theorem dX12_isJourney_7 : decode cX12_isJourney 7 = .ok (.iconst 1, 1) := by decide +kernel
theorem dX12_isJourney_8 : decode cX12_isJourney 8 = .ok (.isub, 1) := by decide +kernel
theorem dX12_isJourney_9 : decode cX12_isJourney 9 = .ok (.i2l, 1) := by decide +kernel
theorem dX12_isJourney_10 : decode cX12_isJourney 10 = .ok (.invokestatic 98, 3) := by decide +kernel
theorem dX12_isJourney_13 : decode cX12_isJourney 13 = .ok (.ireturn, 1) := by decide +kernel
theorem dX12_round_12 : decode cX12_round 12 = .ok (.ifCond .ne 6, 3) := by decide +kernel
theorem dX12_round_15 : decode cX12_round 15 = .ok (.bipush (-2), 2) := by decide +kernel
theorem dX12_round_17 : decode cX12_round 17 = .ok (.ireturn, 1) := by decide +kernel
theorem dX12_sum_0 : decode cX12_sum 0 = .ok (.iload_n 1, 1) := by decide +kernel
theorem dX12_sum_1 : decode cX12_sum 1 = .ok (.invokestatic 239, 3) := by decide +kernel
theorem dX12_sum_4 : decode cX12_sum 4 = .ok (.ifCond .ne 6, 3) := by decide +kernel
theorem dX12_sum_10 : decode cX12_sum 10 = .ok (.aload_n 0, 1) := by decide +kernel
theorem dX12_sum_11 : decode cX12_sum 11 = .ok (.iload_n 1, 1) := by decide +kernel
theorem dX12_sum_12 : decode cX12_sum 12 = .ok (.invokevirtual 271, 3) := by decide +kernel
theorem dX12_sum_15 : decode cX12_sum 15 = .ok (.aload_n 0, 1) := by decide +kernel
theorem dX12_sum_16 : decode cX12_sum 16 = .ok (.aload_n 0, 1) := by decide +kernel
theorem dX12_sum_17 : decode cX12_sum 17 = .ok (.getfield 46, 3) := by decide +kernel
theorem dX12_sum_20 : decode cX12_sum 20 = .ok (.iconst 1, 1) := by decide +kernel
theorem dX12_sum_21 : decode cX12_sum 21 = .ok (.invokevirtual 260, 3) := by decide +kernel
theorem dX12_sum_24 : decode cX12_sum 24 = .ok (.aload_n 0, 1) := by decide +kernel
theorem dX12_sum_25 : decode cX12_sum 25 = .ok (.invokevirtual 314, 3) := by decide +kernel
theorem dX12_sumTried_0 : decode cX12_sumTried 0 = .ok (.aload_n 0, 1) := by decide +kernel
theorem dX12_sumTried_1 : decode cX12_sumTried 1 = .ok (.invokevirtual 264, 3) := by decide +kernel
theorem dX12_sumTried_4 : decode cX12_sumTried 4 = .ok (.aload_n 0, 1) := by decide +kernel
theorem dX12_sumTried_5 : decode cX12_sumTried 5 = .ok (.iconst 0, 1) := by decide +kernel
theorem dX12_sumTried_6 : decode cX12_sumTried 6 = .ok (.invokevirtual 310, 3) := by decide +kernel
theorem dX12_sumNow_0 : decode cX12_sumNow 0 = .ok (.iconst 0, 1) := by decide +kernel
theorem dX12_sumNow_1 : decode cX12_sumNow 1 = .ok (.istore_n 2, 1) := by decide +kernel
theorem dX12_sumNow_2 : decode cX12_sumNow 2 = .ok (.iconst 0, 1) := by decide +kernel
theorem dX12_sumNow_3 : decode cX12_sumNow 3 = .ok (.istore_n 3, 1) := by decide +kernel
theorem dX12_sumNow_4 : decode cX12_sumNow 4 = .ok (.iload_n 3, 1) := by decide +kernel
theorem dX12_sumNow_5 : decode cX12_sumNow 5 = .ok (.aload_n 0, 1) := by decide +kernel
theorem dX12_sumNow_6 : decode cX12_sumNow 6 = .ok (.invokevirtual 109, 3) := by decide +kernel
theorem dX12_sumNow_9 : decode cX12_sumNow 9 = .ok (.if_icmp .ge 60, 3) := by decide +kernel
theorem dX12_sumNow_69 : decode cX12_sumNow 69 = .ok (.iload_n 2, 1) := by decide +kernel
theorem dX12_sumNow_70 : decode cX12_sumNow 70 = .ok (.ireturn, 1) := by decide +kernel
theorem dX12_sumTried_9 : decode cX12_sumTried 9 = .ok (.ireturn, 1) := by decide +kernel
theorem dX12_sum_28 : decode cX12_sum 28 = .ok (.ireturn, 1) := by decide +kernel
theorem dX12_sum_7 : decode cX12_sum 7 = .ok (.bipush (-2), 2) := by decide +kernel
theorem dX12_sum_9 : decode cX12_sum 9 = .ok (.ireturn, 1) := by decide +kernel
theorem dX12_worst_0 : decode cX12_worst 0 = .ok (.iload_n 1, 1) := by decide +kernel
theorem dX12_worst_1 : decode cX12_worst 1 = .ok (.invokestatic 239, 3) := by decide +kernel
theorem dX12_worst_4 : decode cX12_worst 4 = .ok (.ifCond .ne 6, 3) := by decide +kernel
theorem dX12_worst_10 : decode cX12_worst 10 = .ok (.aload_n 0, 1) := by decide +kernel
theorem dX12_worst_11 : decode cX12_worst 11 = .ok (.iload_n 1, 1) := by decide +kernel
theorem dX12_worst_12 : decode cX12_worst 12 = .ok (.invokevirtual 271, 3) := by decide +kernel
theorem dX12_worst_15 : decode cX12_worst 15 = .ok (.aload_n 0, 1) := by decide +kernel
theorem dX12_worst_16 : decode cX12_worst 16 = .ok (.aload_n 0, 1) := by decide +kernel
theorem dX12_worst_17 : decode cX12_worst 17 = .ok (.getfield 46, 3) := by decide +kernel
theorem dX12_worst_20 : decode cX12_worst 20 = .ok (.iconst 1, 1) := by decide +kernel
theorem dX12_worst_21 : decode cX12_worst 21 = .ok (.invokevirtual 260, 3) := by decide +kernel
theorem dX12_worst_24 : decode cX12_worst 24 = .ok (.aload_n 0, 1) := by decide +kernel
theorem dX12_worst_25 : decode cX12_worst 25 = .ok (.invokevirtual 264, 3) := by decide +kernel
theorem dX12_worst_28 : decode cX12_worst 28 = .ok (.aload_n 0, 1) := by decide +kernel
theorem dX12_worst_29 : decode cX12_worst 29 = .ok (.invokevirtual 317, 3) := by decide +kernel
theorem dX12_worstNow_0 : decode cX12_worstNow 0 = .ok (.iconst 0, 1) := by decide +kernel
theorem dX12_worstNow_1 : decode cX12_worstNow 1 = .ok (.istore_n 1, 1) := by decide +kernel
theorem dX12_worstNow_2 : decode cX12_worstNow 2 = .ok (.iconst 0, 1) := by decide +kernel
theorem dX12_worstNow_3 : decode cX12_worstNow 3 = .ok (.istore_n 2, 1) := by decide +kernel
theorem dX12_worstNow_4 : decode cX12_worstNow 4 = .ok (.iload_n 2, 1) := by decide +kernel
theorem dX12_worstNow_5 : decode cX12_worstNow 5 = .ok (.aload_n 0, 1) := by decide +kernel
theorem dX12_worstNow_6 : decode cX12_worstNow 6 = .ok (.invokevirtual 109, 3) := by decide +kernel
theorem dX12_worstNow_9 : decode cX12_worstNow 9 = .ok (.if_icmp .ge 29, 3) := by decide +kernel
theorem dX12_worstNow_38 : decode cX12_worstNow 38 = .ok (.iload_n 1, 1) := by decide +kernel
theorem dX12_worstNow_39 : decode cX12_worstNow 39 = .ok (.ireturn, 1) := by decide +kernel
theorem dX12_worst_32 : decode cX12_worst 32 = .ok (.ireturn, 1) := by decide +kernel
theorem dX12_worst_7 : decode cX12_worst 7 = .ok (.bipush (-2), 2) := by decide +kernel
theorem dX12_worst_9 : decode cX12_worst 9 = .ok (.ireturn, 1) := by decide +kernel
theorem dX12_best_0 : decode cX12_best 0 = .ok (.iload_n 1, 1) := by decide +kernel
theorem dX12_best_1 : decode cX12_best 1 = .ok (.invokestatic 239, 3) := by decide +kernel
theorem dX12_best_4 : decode cX12_best 4 = .ok (.ifCond .eq 13, 3) := by decide +kernel
theorem dX12_best_7 : decode cX12_best 7 = .ok (.iload_n 2, 1) := by decide +kernel
theorem dX12_best_8 : decode cX12_best 8 = .ok (.i2l, 1) := by decide +kernel
theorem dX12_best_9 : decode cX12_best 9 = .ok (.lconst 0, 1) := by decide +kernel
theorem dX12_best_10 : decode cX12_best 10 = .ok (.lconst 1, 1) := by decide +kernel
theorem dX12_best_11 : decode cX12_best 11 = .ok (.invokestatic 98, 3) := by decide +kernel
theorem dX12_best_14 : decode cX12_best 14 = .ok (.ifCond .ne 6, 3) := by decide +kernel
theorem dX12_best_20 : decode cX12_best 20 = .ok (.aload_n 0, 1) := by decide +kernel
theorem dX12_best_21 : decode cX12_best 21 = .ok (.iload_n 1, 1) := by decide +kernel
theorem dX12_best_22 : decode cX12_best 22 = .ok (.invokevirtual 271, 3) := by decide +kernel
theorem dX12_best_25 : decode cX12_best 25 = .ok (.iconst 0, 1) := by decide +kernel
theorem dX12_best_26 : decode cX12_best 26 = .ok (.istore_n 3, 1) := by decide +kernel
theorem dX12_best_27 : decode cX12_best 27 = .ok (.iconst 0, 1) := by decide +kernel
theorem dX12_best_28 : decode cX12_best 28 = .ok (.istore 4, 2) := by decide +kernel
theorem dX12_best_30 : decode cX12_best 30 = .ok (.iload 4, 2) := by decide +kernel
theorem dX12_best_32 : decode cX12_best 32 = .ok (.aload_n 0, 1) := by decide +kernel
theorem dX12_best_33 : decode cX12_best 33 = .ok (.invokevirtual 102, 3) := by decide +kernel
theorem dX12_best_36 : decode cX12_best 36 = .ok (.if_icmp .ge 33, 3) := by decide +kernel
theorem dX12_best_69 : decode cX12_best 69 = .ok (.iload_n 3, 1) := by decide +kernel
theorem dX12_best_70 : decode cX12_best 70 = .ok (.bipush 10, 2) := by decide +kernel
theorem dX12_best_72 : decode cX12_best 72 = .ok (.if_icmp .le 6, 3) := by decide +kernel
theorem dX12_best_78 : decode cX12_best 78 = .ok (.aload_n 0, 1) := by decide +kernel
theorem dX12_best_79 : decode cX12_best 79 = .ok (.invokevirtual 283, 3) := by decide +kernel
theorem dX12_best_82 : decode cX12_best 82 = .ok (.ifCond .ne 5, 3) := by decide +kernel
theorem dX12_best_85 : decode cX12_best 85 = .ok (.iconst (-1), 1) := by decide +kernel
theorem dX12_best_86 : decode cX12_best 86 = .ok (.ireturn, 1) := by decide +kernel
theorem dX12_best_17 : decode cX12_best 17 = .ok (.bipush (-2), 2) := by decide +kernel
theorem dX12_best_19 : decode cX12_best 19 = .ok (.ireturn, 1) := by decide +kernel
theorem dX12_better_0 : decode cX12_better 0 = .ok (.iload_n 1, 1) := by decide +kernel
theorem dX12_better_1 : decode cX12_better 1 = .ok (.invokestatic 239, 3) := by decide +kernel
theorem dX12_better_4 : decode cX12_better 4 = .ok (.ifCond .ne 6, 3) := by decide +kernel
theorem dX12_better_10 : decode cX12_better 10 = .ok (.aload_n 0, 1) := by decide +kernel
theorem dX12_better_11 : decode cX12_better 11 = .ok (.iload_n 1, 1) := by decide +kernel
theorem dX12_better_12 : decode cX12_better 12 = .ok (.invokevirtual 271, 3) := by decide +kernel
theorem dX12_better_15 : decode cX12_better 15 = .ok (.aload_n 0, 1) := by decide +kernel
theorem dX12_better_16 : decode cX12_better 16 = .ok (.invokevirtual 341, 3) := by decide +kernel
theorem dX12_isEnded_0 : decode cX12_isEnded 0 = .ok (.iconst 0, 1) := by decide +kernel
theorem dX12_isEnded_1 : decode cX12_isEnded 1 = .ok (.istore_n 1, 1) := by decide +kernel
theorem dX12_isEnded_2 : decode cX12_isEnded 2 = .ok (.iload_n 1, 1) := by decide +kernel
theorem dX12_isEnded_3 : decode cX12_isEnded 3 = .ok (.aload_n 0, 1) := by decide +kernel
theorem dX12_isEnded_4 : decode cX12_isEnded 4 = .ok (.invokevirtual 102, 3) := by decide +kernel
theorem dX12_isEnded_7 : decode cX12_isEnded 7 = .ok (.if_icmp .ge 20, 3) := by decide +kernel
theorem dX12_isEnded_27 : decode cX12_isEnded 27 = .ok (.aload_n 0, 1) := by decide +kernel
theorem dX12_isEnded_28 : decode cX12_isEnded 28 = .ok (.invokevirtual 274, 3) := by decide +kernel
theorem dX12_isEnded_31 : decode cX12_isEnded 31 = .ok (.ireturn, 1) := by decide +kernel
theorem dX12_better_19 : decode cX12_better 19 = .ok (.ifCond .ne 6, 3) := by decide +kernel
theorem dX12_better_22 : decode cX12_better 22 = .ok (.bipush (-5), 2) := by decide +kernel
theorem dX12_better_24 : decode cX12_better 24 = .ok (.ireturn, 1) := by decide +kernel
theorem dX12_better_7 : decode cX12_better 7 = .ok (.bipush (-2), 2) := by decide +kernel
theorem dX12_better_9 : decode cX12_better 9 = .ok (.ireturn, 1) := by decide +kernel
theorem dX12_alike_0 : decode cX12_alike 0 = .ok (.iload_n 1, 1) := by decide +kernel
theorem dX12_alike_1 : decode cX12_alike 1 = .ok (.invokestatic 239, 3) := by decide +kernel
theorem dX12_alike_4 : decode cX12_alike 4 = .ok (.ifCond .ne 6, 3) := by decide +kernel
theorem dX12_alike_10 : decode cX12_alike 10 = .ok (.iconst 0, 1) := by decide +kernel
theorem dX12_alike_11 : decode cX12_alike 11 = .ok (.istore_n 2, 1) := by decide +kernel
theorem dX12_alike_12 : decode cX12_alike 12 = .ok (.iconst 0, 1) := by decide +kernel
theorem dX12_alike_13 : decode cX12_alike 13 = .ok (.istore_n 3, 1) := by decide +kernel
theorem dX12_alike_14 : decode cX12_alike 14 = .ok (.iload_n 3, 1) := by decide +kernel
theorem dX12_alike_15 : decode cX12_alike 15 = .ok (.aload_n 0, 1) := by decide +kernel
theorem dX12_alike_16 : decode cX12_alike 16 = .ok (.getfield 13, 3) := by decide +kernel
theorem dX12_alike_19 : decode cX12_alike 19 = .ok (.iconst 5, 1) := by decide +kernel
theorem dX12_alike_20 : decode cX12_alike 20 = .ok (.iaload, 1) := by decide +kernel
theorem dX12_alike_21 : decode cX12_alike 21 = .ok (.if_icmp .ge 82, 3) := by decide +kernel
theorem dX12_alike_103 : decode cX12_alike 103 = .ok (.iload_n 2, 1) := by decide +kernel
theorem dX12_alike_104 : decode cX12_alike 104 = .ok (.ireturn, 1) := by decide +kernel
theorem dX12_alike_7 : decode cX12_alike 7 = .ok (.bipush (-2), 2) := by decide +kernel
theorem dX12_alike_9 : decode cX12_alike 9 = .ok (.ireturn, 1) := by decide +kernel
theorem dX12_known_0 : decode cX12_known 0 = .ok (.iload_n 1, 1) := by decide +kernel
theorem dX12_known_1 : decode cX12_known 1 = .ok (.invokestatic 239, 3) := by decide +kernel
theorem dX12_known_4 : decode cX12_known 4 = .ok (.ifCond .ne 6, 3) := by decide +kernel
theorem dX12_known_10 : decode cX12_known 10 = .ok (.aload_n 0, 1) := by decide +kernel
theorem dX12_known_11 : decode cX12_known 11 = .ok (.getfield 13, 3) := by decide +kernel
theorem dX12_known_14 : decode cX12_known 14 = .ok (.bipush 6, 2) := by decide +kernel
theorem dX12_known_16 : decode cX12_known 16 = .ok (.iaload, 1) := by decide +kernel
theorem dX12_known_17 : decode cX12_known 17 = .ok (.ifCond .ne 6, 3) := by decide +kernel
theorem dX12_known_20 : decode cX12_known 20 = .ok (.bipush (-6), 2) := by decide +kernel
theorem dX12_known_22 : decode cX12_known 22 = .ok (.ireturn, 1) := by decide +kernel
theorem dX12_known_7 : decode cX12_known 7 = .ok (.bipush (-2), 2) := by decide +kernel
theorem dX12_known_9 : decode cX12_known 9 = .ok (.ireturn, 1) := by decide +kernel
theorem dX12_ring_0 : decode cX12_ring 0 = .ok (.iload_n 1, 1) := by decide +kernel
theorem dX12_ring_1 : decode cX12_ring 1 = .ok (.invokestatic 239, 3) := by decide +kernel
theorem dX12_ring_4 : decode cX12_ring 4 = .ok (.ifCond .eq 11, 3) := by decide +kernel
theorem dX12_ring_7 : decode cX12_ring 7 = .ok (.aload_n 0, 1) := by decide +kernel
theorem dX12_ring_8 : decode cX12_ring 8 = .ok (.iload_n 2, 1) := by decide +kernel
theorem dX12_ring_9 : decode cX12_ring 9 = .ok (.invokevirtual 243, 3) := by decide +kernel
theorem dX12_ring_12 : decode cX12_ring 12 = .ok (.ifCond .ne 6, 3) := by decide +kernel
theorem dX12_ring_15 : decode cX12_ring 15 = .ok (.bipush (-2), 2) := by decide +kernel
theorem dX12_ring_17 : decode cX12_ring 17 = .ok (.ireturn, 1) := by decide +kernel
theorem dX12_ended_0 : decode cX12_ended 0 = .ok (.iload_n 1, 1) := by decide +kernel
theorem dX12_ended_1 : decode cX12_ended 1 = .ok (.invokestatic 239, 3) := by decide +kernel
theorem dX12_ended_4 : decode cX12_ended 4 = .ok (.ifCond .ne 6, 3) := by decide +kernel
theorem dX12_ended_10 : decode cX12_ended 10 = .ok (.aload_n 0, 1) := by decide +kernel
theorem dX12_ended_11 : decode cX12_ended 11 = .ok (.iload_n 1, 1) := by decide +kernel
theorem dX12_ended_12 : decode cX12_ended 12 = .ok (.invokevirtual 271, 3) := by decide +kernel
theorem dX12_ended_15 : decode cX12_ended 15 = .ok (.aload_n 0, 1) := by decide +kernel
theorem dX12_ended_16 : decode cX12_ended 16 = .ok (.invokevirtual 341, 3) := by decide +kernel
theorem dX12_ended_19 : decode cX12_ended 19 = .ok (.ifCond .ne 6, 3) := by decide +kernel
theorem dX12_ended_22 : decode cX12_ended 22 = .ok (.bipush (-5), 2) := by decide +kernel
theorem dX12_ended_24 : decode cX12_ended 24 = .ok (.ireturn, 1) := by decide +kernel
theorem dX12_ended_7 : decode cX12_ended 7 = .ok (.bipush (-2), 2) := by decide +kernel
theorem dX12_ended_9 : decode cX12_ended 9 = .ok (.ireturn, 1) := by decide +kernel
theorem dX12_pair_0 : decode cX12_pair 0 = .ok (.iload_n 1, 1) := by decide +kernel
theorem dX12_pair_1 : decode cX12_pair 1 = .ok (.invokestatic 239, 3) := by decide +kernel
theorem dX12_pair_4 : decode cX12_pair 4 = .ok (.ifCond .ne 6, 3) := by decide +kernel
theorem dX12_pair_10 : decode cX12_pair 10 = .ok (.aload_n 0, 1) := by decide +kernel
theorem dX12_pair_11 : decode cX12_pair 11 = .ok (.iload_n 1, 1) := by decide +kernel
theorem dX12_pair_12 : decode cX12_pair 12 = .ok (.invokevirtual 271, 3) := by decide +kernel
theorem dX12_pair_15 : decode cX12_pair 15 = .ok (.aload_n 0, 1) := by decide +kernel
theorem dX12_pair_16 : decode cX12_pair 16 = .ok (.invokevirtual 274, 3) := by decide +kernel
theorem dX12_pair_19 : decode cX12_pair 19 = .ok (.ifCond .ne 5, 3) := by decide +kernel
theorem dX12_pair_22 : decode cX12_pair 22 = .ok (.iconst (-1), 1) := by decide +kernel
theorem dX12_pair_23 : decode cX12_pair 23 = .ok (.ireturn, 1) := by decide +kernel
theorem dX12_pair_7 : decode cX12_pair 7 = .ok (.bipush (-2), 2) := by decide +kernel
theorem dX12_pair_9 : decode cX12_pair 9 = .ok (.ireturn, 1) := by decide +kernel
theorem dX12_paired_0 : decode cX12_paired 0 = .ok (.aload_n 0, 1) := by decide +kernel
theorem dX12_paired_1 : decode cX12_paired 1 = .ok (.getfield 347, 3) := by decide +kernel
theorem dX12_paired_4 : decode cX12_paired 4 = .ok (.ifCond .eq 22, 3) := by decide +kernel
theorem dX12_paired_26 : decode cX12_paired 26 = .ok (.iconst (-1), 1) := by decide +kernel
theorem dX12_paired_27 : decode cX12_paired 27 = .ok (.ireturn, 1) := by decide +kernel
theorem dX12_total_0 : decode cX12_total 0 = .ok (.iload_n 1, 1) := by decide +kernel
theorem dX12_total_1 : decode cX12_total 1 = .ok (.invokestatic 239, 3) := by decide +kernel
theorem dX12_total_4 : decode cX12_total 4 = .ok (.ifCond .eq 13, 3) := by decide +kernel
theorem dX12_total_7 : decode cX12_total 7 = .ok (.iload_n 2, 1) := by decide +kernel
theorem dX12_total_8 : decode cX12_total 8 = .ok (.i2l, 1) := by decide +kernel
theorem dX12_total_9 : decode cX12_total 9 = .ok (.lconst 0, 1) := by decide +kernel
theorem dX12_total_10 : decode cX12_total 10 = .ok (.lconst 1, 1) := by decide +kernel
theorem dX12_total_11 : decode cX12_total 11 = .ok (.invokestatic 98, 3) := by decide +kernel
theorem dX12_total_14 : decode cX12_total 14 = .ok (.ifCond .ne 6, 3) := by decide +kernel
theorem dX12_total_20 : decode cX12_total 20 = .ok (.aload_n 0, 1) := by decide +kernel
theorem dX12_total_21 : decode cX12_total 21 = .ok (.iload_n 1, 1) := by decide +kernel
theorem dX12_total_22 : decode cX12_total 22 = .ok (.invokevirtual 271, 3) := by decide +kernel
theorem dX12_total_25 : decode cX12_total 25 = .ok (.aload_n 0, 1) := by decide +kernel
theorem dX12_total_26 : decode cX12_total 26 = .ok (.invokevirtual 274, 3) := by decide +kernel
theorem dX12_total_29 : decode cX12_total 29 = .ok (.ifCond .ne 5, 3) := by decide +kernel
theorem dX12_total_32 : decode cX12_total 32 = .ok (.iconst (-1), 1) := by decide +kernel
theorem dX12_total_33 : decode cX12_total 33 = .ok (.ireturn, 1) := by decide +kernel
theorem dX12_total_17 : decode cX12_total 17 = .ok (.bipush (-2), 2) := by decide +kernel
theorem dX12_total_19 : decode cX12_total 19 = .ok (.ireturn, 1) := by decide +kernel
theorem dX12_coin_0 : decode cX12_coin 0 = .ok (.iload_n 1, 1) := by decide +kernel
theorem dX12_coin_1 : decode cX12_coin 1 = .ok (.invokestatic 239, 3) := by decide +kernel
theorem dX12_coin_4 : decode cX12_coin 4 = .ok (.ifCond .eq 15, 3) := by decide +kernel
theorem dX12_coin_7 : decode cX12_coin 7 = .ok (.iload_n 2, 1) := by decide +kernel
theorem dX12_coin_8 : decode cX12_coin 8 = .ok (.i2l, 1) := by decide +kernel
theorem dX12_coin_9 : decode cX12_coin 9 = .ok (.lconst 0, 1) := by decide +kernel
theorem dX12_coin_10 : decode cX12_coin 10 = .ok (.ldc2_w 358, 3) := by decide +kernel
theorem dX12_coin_13 : decode cX12_coin 13 = .ok (.invokestatic 98, 3) := by decide +kernel
theorem dX12_coin_16 : decode cX12_coin 16 = .ok (.ifCond .ne 6, 3) := by decide +kernel
theorem dX12_coin_22 : decode cX12_coin 22 = .ok (.aload_n 0, 1) := by decide +kernel
theorem dX12_coin_23 : decode cX12_coin 23 = .ok (.iload_n 1, 1) := by decide +kernel
theorem dX12_coin_24 : decode cX12_coin 24 = .ok (.invokevirtual 271, 3) := by decide +kernel
theorem dX12_coin_27 : decode cX12_coin 27 = .ok (.aload_n 0, 1) := by decide +kernel
theorem dX12_coin_28 : decode cX12_coin 28 = .ok (.invokevirtual 341, 3) := by decide +kernel
theorem dX12_coin_31 : decode cX12_coin 31 = .ok (.ifCond .ne 6, 3) := by decide +kernel
theorem dX12_coin_34 : decode cX12_coin 34 = .ok (.bipush (-5), 2) := by decide +kernel
theorem dX12_coin_36 : decode cX12_coin 36 = .ok (.ireturn, 1) := by decide +kernel
theorem dX12_coin_19 : decode cX12_coin 19 = .ok (.bipush (-2), 2) := by decide +kernel
theorem dX12_coin_21 : decode cX12_coin 21 = .ok (.ireturn, 1) := by decide +kernel
theorem dX12_next_0 : decode cX12_next 0 = .ok (.iload_n 1, 1) := by decide +kernel
theorem dX12_next_1 : decode cX12_next 1 = .ok (.invokestatic 239, 3) := by decide +kernel
theorem dX12_next_4 : decode cX12_next 4 = .ok (.ifCond .eq 15, 3) := by decide +kernel
theorem dX12_next_7 : decode cX12_next 7 = .ok (.iload_n 2, 1) := by decide +kernel
theorem dX12_next_8 : decode cX12_next 8 = .ok (.i2l, 1) := by decide +kernel
theorem dX12_next_9 : decode cX12_next 9 = .ok (.lconst 0, 1) := by decide +kernel
theorem dX12_next_10 : decode cX12_next 10 = .ok (.ldc2_w 358, 3) := by decide +kernel
theorem dX12_next_13 : decode cX12_next 13 = .ok (.invokestatic 98, 3) := by decide +kernel
theorem dX12_next_16 : decode cX12_next 16 = .ok (.ifCond .ne 6, 3) := by decide +kernel
theorem dX12_next_22 : decode cX12_next 22 = .ok (.aload_n 0, 1) := by decide +kernel
theorem dX12_next_23 : decode cX12_next 23 = .ok (.iload_n 1, 1) := by decide +kernel
theorem dX12_next_24 : decode cX12_next 24 = .ok (.invokevirtual 271, 3) := by decide +kernel
theorem dX12_next_27 : decode cX12_next 27 = .ok (.aload_n 0, 1) := by decide +kernel
theorem dX12_next_28 : decode cX12_next 28 = .ok (.invokevirtual 341, 3) := by decide +kernel
theorem dX12_next_31 : decode cX12_next 31 = .ok (.ifCond .ne 6, 3) := by decide +kernel
theorem dX12_next_34 : decode cX12_next 34 = .ok (.bipush (-5), 2) := by decide +kernel
theorem dX12_next_36 : decode cX12_next 36 = .ok (.ireturn, 1) := by decide +kernel
theorem dX12_next_19 : decode cX12_next 19 = .ok (.bipush (-2), 2) := by decide +kernel
theorem dX12_next_21 : decode cX12_next 21 = .ok (.ireturn, 1) := by decide +kernel
theorem dX12_paid_0 : decode cX12_paid 0 = .ok (.iload_n 1, 1) := by decide +kernel
theorem dX12_paid_1 : decode cX12_paid 1 = .ok (.invokestatic 239, 3) := by decide +kernel
theorem dX12_paid_4 : decode cX12_paid 4 = .ok (.ifCond .ne 6, 3) := by decide +kernel
theorem dX12_paid_10 : decode cX12_paid 10 = .ok (.iconst 0, 1) := by decide +kernel
theorem dX12_paid_11 : decode cX12_paid 11 = .ok (.istore_n 2, 1) := by decide +kernel
theorem dX12_paid_12 : decode cX12_paid 12 = .ok (.iconst 0, 1) := by decide +kernel
theorem dX12_paid_13 : decode cX12_paid 13 = .ok (.istore_n 3, 1) := by decide +kernel
theorem dX12_paid_14 : decode cX12_paid 14 = .ok (.iload_n 3, 1) := by decide +kernel
theorem dX12_paid_15 : decode cX12_paid 15 = .ok (.aload_n 0, 1) := by decide +kernel
theorem dX12_paid_16 : decode cX12_paid 16 = .ok (.invokevirtual 102, 3) := by decide +kernel
theorem dX12_paid_19 : decode cX12_paid 19 = .ok (.if_icmp .ge 32, 3) := by decide +kernel
theorem dX12_paid_51 : decode cX12_paid 51 = .ok (.iload_n 2, 1) := by decide +kernel
theorem dX12_paid_52 : decode cX12_paid 52 = .ok (.ireturn, 1) := by decide +kernel
theorem dX12_paid_7 : decode cX12_paid 7 = .ok (.bipush (-2), 2) := by decide +kernel
theorem dX12_paid_9 : decode cX12_paid 9 = .ok (.ireturn, 1) := by decide +kernel
theorem dX12_fire_0 : decode cX12_fire 0 = .ok (.iload_n 1, 1) := by decide +kernel
theorem dX12_fire_1 : decode cX12_fire 1 = .ok (.invokestatic 239, 3) := by decide +kernel
theorem dX12_fire_4 : decode cX12_fire 4 = .ok (.ifCond .eq 11, 3) := by decide +kernel
theorem dX12_fire_7 : decode cX12_fire 7 = .ok (.aload_n 0, 1) := by decide +kernel
theorem dX12_fire_8 : decode cX12_fire 8 = .ok (.iload_n 2, 1) := by decide +kernel
theorem dX12_fire_9 : decode cX12_fire 9 = .ok (.invokevirtual 292, 3) := by decide +kernel
theorem dX12_fire_12 : decode cX12_fire 12 = .ok (.ifCond .ne 6, 3) := by decide +kernel
theorem dX12_fire_18 : decode cX12_fire 18 = .ok (.aload_n 0, 1) := by decide +kernel
theorem dX12_fire_19 : decode cX12_fire 19 = .ok (.getfield 13, 3) := by decide +kernel
theorem dX12_fire_22 : decode cX12_fire 22 = .ok (.iconst 4, 1) := by decide +kernel
theorem dX12_fire_23 : decode cX12_fire 23 = .ok (.iaload, 1) := by decide +kernel
theorem dX12_fire_24 : decode cX12_fire 24 = .ok (.iconst (-1), 1) := by decide +kernel
theorem dX12_fire_25 : decode cX12_fire 25 = .ok (.if_icmp .ne 6, 3) := by decide +kernel
theorem dX12_fire_28 : decode cX12_fire 28 = .ok (.bipush (-6), 2) := by decide +kernel
theorem dX12_fire_30 : decode cX12_fire 30 = .ok (.ireturn, 1) := by decide +kernel
theorem dX12_fire_15 : decode cX12_fire 15 = .ok (.bipush (-2), 2) := by decide +kernel
theorem dX12_fire_17 : decode cX12_fire 17 = .ok (.ireturn, 1) := by decide +kernel
theorem dX12_lastFire_0 : decode cX12_lastFire 0 = .ok (.iload_n 1, 1) := by decide +kernel
theorem dX12_lastFire_1 : decode cX12_lastFire 1 = .ok (.invokestatic 239, 3) := by decide +kernel
theorem dX12_lastFire_4 : decode cX12_lastFire 4 = .ok (.ifCond .ne 6, 3) := by decide +kernel
theorem dX12_lastFire_10 : decode cX12_lastFire 10 = .ok (.aload_n 0, 1) := by decide +kernel
theorem dX12_lastFire_11 : decode cX12_lastFire 11 = .ok (.getfield 13, 3) := by decide +kernel
theorem dX12_lastFire_14 : decode cX12_lastFire 14 = .ok (.iconst 4, 1) := by decide +kernel
theorem dX12_lastFire_15 : decode cX12_lastFire 15 = .ok (.iaload, 1) := by decide +kernel
theorem dX12_lastFire_16 : decode cX12_lastFire 16 = .ok (.iconst (-1), 1) := by decide +kernel
theorem dX12_lastFire_17 : decode cX12_lastFire 17 = .ok (.if_icmp .ne 6, 3) := by decide +kernel
theorem dX12_lastFire_20 : decode cX12_lastFire 20 = .ok (.bipush (-6), 2) := by decide +kernel
theorem dX12_lastFire_22 : decode cX12_lastFire 22 = .ok (.ireturn, 1) := by decide +kernel
theorem dX12_lastFire_7 : decode cX12_lastFire 7 = .ok (.bipush (-2), 2) := by decide +kernel
theorem dX12_lastFire_9 : decode cX12_lastFire 9 = .ok (.ireturn, 1) := by decide +kernel
theorem dX12_arrive_0 : decode cX12_arrive 0 = .ok (.aload_n 0, 1) := by decide +kernel
theorem dX12_arrive_1 : decode cX12_arrive 1 = .ok (.iload_n 1, 1) := by decide +kernel
theorem dX12_arrive_2 : decode cX12_arrive 2 = .ok (.invokevirtual 301, 3) := by decide +kernel
theorem dX12_arrive_5 : decode cX12_arrive 5 = .ok (.ifCond .eq 27, 3) := by decide +kernel
theorem dX12_arrive_32 : decode cX12_arrive 32 = .ok (.bipush (-2), 2) := by decide +kernel
theorem dX12_arrive_34 : decode cX12_arrive 34 = .ok (.ireturn, 1) := by decide +kernel
theorem dX12_reach_0 : decode cX12_reach 0 = .ok (.iload_n 1, 1) := by decide +kernel
theorem dX12_reach_1 : decode cX12_reach 1 = .ok (.invokestatic 239, 3) := by decide +kernel
theorem dX12_reach_4 : decode cX12_reach 4 = .ok (.ifCond .eq 15, 3) := by decide +kernel
theorem dX12_reach_7 : decode cX12_reach 7 = .ok (.iload_n 2, 1) := by decide +kernel
theorem dX12_reach_8 : decode cX12_reach 8 = .ok (.i2l, 1) := by decide +kernel
theorem dX12_reach_9 : decode cX12_reach 9 = .ok (.lconst 0, 1) := by decide +kernel
theorem dX12_reach_10 : decode cX12_reach 10 = .ok (.ldc2_w 358, 3) := by decide +kernel
theorem dX12_reach_13 : decode cX12_reach 13 = .ok (.invokestatic 98, 3) := by decide +kernel
theorem dX12_reach_16 : decode cX12_reach 16 = .ok (.ifCond .ne 6, 3) := by decide +kernel
theorem dX12_reach_22 : decode cX12_reach 22 = .ok (.aload_n 0, 1) := by decide +kernel
theorem dX12_reach_23 : decode cX12_reach 23 = .ok (.getfield 13, 3) := by decide +kernel
theorem dX12_reach_26 : decode cX12_reach 26 = .ok (.iconst 4, 1) := by decide +kernel
theorem dX12_reach_27 : decode cX12_reach 27 = .ok (.iaload, 1) := by decide +kernel
theorem dX12_reach_28 : decode cX12_reach 28 = .ok (.iconst (-1), 1) := by decide +kernel
theorem dX12_reach_29 : decode cX12_reach 29 = .ok (.if_icmp .ne 6, 3) := by decide +kernel
theorem dX12_reach_32 : decode cX12_reach 32 = .ok (.bipush (-6), 2) := by decide +kernel
theorem dX12_reach_34 : decode cX12_reach 34 = .ok (.ireturn, 1) := by decide +kernel
theorem dX12_reach_19 : decode cX12_reach 19 = .ok (.bipush (-2), 2) := by decide +kernel
theorem dX12_reach_21 : decode cX12_reach 21 = .ok (.ireturn, 1) := by decide +kernel
theorem dX12_afternoon_0 : decode cX12_afternoon 0 = .ok (.iload_n 1, 1) := by decide +kernel
theorem dX12_afternoon_1 : decode cX12_afternoon 1 = .ok (.i2l, 1) := by decide +kernel
theorem dX12_afternoon_2 : decode cX12_afternoon 2 = .ok (.lconst 0, 1) := by decide +kernel
theorem dX12_afternoon_3 : decode cX12_afternoon 3 = .ok (.ldc2_w 96, 3) := by decide +kernel
theorem dX12_afternoon_6 : decode cX12_afternoon 6 = .ok (.invokestatic 98, 3) := by decide +kernel
theorem dX12_afternoon_9 : decode cX12_afternoon 9 = .ok (.ifCond .ne 6, 3) := by decide +kernel
theorem dX12_afternoon_15 : decode cX12_afternoon 15 = .ok (.aload_n 0, 1) := by decide +kernel
theorem dX12_afternoon_16 : decode cX12_afternoon 16 = .ok (.iconst 0, 1) := by decide +kernel
theorem dX12_afternoon_17 : decode cX12_afternoon 17 = .ok (.invokevirtual 271, 3) := by decide +kernel
theorem dX12_afternoon_20 : decode cX12_afternoon 20 = .ok (.aload_n 0, 1) := by decide +kernel
theorem dX12_afternoon_21 : decode cX12_afternoon 21 = .ok (.invokevirtual 341, 3) := by decide +kernel
theorem dX12_afternoon_24 : decode cX12_afternoon 24 = .ok (.ifCond .ne 6, 3) := by decide +kernel
theorem dX12_afternoon_27 : decode cX12_afternoon 27 = .ok (.bipush (-5), 2) := by decide +kernel
theorem dX12_afternoon_29 : decode cX12_afternoon 29 = .ok (.ireturn, 1) := by decide +kernel
theorem dX12_afternoon_12 : decode cX12_afternoon 12 = .ok (.bipush (-2), 2) := by decide +kernel
theorem dX12_afternoon_14 : decode cX12_afternoon 14 = .ok (.ireturn, 1) := by decide +kernel
theorem dX12_sumBack_0 : decode cX12_sumBack 0 = .ok (.iload_n 1, 1) := by decide +kernel
theorem dX12_sumBack_1 : decode cX12_sumBack 1 = .ok (.invokestatic 239, 3) := by decide +kernel
theorem dX12_sumBack_4 : decode cX12_sumBack 4 = .ok (.ifCond .ne 6, 3) := by decide +kernel
theorem dX12_sumBack_10 : decode cX12_sumBack 10 = .ok (.aload_n 0, 1) := by decide +kernel
theorem dX12_sumBack_11 : decode cX12_sumBack 11 = .ok (.iload_n 1, 1) := by decide +kernel
theorem dX12_sumBack_12 : decode cX12_sumBack 12 = .ok (.invokevirtual 271, 3) := by decide +kernel
theorem dX12_sumBack_15 : decode cX12_sumBack 15 = .ok (.aload_n 0, 1) := by decide +kernel
theorem dX12_sumBack_16 : decode cX12_sumBack 16 = .ok (.aload_n 0, 1) := by decide +kernel
theorem dX12_sumBack_17 : decode cX12_sumBack 17 = .ok (.getfield 46, 3) := by decide +kernel
theorem dX12_sumBack_20 : decode cX12_sumBack 20 = .ok (.iconst 1, 1) := by decide +kernel
theorem dX12_sumBack_21 : decode cX12_sumBack 21 = .ok (.invokevirtual 260, 3) := by decide +kernel
theorem dX12_sumBack_24 : decode cX12_sumBack 24 = .ok (.aload_n 0, 1) := by decide +kernel
theorem dX12_sumBack_25 : decode cX12_sumBack 25 = .ok (.invokevirtual 264, 3) := by decide +kernel
theorem dX12_sumBack_28 : decode cX12_sumBack 28 = .ok (.aload_n 0, 1) := by decide +kernel
theorem dX12_sumBack_29 : decode cX12_sumBack 29 = .ok (.iconst 1, 1) := by decide +kernel
theorem dX12_sumBack_30 : decode cX12_sumBack 30 = .ok (.invokevirtual 310, 3) := by decide +kernel
theorem dX12_sumBack_33 : decode cX12_sumBack 33 = .ok (.ireturn, 1) := by decide +kernel
theorem dX12_sumBack_7 : decode cX12_sumBack 7 = .ok (.bipush (-2), 2) := by decide +kernel
theorem dX12_sumBack_9 : decode cX12_sumBack 9 = .ok (.ireturn, 1) := by decide +kernel
theorem dX12_walk_0 : decode cX12_walk 0 = .ok (.iload_n 1, 1) := by decide +kernel
theorem dX12_walk_1 : decode cX12_walk 1 = .ok (.invokestatic 239, 3) := by decide +kernel
theorem dX12_walk_4 : decode cX12_walk 4 = .ok (.ifCond .eq 23, 3) := by decide +kernel
theorem dX12_walk_7 : decode cX12_walk 7 = .ok (.aload_n 0, 1) := by decide +kernel
theorem dX12_walk_8 : decode cX12_walk 8 = .ok (.iload_n 2, 1) := by decide +kernel
theorem dX12_walk_9 : decode cX12_walk 9 = .ok (.invokevirtual 292, 3) := by decide +kernel
theorem dX12_walk_12 : decode cX12_walk 12 = .ok (.ifCond .eq 15, 3) := by decide +kernel
theorem dX12_walk_15 : decode cX12_walk 15 = .ok (.iload_n 3, 1) := by decide +kernel
theorem dX12_walk_16 : decode cX12_walk 16 = .ok (.i2l, 1) := by decide +kernel
theorem dX12_walk_17 : decode cX12_walk 17 = .ok (.lconst 0, 1) := by decide +kernel
theorem dX12_walk_18 : decode cX12_walk 18 = .ok (.ldc2_w 381, 3) := by decide +kernel
theorem dX12_walk_21 : decode cX12_walk 21 = .ok (.invokestatic 98, 3) := by decide +kernel
theorem dX12_walk_24 : decode cX12_walk 24 = .ok (.ifCond .ne 6, 3) := by decide +kernel
theorem dX12_walk_30 : decode cX12_walk 30 = .ok (.aload_n 0, 1) := by decide +kernel
theorem dX12_walk_31 : decode cX12_walk 31 = .ok (.iload_n 1, 1) := by decide +kernel
theorem dX12_walk_32 : decode cX12_walk 32 = .ok (.invokevirtual 271, 3) := by decide +kernel
theorem dX12_walk_35 : decode cX12_walk 35 = .ok (.iload_n 2, 1) := by decide +kernel
theorem dX12_walk_36 : decode cX12_walk 36 = .ok (.istore 4, 2) := by decide +kernel
theorem dX12_walk_38 : decode cX12_walk 38 = .ok (.iconst (-1), 1) := by decide +kernel
theorem dX12_walk_39 : decode cX12_walk 39 = .ok (.istore 5, 2) := by decide +kernel
theorem dX12_walk_41 : decode cX12_walk 41 = .ok (.iconst 0, 1) := by decide +kernel
theorem dX12_walk_42 : decode cX12_walk 42 = .ok (.istore 6, 2) := by decide +kernel
theorem dX12_walk_44 : decode cX12_walk 44 = .ok (.iload 6, 2) := by decide +kernel
theorem dX12_walk_46 : decode cX12_walk 46 = .ok (.iload_n 3, 1) := by decide +kernel
theorem dX12_walk_47 : decode cX12_walk 47 = .ok (.if_icmp .ge 110, 3) := by decide +kernel
theorem dX12_walk_157 : decode cX12_walk 157 = .ok (.iload 4, 2) := by decide +kernel
theorem dX12_walk_159 : decode cX12_walk 159 = .ok (.ireturn, 1) := by decide +kernel
theorem dX12_walk_50 : decode cX12_walk 50 = .ok (.iconst (-1), 1) := by decide +kernel
theorem dX12_walk_51 : decode cX12_walk 51 = .ok (.istore 7, 2) := by decide +kernel
theorem dX12_walk_53 : decode cX12_walk 53 = .ok (.aload_n 0, 1) := by decide +kernel
theorem dX12_walk_54 : decode cX12_walk 54 = .ok (.invokevirtual 102, 3) := by decide +kernel
theorem dX12_walk_57 : decode cX12_walk 57 = .ok (.iconst 1, 1) := by decide +kernel
theorem dX12_walk_58 : decode cX12_walk 58 = .ok (.isub, 1) := by decide +kernel
theorem dX12_walk_59 : decode cX12_walk 59 = .ok (.istore 8, 2) := by decide +kernel
theorem dX12_walk_61 : decode cX12_walk 61 = .ok (.iload 8, 2) := by decide +kernel
theorem dX12_walk_63 : decode cX12_walk 63 = .ok (.ifCond .lt 37, 3) := by decide +kernel
theorem dX12_walk_100 : decode cX12_walk 100 = .ok (.iload 7, 2) := by decide +kernel
theorem dX12_walk_102 : decode cX12_walk 102 = .ok (.iconst (-1), 1) := by decide +kernel
theorem dX12_walk_103 : decode cX12_walk 103 = .ok (.if_icmp .ne 25, 3) := by decide +kernel
theorem dX12_walk_106 : decode cX12_walk 106 = .ok (.iload 5, 2) := by decide +kernel
theorem dX12_walk_108 : decode cX12_walk 108 = .ok (.iconst (-1), 1) := by decide +kernel
theorem dX12_walk_109 : decode cX12_walk 109 = .ok (.if_icmp .eq 19, 3) := by decide +kernel
theorem dX12_walk_128 : decode cX12_walk 128 = .ok (.iload 7, 2) := by decide +kernel
theorem dX12_walk_130 : decode cX12_walk 130 = .ok (.iconst (-1), 1) := by decide +kernel
theorem dX12_walk_131 : decode cX12_walk 131 = .ok (.if_icmp .ne 6, 3) := by decide +kernel
theorem dX12_walk_134 : decode cX12_walk 134 = .ok (.iload 4, 2) := by decide +kernel
theorem dX12_walk_136 : decode cX12_walk 136 = .ok (.ireturn, 1) := by decide +kernel
theorem dX12_walk_27 : decode cX12_walk 27 = .ok (.bipush (-2), 2) := by decide +kernel
theorem dX12_walk_29 : decode cX12_walk 29 = .ok (.ireturn, 1) := by decide +kernel
theorem dX12_change_0 : decode cX12_change 0 = .ok (.iconst 0, 1) := by decide +kernel
theorem dX12_change_1 : decode cX12_change 1 = .ok (.istore_n 1, 1) := by decide +kernel
theorem dX12_change_2 : decode cX12_change 2 = .ok (.iconst 0, 1) := by decide +kernel
theorem dX12_change_3 : decode cX12_change 3 = .ok (.istore_n 2, 1) := by decide +kernel
theorem dX12_change_4 : decode cX12_change 4 = .ok (.iload_n 2, 1) := by decide +kernel
theorem dX12_change_5 : decode cX12_change 5 = .ok (.aload_n 0, 1) := by decide +kernel
theorem dX12_change_6 : decode cX12_change 6 = .ok (.invokevirtual 102, 3) := by decide +kernel
theorem dX12_change_9 : decode cX12_change 9 = .ok (.if_icmp .ge 32, 3) := by decide +kernel
theorem dX12_change_41 : decode cX12_change 41 = .ok (.iload_n 1, 1) := by decide +kernel
theorem dX12_change_42 : decode cX12_change 42 = .ok (.ireturn, 1) := by decide +kernel
theorem dX12_signs_0 : decode cX12_signs 0 = .ok (.iload_n 1, 1) := by decide +kernel
theorem dX12_signs_1 : decode cX12_signs 1 = .ok (.invokestatic 239, 3) := by decide +kernel
theorem dX12_signs_4 : decode cX12_signs 4 = .ok (.ifCond .ne 6, 3) := by decide +kernel
theorem dX12_signs_10 : decode cX12_signs 10 = .ok (.aload_n 0, 1) := by decide +kernel
theorem dX12_signs_11 : decode cX12_signs 11 = .ok (.iload_n 1, 1) := by decide +kernel
theorem dX12_signs_12 : decode cX12_signs 12 = .ok (.invokevirtual 271, 3) := by decide +kernel
theorem dX12_signs_15 : decode cX12_signs 15 = .ok (.aload_n 0, 1) := by decide +kernel
theorem dX12_signs_16 : decode cX12_signs 16 = .ok (.invokevirtual 383, 3) := by decide +kernel
theorem dX12_signsNow_0 : decode cX12_signsNow 0 = .ok (.iconst 0, 1) := by decide +kernel
theorem dX12_signsNow_1 : decode cX12_signsNow 1 = .ok (.istore_n 1, 1) := by decide +kernel
theorem dX12_signsNow_2 : decode cX12_signsNow 2 = .ok (.iconst 0, 1) := by decide +kernel
theorem dX12_signsNow_3 : decode cX12_signsNow 3 = .ok (.istore_n 2, 1) := by decide +kernel
theorem dX12_signsNow_4 : decode cX12_signsNow 4 = .ok (.iload_n 2, 1) := by decide +kernel
theorem dX12_signsNow_5 : decode cX12_signsNow 5 = .ok (.aload_n 0, 1) := by decide +kernel
theorem dX12_signsNow_6 : decode cX12_signsNow 6 = .ok (.invokevirtual 106, 3) := by decide +kernel
theorem dX12_signsNow_9 : decode cX12_signsNow 9 = .ok (.if_icmp .ge 95, 3) := by decide +kernel
theorem dX12_signsNow_12 : decode cX12_signsNow 12 = .ok (.iconst 0, 1) := by decide +kernel
theorem dX12_signsNow_13 : decode cX12_signsNow 13 = .ok (.istore_n 3, 1) := by decide +kernel
theorem dX12_signsNow_14 : decode cX12_signsNow 14 = .ok (.iconst 0, 1) := by decide +kernel
theorem dX12_signsNow_15 : decode cX12_signsNow 15 = .ok (.istore 4, 2) := by decide +kernel
theorem dX12_signsNow_17 : decode cX12_signsNow 17 = .ok (.iconst 0, 1) := by decide +kernel
theorem dX12_signsNow_18 : decode cX12_signsNow 18 = .ok (.istore 5, 2) := by decide +kernel
theorem dX12_signsNow_20 : decode cX12_signsNow 20 = .ok (.iload 5, 2) := by decide +kernel
theorem dX12_signsNow_22 : decode cX12_signsNow 22 = .ok (.aload_n 0, 1) := by decide +kernel
theorem dX12_signsNow_23 : decode cX12_signsNow 23 = .ok (.invokevirtual 102, 3) := by decide +kernel
theorem dX12_signsNow_26 : decode cX12_signsNow 26 = .ok (.if_icmp .ge 54, 3) := by decide +kernel
theorem dX12_signsNow_80 : decode cX12_signsNow 80 = .ok (.iload_n 1, 1) := by decide +kernel
theorem dX12_signsNow_81 : decode cX12_signsNow 81 = .ok (.iload_n 3, 1) := by decide +kernel
theorem dX12_signsNow_82 : decode cX12_signsNow 82 = .ok (.ifCond .le 13, 3) := by decide +kernel
theorem dX12_signsNow_95 : decode cX12_signsNow 95 = .ok (.iload_n 3, 1) := by decide +kernel
theorem dX12_signsNow_96 : decode cX12_signsNow 96 = .ok (.iadd, 1) := by decide +kernel
theorem dX12_signsNow_97 : decode cX12_signsNow 97 = .ok (.istore_n 1, 1) := by decide +kernel
theorem dX12_signsNow_98 : decode cX12_signsNow 98 = .ok (.iinc 2 1, 3) := by decide +kernel
theorem dX12_signsNow_101 : decode cX12_signsNow 101 = .ok (.goto (-97), 3) := by decide +kernel
theorem dX12_signsNow_104 : decode cX12_signsNow 104 = .ok (.iload_n 1, 1) := by decide +kernel
theorem dX12_signsNow_105 : decode cX12_signsNow 105 = .ok (.ireturn, 1) := by decide +kernel
theorem dX12_signs_19 : decode cX12_signs 19 = .ok (.ireturn, 1) := by decide +kernel
theorem dX12_signs_7 : decode cX12_signs 7 = .ok (.bipush (-2), 2) := by decide +kernel
theorem dX12_signs_9 : decode cX12_signs 9 = .ok (.ireturn, 1) := by decide +kernel
theorem dX12_gone_0 : decode cX12_gone 0 = .ok (.iload_n 1, 1) := by decide +kernel
theorem dX12_gone_1 : decode cX12_gone 1 = .ok (.invokestatic 239, 3) := by decide +kernel
theorem dX12_gone_4 : decode cX12_gone 4 = .ok (.ifCond .eq 11, 3) := by decide +kernel
theorem dX12_gone_7 : decode cX12_gone 7 = .ok (.aload_n 0, 1) := by decide +kernel
theorem dX12_gone_8 : decode cX12_gone 8 = .ok (.iload_n 2, 1) := by decide +kernel
theorem dX12_gone_9 : decode cX12_gone 9 = .ok (.invokevirtual 301, 3) := by decide +kernel
theorem dX12_gone_12 : decode cX12_gone 12 = .ok (.ifCond .ne 6, 3) := by decide +kernel
theorem dX12_gone_15 : decode cX12_gone 15 = .ok (.bipush (-2), 2) := by decide +kernel
theorem dX12_gone_17 : decode cX12_gone 17 = .ok (.ireturn, 1) := by decide +kernel
theorem dX12_load_0 : decode cX12_load 0 = .ok (.iload_n 1, 1) := by decide +kernel
theorem dX12_load_1 : decode cX12_load 1 = .ok (.invokestatic 239, 3) := by decide +kernel
theorem dX12_load_4 : decode cX12_load 4 = .ok (.ifCond .eq 11, 3) := by decide +kernel
theorem dX12_load_7 : decode cX12_load 7 = .ok (.aload_n 0, 1) := by decide +kernel
theorem dX12_load_8 : decode cX12_load 8 = .ok (.iload_n 2, 1) := by decide +kernel
theorem dX12_load_9 : decode cX12_load 9 = .ok (.invokevirtual 243, 3) := by decide +kernel
theorem dX12_load_12 : decode cX12_load 12 = .ok (.ifCond .ne 6, 3) := by decide +kernel
theorem dX12_load_15 : decode cX12_load 15 = .ok (.bipush (-2), 2) := by decide +kernel
theorem dX12_load_17 : decode cX12_load 17 = .ok (.ireturn, 1) := by decide +kernel
theorem dX12_busiest_0 : decode cX12_busiest 0 = .ok (.iload_n 1, 1) := by decide +kernel
theorem dX12_busiest_1 : decode cX12_busiest 1 = .ok (.invokestatic 239, 3) := by decide +kernel
theorem dX12_busiest_4 : decode cX12_busiest 4 = .ok (.ifCond .ne 6, 3) := by decide +kernel
theorem dX12_busiest_10 : decode cX12_busiest 10 = .ok (.aload_n 0, 1) := by decide +kernel
theorem dX12_busiest_11 : decode cX12_busiest 11 = .ok (.iload_n 1, 1) := by decide +kernel
theorem dX12_busiest_12 : decode cX12_busiest 12 = .ok (.invokevirtual 271, 3) := by decide +kernel
theorem dX12_busiest_15 : decode cX12_busiest 15 = .ok (.aload_n 0, 1) := by decide +kernel
theorem dX12_busiest_16 : decode cX12_busiest 16 = .ok (.invokevirtual 264, 3) := by decide +kernel
theorem dX12_busiest_19 : decode cX12_busiest 19 = .ok (.iconst (-1), 1) := by decide +kernel
theorem dX12_busiest_20 : decode cX12_busiest 20 = .ok (.istore_n 2, 1) := by decide +kernel
theorem dX12_busiest_21 : decode cX12_busiest 21 = .ok (.iconst 0, 1) := by decide +kernel
theorem dX12_busiest_22 : decode cX12_busiest 22 = .ok (.istore_n 3, 1) := by decide +kernel
theorem dX12_busiest_23 : decode cX12_busiest 23 = .ok (.iload_n 3, 1) := by decide +kernel
theorem dX12_busiest_24 : decode cX12_busiest 24 = .ok (.aload_n 0, 1) := by decide +kernel
theorem dX12_busiest_25 : decode cX12_busiest 25 = .ok (.invokevirtual 102, 3) := by decide +kernel
theorem dX12_busiest_28 : decode cX12_busiest 28 = .ok (.if_icmp .ge 29, 3) := by decide +kernel
theorem dX12_busiest_57 : decode cX12_busiest 57 = .ok (.iload_n 2, 1) := by decide +kernel
theorem dX12_busiest_58 : decode cX12_busiest 58 = .ok (.ireturn, 1) := by decide +kernel
theorem dX12_busiest_7 : decode cX12_busiest 7 = .ok (.bipush (-2), 2) := by decide +kernel
theorem dX12_busiest_9 : decode cX12_busiest 9 = .ok (.ireturn, 1) := by decide +kernel
theorem dX12_judge_0 : decode cX12_judge 0 = .ok (.iload_n 1, 1) := by decide +kernel
theorem dX12_judge_1 : decode cX12_judge 1 = .ok (.invokestatic 252, 3) := by decide +kernel
theorem dX12_judge_4 : decode cX12_judge 4 = .ok (.ifCond .eq 15, 3) := by decide +kernel
theorem dX12_judge_7 : decode cX12_judge 7 = .ok (.iload_n 2, 1) := by decide +kernel
theorem dX12_judge_8 : decode cX12_judge 8 = .ok (.i2l, 1) := by decide +kernel
theorem dX12_judge_9 : decode cX12_judge 9 = .ok (.lconst 0, 1) := by decide +kernel
theorem dX12_judge_10 : decode cX12_judge 10 = .ok (.ldc2_w 389, 3) := by decide +kernel
theorem dX12_judge_13 : decode cX12_judge 13 = .ok (.invokestatic 98, 3) := by decide +kernel
theorem dX12_judge_16 : decode cX12_judge 16 = .ok (.ifCond .ne 6, 3) := by decide +kernel
theorem dX12_judge_22 : decode cX12_judge 22 = .ok (.aload_n 0, 1) := by decide +kernel
theorem dX12_judge_23 : decode cX12_judge 23 = .ok (.getfield 79, 3) := by decide +kernel
theorem dX12_judge_26 : decode cX12_judge 26 = .ok (.iload_n 1, 1) := by decide +kernel
theorem dX12_judge_27 : decode cX12_judge 27 = .ok (.iaload, 1) := by decide +kernel
theorem dX12_judge_28 : decode cX12_judge 28 = .ok (.iconst (-1), 1) := by decide +kernel
theorem dX12_judge_29 : decode cX12_judge 29 = .ok (.if_icmp .ne 6, 3) := by decide +kernel
theorem dX12_judge_32 : decode cX12_judge 32 = .ok (.bipush (-6), 2) := by decide +kernel
theorem dX12_judge_34 : decode cX12_judge 34 = .ok (.ireturn, 1) := by decide +kernel
theorem dX12_judge_19 : decode cX12_judge 19 = .ok (.bipush (-2), 2) := by decide +kernel
theorem dX12_judge_21 : decode cX12_judge 21 = .ok (.ireturn, 1) := by decide +kernel
theorem dX12_spare_0 : decode cX12_spare 0 = .ok (.iload_n 1, 1) := by decide +kernel
theorem dX12_spare_1 : decode cX12_spare 1 = .ok (.invokestatic 239, 3) := by decide +kernel
theorem dX12_spare_4 : decode cX12_spare 4 = .ok (.ifCond .eq 15, 3) := by decide +kernel
theorem dX12_spare_7 : decode cX12_spare 7 = .ok (.iload_n 2, 1) := by decide +kernel
theorem dX12_spare_8 : decode cX12_spare 8 = .ok (.i2l, 1) := by decide +kernel
theorem dX12_spare_9 : decode cX12_spare 9 = .ok (.lconst 1, 1) := by decide +kernel
theorem dX12_spare_10 : decode cX12_spare 10 = .ok (.ldc2_w 394, 3) := by decide +kernel
theorem dX12_spare_13 : decode cX12_spare 13 = .ok (.invokestatic 98, 3) := by decide +kernel
theorem dX12_spare_16 : decode cX12_spare 16 = .ok (.ifCond .ne 6, 3) := by decide +kernel
theorem dX12_spare_22 : decode cX12_spare 22 = .ok (.aload_n 0, 1) := by decide +kernel
theorem dX12_spare_23 : decode cX12_spare 23 = .ok (.iload_n 1, 1) := by decide +kernel
theorem dX12_spare_24 : decode cX12_spare 24 = .ok (.invokevirtual 271, 3) := by decide +kernel
theorem dX12_spare_27 : decode cX12_spare 27 = .ok (.aload_n 0, 1) := by decide +kernel
theorem dX12_spare_28 : decode cX12_spare 28 = .ok (.aload_n 0, 1) := by decide +kernel
theorem dX12_spare_29 : decode cX12_spare 29 = .ok (.getfield 46, 3) := by decide +kernel
theorem dX12_spare_32 : decode cX12_spare 32 = .ok (.iconst 1, 1) := by decide +kernel
theorem dX12_spare_33 : decode cX12_spare 33 = .ok (.invokevirtual 260, 3) := by decide +kernel
theorem dX12_spare_36 : decode cX12_spare 36 = .ok (.aload_n 0, 1) := by decide +kernel
theorem dX12_spare_37 : decode cX12_spare 37 = .ok (.invokevirtual 314, 3) := by decide +kernel
theorem dX12_spare_40 : decode cX12_spare 40 = .ok (.iconst (-1), 1) := by decide +kernel
theorem dX12_spare_41 : decode cX12_spare 41 = .ok (.if_icmp .ne 6, 3) := by decide +kernel
theorem dX12_spare_47 : decode cX12_spare 47 = .ok (.iconst (-1), 1) := by decide +kernel
theorem dX12_spare_48 : decode cX12_spare 48 = .ok (.istore_n 3, 1) := by decide +kernel
theorem dX12_spare_49 : decode cX12_spare 49 = .ok (.iconst 0, 1) := by decide +kernel
theorem dX12_spare_50 : decode cX12_spare 50 = .ok (.istore 4, 2) := by decide +kernel
theorem dX12_spare_52 : decode cX12_spare 52 = .ok (.iload 4, 2) := by decide +kernel
theorem dX12_spare_54 : decode cX12_spare 54 = .ok (.aload_n 0, 1) := by decide +kernel
theorem dX12_spare_55 : decode cX12_spare 55 = .ok (.invokevirtual 106, 3) := by decide +kernel
theorem dX12_spare_58 : decode cX12_spare 58 = .ok (.if_icmp .ge 69, 3) := by decide +kernel
theorem dX12_spare_61 : decode cX12_spare 61 = .ok (.iload 4, 2) := by decide +kernel
theorem dX12_spare_63 : decode cX12_spare 63 = .ok (.iconst 1, 1) := by decide +kernel
theorem dX12_spare_64 : decode cX12_spare 64 = .ok (.iadd, 1) := by decide +kernel
theorem dX12_spare_65 : decode cX12_spare 65 = .ok (.istore 5, 2) := by decide +kernel
theorem dX12_spare_67 : decode cX12_spare 67 = .ok (.iload 5, 2) := by decide +kernel
theorem dX12_spare_69 : decode cX12_spare 69 = .ok (.aload_n 0, 1) := by decide +kernel
theorem dX12_spare_70 : decode cX12_spare 70 = .ok (.invokevirtual 106, 3) := by decide +kernel
theorem dX12_spare_73 : decode cX12_spare 73 = .ok (.if_icmp .ge 48, 3) := by decide +kernel
theorem dX12_spare_76 : decode cX12_spare 76 = .ok (.aload_n 0, 1) := by decide +kernel
theorem dX12_spare_77 : decode cX12_spare 77 = .ok (.iload 4, 2) := by decide +kernel
theorem dX12_spare_79 : decode cX12_spare 79 = .ok (.iload 5, 2) := by decide +kernel
theorem dX12_spare_81 : decode cX12_spare 81 = .ok (.iload_n 2, 1) := by decide +kernel
theorem dX12_spare_82 : decode cX12_spare 82 = .ok (.invokevirtual 396, 3) := by decide +kernel
theorem dX12_sparesBy_0 : decode cX12_sparesBy 0 = .ok (.iconst 0, 1) := by decide +kernel
theorem dX12_sparesBy_1 : decode cX12_sparesBy 1 = .ok (.istore 4, 2) := by decide +kernel
theorem dX12_sparesBy_3 : decode cX12_sparesBy 3 = .ok (.iconst 0, 1) := by decide +kernel
theorem dX12_sparesBy_4 : decode cX12_sparesBy 4 = .ok (.istore 5, 2) := by decide +kernel
theorem dX12_sparesBy_6 : decode cX12_sparesBy 6 = .ok (.iload 5, 2) := by decide +kernel
theorem dX12_sparesBy_8 : decode cX12_sparesBy 8 = .ok (.aload_n 0, 1) := by decide +kernel
theorem dX12_sparesBy_9 : decode cX12_sparesBy 9 = .ok (.invokevirtual 109, 3) := by decide +kernel
theorem dX12_sparesBy_12 : decode cX12_sparesBy 12 = .ok (.if_icmp .ge 121, 3) := by decide +kernel
theorem dX12_sparesBy_133 : decode cX12_sparesBy 133 = .ok (.iload 4, 2) := by decide +kernel
theorem dX12_sparesBy_135 : decode cX12_sparesBy 135 = .ok (.ireturn, 1) := by decide +kernel
theorem dX12_spare_85 : decode cX12_spare 85 = .ok (.istore 6, 2) := by decide +kernel
theorem dX12_spare_87 : decode cX12_spare 87 = .ok (.iload 6, 2) := by decide +kernel
theorem dX12_spare_89 : decode cX12_spare 89 = .ok (.iload_n 3, 1) := by decide +kernel
theorem dX12_spare_90 : decode cX12_spare 90 = .ok (.if_icmp .gt 6, 3) := by decide +kernel
theorem dX12_spare_96 : decode cX12_spare 96 = .ok (.iload 6, 2) := by decide +kernel
theorem dX12_spare_98 : decode cX12_spare 98 = .ok (.istore_n 3, 1) := by decide +kernel
theorem dX12_spare_99 : decode cX12_spare 99 = .ok (.aload_n 0, 1) := by decide +kernel
theorem dX12_spare_100 : decode cX12_spare 100 = .ok (.getfield 76, 3) := by decide +kernel
theorem dX12_spare_103 : decode cX12_spare 103 = .ok (.iconst 0, 1) := by decide +kernel
theorem dX12_spare_104 : decode cX12_spare 104 = .ok (.iload 4, 2) := by decide +kernel
theorem dX12_spare_106 : decode cX12_spare 106 = .ok (.iastore, 1) := by decide +kernel
theorem dX12_spare_107 : decode cX12_spare 107 = .ok (.aload_n 0, 1) := by decide +kernel
theorem dX12_spare_108 : decode cX12_spare 108 = .ok (.getfield 76, 3) := by decide +kernel
theorem dX12_spare_111 : decode cX12_spare 111 = .ok (.iconst 1, 1) := by decide +kernel
theorem dX12_spare_112 : decode cX12_spare 112 = .ok (.iload 5, 2) := by decide +kernel
theorem dX12_spare_114 : decode cX12_spare 114 = .ok (.iastore, 1) := by decide +kernel
theorem dX12_spare_115 : decode cX12_spare 115 = .ok (.iinc 5 1, 3) := by decide +kernel
theorem dX12_spare_118 : decode cX12_spare 118 = .ok (.goto (-51), 3) := by decide +kernel
theorem dX12_spare_121 : decode cX12_spare 121 = .ok (.iinc 4 1, 3) := by decide +kernel
theorem dX12_spare_124 : decode cX12_spare 124 = .ok (.goto (-72), 3) := by decide +kernel
theorem dX12_spare_127 : decode cX12_spare 127 = .ok (.aload_n 0, 1) := by decide +kernel
theorem dX12_spare_128 : decode cX12_spare 128 = .ok (.iconst 1, 1) := by decide +kernel
theorem dX12_spare_129 : decode cX12_spare 129 = .ok (.putfield 400, 3) := by decide +kernel
theorem dX12_spare_132 : decode cX12_spare 132 = .ok (.iload_n 3, 1) := by decide +kernel
theorem dX12_spare_133 : decode cX12_spare 133 = .ok (.ireturn, 1) := by decide +kernel
theorem dX12_spare_19 : decode cX12_spare 19 = .ok (.bipush (-2), 2) := by decide +kernel
theorem dX12_spare_21 : decode cX12_spare 21 = .ok (.ireturn, 1) := by decide +kernel
theorem dX12_spared_0 : decode cX12_spared 0 = .ok (.aload_n 0, 1) := by decide +kernel
theorem dX12_spared_1 : decode cX12_spared 1 = .ok (.getfield 400, 3) := by decide +kernel
theorem dX12_spared_4 : decode cX12_spared 4 = .ok (.ifCond .eq 22, 3) := by decide +kernel
theorem dX12_spared_26 : decode cX12_spared 26 = .ok (.iconst (-1), 1) := by decide +kernel
theorem dX12_spared_27 : decode cX12_spared 27 = .ok (.ireturn, 1) := by decide +kernel
theorem dX12_alley_0 : decode cX12_alley 0 = .ok (.aload_n 0, 1) := by decide +kernel
theorem dX12_alley_1 : decode cX12_alley 1 = .ok (.iload_n 1, 1) := by decide +kernel
theorem dX12_alley_2 : decode cX12_alley 2 = .ok (.invokevirtual 243, 3) := by decide +kernel
theorem dX12_alley_5 : decode cX12_alley 5 = .ok (.ifCond .eq 24, 3) := by decide +kernel
theorem dX12_alley_29 : decode cX12_alley 29 = .ok (.ldc_w 405, 3) := by decide +kernel
theorem dX12_alley_32 : decode cX12_alley 32 = .ok (.ireturn, 1) := by decide +kernel
theorem dX12_street_0 : decode cX12_street 0 = .ok (.iload_n 1, 1) := by decide +kernel
theorem dX12_street_1 : decode cX12_street 1 = .ok (.i2l, 1) := by decide +kernel
theorem dX12_street_2 : decode cX12_street 2 = .ok (.lconst 0, 1) := by decide +kernel
theorem dX12_street_3 : decode cX12_street 3 = .ok (.aload_n 0, 1) := by decide +kernel
theorem dX12_street_4 : decode cX12_street 4 = .ok (.getfield 13, 3) := by decide +kernel
theorem dX12_street_7 : decode cX12_street 7 = .ok (.iconst 5, 1) := by decide +kernel
theorem dX12_street_8 : decode cX12_street 8 = .ok (.iaload, 1) := by decide +kernel
theorem dX12_street_9 : decode cX12_street 9 = .ok (.iconst 1, 1) := by decide +kernel
theorem dX12_street_10 : decode cX12_street 10 = .ok (.isub, 1) := by decide +kernel
theorem dX12_street_11 : decode cX12_street 11 = .ok (.i2l, 1) := by decide +kernel
theorem dX12_street_12 : decode cX12_street 12 = .ok (.invokestatic 98, 3) := by decide +kernel
theorem dX12_street_15 : decode cX12_street 15 = .ok (.ifCond .ne 5, 3) := by decide +kernel
theorem dX12_street_18 : decode cX12_street 18 = .ok (.iconst (-1), 1) := by decide +kernel
theorem dX12_street_19 : decode cX12_street 19 = .ok (.ireturn, 1) := by decide +kernel
theorem dX12_journey_0 : decode cX12_journey 0 = .ok (.aload_n 0, 1) := by decide +kernel
theorem dX12_journey_1 : decode cX12_journey 1 = .ok (.iload_n 1, 1) := by decide +kernel
theorem dX12_journey_2 : decode cX12_journey 2 = .ok (.invokevirtual 301, 3) := by decide +kernel
theorem dX12_journey_5 : decode cX12_journey 5 = .ok (.ifCond .eq 15, 3) := by decide +kernel
theorem dX12_journey_20 : decode cX12_journey 20 = .ok (.ldc_w 405, 3) := by decide +kernel
theorem dX12_journey_23 : decode cX12_journey 23 = .ok (.ireturn, 1) := by decide +kernel
theorem dX12_count_0 : decode cX12_count 0 = .ok (.iconst 0, 1) := by decide +kernel
theorem dX12_count_1 : decode cX12_count 1 = .ok (.istore_n 2, 1) := by decide +kernel
theorem dX12_count_2 : decode cX12_count 2 = .ok (.iload_n 1, 1) := by decide +kernel
theorem dX12_count_3 : decode cX12_count 3 = .ok (.tableswitch 176 0 11 #[61, 68, 73, 78, 83, 110, 115, 115, 124, 131, 164, 171], 61) := by decide +kernel
theorem dX12_count_179 : decode cX12_count 179 = .ok (.iconst (-1), 1) := by decide +kernel
theorem dX12_count_180 : decode cX12_count 180 = .ok (.ireturn, 1) := by decide +kernel
theorem dX12_count_64 : decode cX12_count 64 = .ok (.aload_n 0, 1) := by decide +kernel
theorem dX12_count_65 : decode cX12_count 65 = .ok (.getfield 13, 3) := by decide +kernel
theorem dX12_count_68 : decode cX12_count 68 = .ok (.iconst 0, 1) := by decide +kernel
theorem dX12_count_69 : decode cX12_count 69 = .ok (.iaload, 1) := by decide +kernel
theorem dX12_count_70 : decode cX12_count 70 = .ok (.ireturn, 1) := by decide +kernel
theorem dX12_count_71 : decode cX12_count 71 = .ok (.aload_n 0, 1) := by decide +kernel
theorem dX12_count_72 : decode cX12_count 72 = .ok (.invokevirtual 106, 3) := by decide +kernel
theorem dX12_count_75 : decode cX12_count 75 = .ok (.ireturn, 1) := by decide +kernel
theorem dX12_count_76 : decode cX12_count 76 = .ok (.aload_n 0, 1) := by decide +kernel
theorem dX12_count_77 : decode cX12_count 77 = .ok (.invokevirtual 102, 3) := by decide +kernel
theorem dX12_count_80 : decode cX12_count 80 = .ok (.ireturn, 1) := by decide +kernel
theorem dX12_count_81 : decode cX12_count 81 = .ok (.aload_n 0, 1) := by decide +kernel
theorem dX12_count_82 : decode cX12_count 82 = .ok (.invokevirtual 109, 3) := by decide +kernel
theorem dX12_count_85 : decode cX12_count 85 = .ok (.ireturn, 1) := by decide +kernel
theorem dX12_count_86 : decode cX12_count 86 = .ok (.iconst 0, 1) := by decide +kernel
theorem dX12_count_87 : decode cX12_count 87 = .ok (.istore_n 3, 1) := by decide +kernel
theorem dX12_count_88 : decode cX12_count 88 = .ok (.iload_n 3, 1) := by decide +kernel
theorem dX12_count_89 : decode cX12_count 89 = .ok (.aload_n 0, 1) := by decide +kernel
theorem dX12_count_90 : decode cX12_count 90 = .ok (.invokevirtual 102, 3) := by decide +kernel
theorem dX12_count_93 : decode cX12_count 93 = .ok (.if_icmp .ge 18, 3) := by decide +kernel
theorem dX12_count_111 : decode cX12_count 111 = .ok (.iload_n 2, 1) := by decide +kernel
theorem dX12_count_112 : decode cX12_count 112 = .ok (.ireturn, 1) := by decide +kernel
theorem dX12_count_113 : decode cX12_count 113 = .ok (.aload_n 0, 1) := by decide +kernel
theorem dX12_count_114 : decode cX12_count 114 = .ok (.getfield 112, 3) := by decide +kernel
theorem dX12_count_117 : decode cX12_count 117 = .ok (.ireturn, 1) := by decide +kernel
theorem dX12_count_118 : decode cX12_count 118 = .ok (.aload_n 0, 1) := by decide +kernel
theorem dX12_count_119 : decode cX12_count 119 = .ok (.iload_n 1, 1) := by decide +kernel
theorem dX12_count_120 : decode cX12_count 120 = .ok (.bipush 6, 2) := by decide +kernel
theorem dX12_count_122 : decode cX12_count 122 = .ok (.isub, 1) := by decide +kernel
theorem dX12_count_123 : decode cX12_count 123 = .ok (.invokevirtual 406, 3) := by decide +kernel
theorem dX12_openOf_0 : decode cX12_openOf 0 = .ok (.iconst 0, 1) := by decide +kernel
theorem dX12_openOf_1 : decode cX12_openOf 1 = .ok (.istore_n 2, 1) := by decide +kernel
theorem dX12_openOf_2 : decode cX12_openOf 2 = .ok (.iconst 0, 1) := by decide +kernel
theorem dX12_openOf_3 : decode cX12_openOf 3 = .ok (.istore_n 3, 1) := by decide +kernel
theorem dX12_openOf_4 : decode cX12_openOf 4 = .ok (.iload_n 3, 1) := by decide +kernel
theorem dX12_openOf_5 : decode cX12_openOf 5 = .ok (.aload_n 0, 1) := by decide +kernel
theorem dX12_openOf_6 : decode cX12_openOf 6 = .ok (.invokevirtual 102, 3) := by decide +kernel
theorem dX12_openOf_9 : decode cX12_openOf 9 = .ok (.if_icmp .ge 26, 3) := by decide +kernel
theorem dX12_openOf_35 : decode cX12_openOf 35 = .ok (.iload_n 2, 1) := by decide +kernel
theorem dX12_openOf_36 : decode cX12_openOf 36 = .ok (.ireturn, 1) := by decide +kernel
theorem dX12_count_126 : decode cX12_count 126 = .ok (.ireturn, 1) := by decide +kernel
theorem dX12_count_127 : decode cX12_count 127 = .ok (.aload_n 0, 1) := by decide +kernel
theorem dX12_count_128 : decode cX12_count 128 = .ok (.getfield 13, 3) := by decide +kernel
theorem dX12_count_131 : decode cX12_count 131 = .ok (.iconst 4, 1) := by decide +kernel
theorem dX12_count_132 : decode cX12_count 132 = .ok (.iaload, 1) := by decide +kernel
theorem dX12_count_133 : decode cX12_count 133 = .ok (.ireturn, 1) := by decide +kernel
theorem dX12_count_134 : decode cX12_count 134 = .ok (.iconst 0, 1) := by decide +kernel
theorem dX12_count_135 : decode cX12_count 135 = .ok (.istore_n 3, 1) := by decide +kernel
theorem dX12_count_136 : decode cX12_count 136 = .ok (.iload_n 3, 1) := by decide +kernel
theorem dX12_count_137 : decode cX12_count 137 = .ok (.iconst 4, 1) := by decide +kernel
theorem dX12_count_138 : decode cX12_count 138 = .ok (.if_icmp .ge 27, 3) := by decide +kernel
theorem dX12_count_141 : decode cX12_count 141 = .ok (.iload_n 2, 1) := by decide +kernel
theorem dX12_count_142 : decode cX12_count 142 = .ok (.aload_n 0, 1) := by decide +kernel
theorem dX12_count_143 : decode cX12_count 143 = .ok (.getfield 79, 3) := by decide +kernel
theorem dX12_count_146 : decode cX12_count 146 = .ok (.iload_n 3, 1) := by decide +kernel
theorem dX12_count_147 : decode cX12_count 147 = .ok (.iaload, 1) := by decide +kernel
theorem dX12_count_148 : decode cX12_count 148 = .ok (.iconst (-1), 1) := by decide +kernel
theorem dX12_count_149 : decode cX12_count 149 = .ok (.if_icmp .ne 7, 3) := by decide +kernel
theorem dX12_count_152 : decode cX12_count 152 = .ok (.iconst 0, 1) := by decide +kernel
theorem dX12_count_153 : decode cX12_count 153 = .ok (.goto 4, 3) := by decide +kernel
theorem dX12_count_157 : decode cX12_count 157 = .ok (.iadd, 1) := by decide +kernel
theorem dX12_count_158 : decode cX12_count 158 = .ok (.istore_n 2, 1) := by decide +kernel
theorem dX12_count_159 : decode cX12_count 159 = .ok (.iinc 3 1, 3) := by decide +kernel
theorem dX12_count_162 : decode cX12_count 162 = .ok (.goto (-26), 3) := by decide +kernel
theorem dX12_count_165 : decode cX12_count 165 = .ok (.iload_n 2, 1) := by decide +kernel
theorem dX12_count_166 : decode cX12_count 166 = .ok (.ireturn, 1) := by decide +kernel
theorem dX12_count_167 : decode cX12_count 167 = .ok (.aload_n 0, 1) := by decide +kernel
theorem dX12_count_168 : decode cX12_count 168 = .ok (.getfield 13, 3) := by decide +kernel
theorem dX12_count_171 : decode cX12_count 171 = .ok (.iconst 5, 1) := by decide +kernel
theorem dX12_count_172 : decode cX12_count 172 = .ok (.iaload, 1) := by decide +kernel
theorem dX12_count_173 : decode cX12_count 173 = .ok (.ireturn, 1) := by decide +kernel
theorem dX12_count_174 : decode cX12_count 174 = .ok (.aload_n 0, 1) := by decide +kernel
theorem dX12_count_175 : decode cX12_count 175 = .ok (.invokevirtual 409, 3) := by decide +kernel
theorem dX12_gridAlleys_0 : decode cX12_gridAlleys 0 = .ok (.aload_n 0, 1) := by decide +kernel
theorem dX12_gridAlleys_1 : decode cX12_gridAlleys 1 = .ok (.getfield 13, 3) := by decide +kernel
theorem dX12_gridAlleys_4 : decode cX12_gridAlleys 4 = .ok (.bipush 6, 2) := by decide +kernel
theorem dX12_gridAlleys_6 : decode cX12_gridAlleys 6 = .ok (.iaload, 1) := by decide +kernel
theorem dX12_gridAlleys_7 : decode cX12_gridAlleys 7 = .ok (.ifCond .ne 7, 3) := by decide +kernel
theorem dX12_gridAlleys_10 : decode cX12_gridAlleys 10 = .ok (.iconst 0, 1) := by decide +kernel
theorem dX12_gridAlleys_11 : decode cX12_gridAlleys 11 = .ok (.goto 38, 3) := by decide +kernel
theorem dX12_gridAlleys_49 : decode cX12_gridAlleys 49 = .ok (.ireturn, 1) := by decide +kernel
theorem dX12_count_178 : decode cX12_count 178 = .ok (.ireturn, 1) := by decide +kernel
theorem dX12_keep_0 : decode cX12_keep 0 = .ok (.iload_n 1, 1) := by decide +kernel
theorem dX12_keep_1 : decode cX12_keep 1 = .ok (.i2l, 1) := by decide +kernel
theorem dX12_keep_2 : decode cX12_keep 2 = .ok (.lconst 0, 1) := by decide +kernel
theorem dX12_keep_3 : decode cX12_keep 3 = .ok (.ldc2_w 96, 3) := by decide +kernel
theorem dX12_keep_6 : decode cX12_keep 6 = .ok (.invokestatic 98, 3) := by decide +kernel
theorem dX12_keep_9 : decode cX12_keep 9 = .ok (.ifCond .ne 6, 3) := by decide +kernel
theorem dX12_keep_15 : decode cX12_keep 15 = .ok (.iconst 0, 1) := by decide +kernel
theorem dX12_keep_16 : decode cX12_keep 16 = .ok (.istore_n 2, 1) := by decide +kernel
theorem dX12_keep_17 : decode cX12_keep 17 = .ok (.iload_n 2, 1) := by decide +kernel
theorem dX12_keep_18 : decode cX12_keep 18 = .ok (.sipush 304, 3) := by decide +kernel
theorem dX12_keep_21 : decode cX12_keep 21 = .ok (.if_icmp .ge 27, 3) := by decide +kernel
theorem dX12_keep_24 : decode cX12_keep 24 = .ok (.aload_n 0, 1) := by decide +kernel
theorem dX12_keep_25 : decode cX12_keep 25 = .ok (.getfield 17, 3) := by decide +kernel
theorem dX12_keep_28 : decode cX12_keep 28 = .ok (.sipush 304, 3) := by decide +kernel
theorem dX12_keep_31 : decode cX12_keep 31 = .ok (.iload_n 1, 1) := by decide +kernel
theorem dX12_keep_32 : decode cX12_keep 32 = .ok (.imul, 1) := by decide +kernel
theorem dX12_keep_33 : decode cX12_keep 33 = .ok (.iload_n 2, 1) := by decide +kernel
theorem dX12_keep_34 : decode cX12_keep 34 = .ok (.iadd, 1) := by decide +kernel
theorem dX12_keep_35 : decode cX12_keep 35 = .ok (.aload_n 0, 1) := by decide +kernel
theorem dX12_keep_36 : decode cX12_keep 36 = .ok (.getfield 13, 3) := by decide +kernel
theorem dX12_keep_39 : decode cX12_keep 39 = .ok (.iload_n 2, 1) := by decide +kernel
theorem dX12_keep_40 : decode cX12_keep 40 = .ok (.iaload, 1) := by decide +kernel
theorem dX12_keep_41 : decode cX12_keep 41 = .ok (.iastore, 1) := by decide +kernel
theorem dX12_keep_42 : decode cX12_keep 42 = .ok (.iinc 2 1, 3) := by decide +kernel
theorem dX12_keep_45 : decode cX12_keep 45 = .ok (.goto (-28), 3) := by decide +kernel
theorem dX12_keep_48 : decode cX12_keep 48 = .ok (.aload_n 0, 1) := by decide +kernel
theorem dX12_keep_49 : decode cX12_keep 49 = .ok (.getfield 20, 3) := by decide +kernel
theorem dX12_keep_52 : decode cX12_keep 52 = .ok (.iload_n 1, 1) := by decide +kernel
theorem dX12_keep_53 : decode cX12_keep 53 = .ok (.iconst 1, 1) := by decide +kernel
theorem dX12_keep_54 : decode cX12_keep 54 = .ok (.bastore, 1) := by decide +kernel
theorem dX12_keep_55 : decode cX12_keep 55 = .ok (.iconst 0, 1) := by decide +kernel
theorem dX12_keep_56 : decode cX12_keep 56 = .ok (.ireturn, 1) := by decide +kernel
theorem dX12_keep_12 : decode cX12_keep 12 = .ok (.bipush (-2), 2) := by decide +kernel
theorem dX12_keep_14 : decode cX12_keep 14 = .ok (.ireturn, 1) := by decide +kernel
theorem dX12_back_0 : decode cX12_back 0 = .ok (.iload_n 1, 1) := by decide +kernel
theorem dX12_back_1 : decode cX12_back 1 = .ok (.i2l, 1) := by decide +kernel
theorem dX12_back_2 : decode cX12_back 2 = .ok (.lconst 0, 1) := by decide +kernel
theorem dX12_back_3 : decode cX12_back 3 = .ok (.ldc2_w 96, 3) := by decide +kernel
theorem dX12_back_6 : decode cX12_back 6 = .ok (.invokestatic 98, 3) := by decide +kernel
theorem dX12_back_9 : decode cX12_back 9 = .ok (.ifCond .ne 6, 3) := by decide +kernel
theorem dX12_back_15 : decode cX12_back 15 = .ok (.aload_n 0, 1) := by decide +kernel
theorem dX12_back_16 : decode cX12_back 16 = .ok (.getfield 20, 3) := by decide +kernel
theorem dX12_back_19 : decode cX12_back 19 = .ok (.iload_n 1, 1) := by decide +kernel
theorem dX12_back_20 : decode cX12_back 20 = .ok (.baload, 1) := by decide +kernel
theorem dX12_back_21 : decode cX12_back 21 = .ok (.ifCond .ne 6, 3) := by decide +kernel
theorem dX12_back_24 : decode cX12_back 24 = .ok (.bipush (-6), 2) := by decide +kernel
theorem dX12_back_26 : decode cX12_back 26 = .ok (.ireturn, 1) := by decide +kernel
theorem dX12_back_12 : decode cX12_back 12 = .ok (.bipush (-2), 2) := by decide +kernel
theorem dX12_back_14 : decode cX12_back 14 = .ok (.ireturn, 1) := by decide +kernel
theorem dX12_row_0 : decode cX12_row 0 = .ok (.iload_n 1, 1) := by decide +kernel
theorem dX12_row_1 : decode cX12_row 1 = .ok (.invokestatic 252, 3) := by decide +kernel
theorem dX12_row_4 : decode cX12_row 4 = .ok (.ifCond .eq 21, 3) := by decide +kernel
theorem dX12_row_7 : decode cX12_row 7 = .ok (.iload_n 2, 1) := by decide +kernel
theorem dX12_row_8 : decode cX12_row 8 = .ok (.i2l, 1) := by decide +kernel
theorem dX12_row_9 : decode cX12_row 9 = .ok (.lconst 0, 1) := by decide +kernel
theorem dX12_row_10 : decode cX12_row 10 = .ok (.ldc2_w 233, 3) := by decide +kernel
theorem dX12_row_13 : decode cX12_row 13 = .ok (.invokestatic 98, 3) := by decide +kernel
theorem dX12_row_16 : decode cX12_row 16 = .ok (.ifCond .eq 9, 3) := by decide +kernel
theorem dX12_row_19 : decode cX12_row 19 = .ok (.iload_n 3, 1) := by decide +kernel
theorem dX12_row_20 : decode cX12_row 20 = .ok (.bipush 60, 2) := by decide +kernel
theorem dX12_row_22 : decode cX12_row 22 = .ok (.if_icmp .le 6, 3) := by decide +kernel
theorem dX12_row_28 : decode cX12_row 28 = .ok (.iload_n 3, 1) := by decide +kernel
theorem dX12_row_29 : decode cX12_row 29 = .ok (.ifCond .ge 6, 3) := by decide +kernel
theorem dX12_row_35 : decode cX12_row 35 = .ok (.aload_n 0, 1) := by decide +kernel
theorem dX12_row_36 : decode cX12_row 36 = .ok (.getfield 79, 3) := by decide +kernel
theorem dX12_row_39 : decode cX12_row 39 = .ok (.iload_n 1, 1) := by decide +kernel
theorem dX12_row_40 : decode cX12_row 40 = .ok (.iload_n 3, 1) := by decide +kernel
theorem dX12_row_41 : decode cX12_row 41 = .ok (.iastore, 1) := by decide +kernel
theorem dX12_row_42 : decode cX12_row 42 = .ok (.aload_n 0, 1) := by decide +kernel
theorem dX12_row_43 : decode cX12_row 43 = .ok (.getfield 82, 3) := by decide +kernel
theorem dX12_row_46 : decode cX12_row 46 = .ok (.iload_n 1, 1) := by decide +kernel
theorem dX12_row_47 : decode cX12_row 47 = .ok (.iload_n 2, 1) := by decide +kernel
theorem dX12_row_48 : decode cX12_row 48 = .ok (.iastore, 1) := by decide +kernel
theorem dX12_row_49 : decode cX12_row 49 = .ok (.iconst 0, 1) := by decide +kernel
theorem dX12_row_50 : decode cX12_row 50 = .ok (.istore 4, 2) := by decide +kernel
theorem dX12_row_52 : decode cX12_row 52 = .ok (.iload 4, 2) := by decide +kernel
theorem dX12_row_54 : decode cX12_row 54 = .ok (.bipush 60, 2) := by decide +kernel
theorem dX12_row_56 : decode cX12_row 56 = .ok (.if_icmp .ge 22, 3) := by decide +kernel
theorem dX12_row_59 : decode cX12_row 59 = .ok (.aload_n 0, 1) := by decide +kernel
theorem dX12_row_60 : decode cX12_row 60 = .ok (.getfield 85, 3) := by decide +kernel
theorem dX12_row_63 : decode cX12_row 63 = .ok (.bipush 60, 2) := by decide +kernel
theorem dX12_row_65 : decode cX12_row 65 = .ok (.iload_n 1, 1) := by decide +kernel
theorem dX12_row_66 : decode cX12_row 66 = .ok (.imul, 1) := by decide +kernel
theorem dX12_row_67 : decode cX12_row 67 = .ok (.iload 4, 2) := by decide +kernel
theorem dX12_row_69 : decode cX12_row 69 = .ok (.iadd, 1) := by decide +kernel
theorem dX12_row_70 : decode cX12_row 70 = .ok (.lconst 0, 1) := by decide +kernel
theorem dX12_row_71 : decode cX12_row 71 = .ok (.lastore, 1) := by decide +kernel
theorem dX12_row_72 : decode cX12_row 72 = .ok (.iinc 4 1, 3) := by decide +kernel
theorem dX12_row_75 : decode cX12_row 75 = .ok (.goto (-23), 3) := by decide +kernel
theorem dX12_row_78 : decode cX12_row 78 = .ok (.iconst 0, 1) := by decide +kernel
theorem dX12_row_79 : decode cX12_row 79 = .ok (.ireturn, 1) := by decide +kernel
theorem dX12_row_32 : decode cX12_row 32 = .ok (.bipush (-3), 2) := by decide +kernel
theorem dX12_row_34 : decode cX12_row 34 = .ok (.ireturn, 1) := by decide +kernel
theorem dX12_row_25 : decode cX12_row 25 = .ok (.bipush (-2), 2) := by decide +kernel
theorem dX12_row_27 : decode cX12_row 27 = .ok (.ireturn, 1) := by decide +kernel
theorem dX12_write_0 : decode cX12_write 0 = .ok (.iload_n 1, 1) := by decide +kernel
theorem dX12_write_1 : decode cX12_write 1 = .ok (.invokestatic 252, 3) := by decide +kernel
theorem dX12_write_4 : decode cX12_write 4 = .ok (.ifCond .ne 6, 3) := by decide +kernel
theorem dX12_write_10 : decode cX12_write 10 = .ok (.aload_n 0, 1) := by decide +kernel
theorem dX12_write_11 : decode cX12_write 11 = .ok (.getfield 79, 3) := by decide +kernel
theorem dX12_write_14 : decode cX12_write 14 = .ok (.iload_n 1, 1) := by decide +kernel
theorem dX12_write_15 : decode cX12_write 15 = .ok (.iaload, 1) := by decide +kernel
theorem dX12_write_16 : decode cX12_write 16 = .ok (.iconst (-1), 1) := by decide +kernel
theorem dX12_write_17 : decode cX12_write 17 = .ok (.if_icmp .ne 6, 3) := by decide +kernel
theorem dX12_write_20 : decode cX12_write 20 = .ok (.bipush (-6), 2) := by decide +kernel
theorem dX12_write_22 : decode cX12_write 22 = .ok (.ireturn, 1) := by decide +kernel
theorem dX12_write_7 : decode cX12_write 7 = .ok (.bipush (-2), 2) := by decide +kernel
theorem dX12_write_9 : decode cX12_write 9 = .ok (.ireturn, 1) := by decide +kernel
theorem dX12_paste_0 : decode cX12_paste 0 = .ok (.iload_n 1, 1) := by decide +kernel
theorem dX12_paste_1 : decode cX12_paste 1 = .ok (.invokestatic 252, 3) := by decide +kernel
theorem dX12_paste_4 : decode cX12_paste 4 = .ok (.ifCond .eq 10, 3) := by decide +kernel
theorem dX12_paste_7 : decode cX12_paste 7 = .ok (.iload_n 3, 1) := by decide +kernel
theorem dX12_paste_8 : decode cX12_paste 8 = .ok (.invokestatic 252, 3) := by decide +kernel
theorem dX12_paste_11 : decode cX12_paste 11 = .ok (.ifCond .ne 6, 3) := by decide +kernel
theorem dX12_paste_17 : decode cX12_paste 17 = .ok (.aload_n 0, 1) := by decide +kernel
theorem dX12_paste_18 : decode cX12_paste 18 = .ok (.getfield 79, 3) := by decide +kernel
theorem dX12_paste_21 : decode cX12_paste 21 = .ok (.iload_n 1, 1) := by decide +kernel
theorem dX12_paste_22 : decode cX12_paste 22 = .ok (.iaload, 1) := by decide +kernel
theorem dX12_paste_23 : decode cX12_paste 23 = .ok (.iconst (-1), 1) := by decide +kernel
theorem dX12_paste_24 : decode cX12_paste 24 = .ok (.if_icmp .eq 13, 3) := by decide +kernel
theorem dX12_paste_37 : decode cX12_paste 37 = .ok (.bipush (-6), 2) := by decide +kernel
theorem dX12_paste_39 : decode cX12_paste 39 = .ok (.ireturn, 1) := by decide +kernel
theorem dX12_paste_14 : decode cX12_paste 14 = .ok (.bipush (-2), 2) := by decide +kernel
theorem dX12_paste_16 : decode cX12_paste 16 = .ok (.ireturn, 1) := by decide +kernel
theorem dJ7_fill_53178_0 : decode cJ7_fill_53178 0 = .ok (.iconst 0, 1) := by decide +kernel
theorem dJ7_fill_53178_1 : decode cJ7_fill_53178 1 = .ok (.istore_n 2, 1) := by decide +kernel
theorem dJ7_fill_53178_2 : decode cJ7_fill_53178 2 = .ok (.aload_n 0, 1) := by decide +kernel
theorem dJ7_fill_53178_3 : decode cJ7_fill_53178 3 = .ok (.arraylength, 1) := by decide +kernel
theorem dJ7_fill_53178_4 : decode cJ7_fill_53178 4 = .ok (.istore_n 3, 1) := by decide +kernel
theorem dJ7_fill_53178_5 : decode cJ7_fill_53178 5 = .ok (.iload_n 2, 1) := by decide +kernel
theorem dJ7_fill_53178_6 : decode cJ7_fill_53178 6 = .ok (.iload_n 3, 1) := by decide +kernel
theorem dJ7_fill_53178_7 : decode cJ7_fill_53178 7 = .ok (.if_icmp .ge 13, 3) := by decide +kernel
theorem dJ7_fill_53178_10 : decode cJ7_fill_53178 10 = .ok (.aload_n 0, 1) := by decide +kernel
theorem dJ7_fill_53178_11 : decode cJ7_fill_53178 11 = .ok (.iload_n 2, 1) := by decide +kernel
theorem dJ7_fill_53178_12 : decode cJ7_fill_53178 12 = .ok (.iload_n 1, 1) := by decide +kernel
theorem dJ7_fill_53178_13 : decode cJ7_fill_53178 13 = .ok (.iastore, 1) := by decide +kernel
theorem dJ7_fill_53178_14 : decode cJ7_fill_53178 14 = .ok (.iinc 2 1, 3) := by decide +kernel
theorem dJ7_fill_53178_17 : decode cJ7_fill_53178 17 = .ok (.goto (-12), 3) := by decide +kernel
theorem dJ7_fill_53178_20 : decode cJ7_fill_53178 20 = .ok (.return_, 1) := by decide +kernel
theorem dJ7_fill_d0a16_0 : decode cJ7_fill_d0a16 0 = .ok (.iconst 0, 1) := by decide +kernel
theorem dJ7_fill_d0a16_1 : decode cJ7_fill_d0a16 1 = .ok (.istore_n 3, 1) := by decide +kernel
theorem dJ7_fill_d0a16_2 : decode cJ7_fill_d0a16 2 = .ok (.aload_n 0, 1) := by decide +kernel
theorem dJ7_fill_d0a16_3 : decode cJ7_fill_d0a16 3 = .ok (.arraylength, 1) := by decide +kernel
theorem dJ7_fill_d0a16_4 : decode cJ7_fill_d0a16 4 = .ok (.istore 4, 2) := by decide +kernel
theorem dJ7_fill_d0a16_6 : decode cJ7_fill_d0a16 6 = .ok (.iload_n 3, 1) := by decide +kernel
theorem dJ7_fill_d0a16_7 : decode cJ7_fill_d0a16 7 = .ok (.iload 4, 2) := by decide +kernel
theorem dJ7_fill_d0a16_9 : decode cJ7_fill_d0a16 9 = .ok (.if_icmp .ge 13, 3) := by decide +kernel
theorem dJ7_fill_d0a16_12 : decode cJ7_fill_d0a16 12 = .ok (.aload_n 0, 1) := by decide +kernel
theorem dJ7_fill_d0a16_13 : decode cJ7_fill_d0a16 13 = .ok (.iload_n 3, 1) := by decide +kernel
theorem dJ7_fill_d0a16_14 : decode cJ7_fill_d0a16 14 = .ok (.lload_n 1, 1) := by decide +kernel
theorem dJ7_fill_d0a16_15 : decode cJ7_fill_d0a16 15 = .ok (.lastore, 1) := by decide +kernel
theorem dJ7_fill_d0a16_16 : decode cJ7_fill_d0a16 16 = .ok (.iinc 3 1, 3) := by decide +kernel
theorem dJ7_fill_d0a16_19 : decode cJ7_fill_d0a16 19 = .ok (.goto (-13), 3) := by decide +kernel
theorem dJ7_fill_d0a16_22 : decode cJ7_fill_d0a16 22 = .ok (.return_, 1) := by decide +kernel
theorem dX12_in_0 : decode cX12_in 0 = .ok (.lload_n 0, 1) := by decide +kernel
theorem dX12_in_1 : decode cX12_in 1 = .ok (.lload_n 2, 1) := by decide +kernel
theorem dX12_in_2 : decode cX12_in 2 = .ok (.lcmp, 1) := by decide +kernel
theorem dX12_in_3 : decode cX12_in 3 = .ok (.ifCond .lt 14, 3) := by decide +kernel
theorem dX12_in_6 : decode cX12_in 6 = .ok (.lload_n 0, 1) := by decide +kernel
theorem dX12_in_7 : decode cX12_in 7 = .ok (.lload 4, 2) := by decide +kernel
theorem dX12_in_9 : decode cX12_in 9 = .ok (.lcmp, 1) := by decide +kernel
theorem dX12_in_10 : decode cX12_in 10 = .ok (.ifCond .gt 7, 3) := by decide +kernel
theorem dX12_in_13 : decode cX12_in 13 = .ok (.iconst 1, 1) := by decide +kernel
theorem dX12_in_14 : decode cX12_in 14 = .ok (.goto 4, 3) := by decide +kernel
theorem dX12_in_17 : decode cX12_in 17 = .ok (.iconst 0, 1) := by decide +kernel
theorem dX12_in_18 : decode cX12_in 18 = .ok (.ireturn, 1) := by decide +kernel
theorem dX12_plain_0 : decode cX12_plain 0 = .ok (.iconst 0, 1) := by decide +kernel
theorem dX12_plain_1 : decode cX12_plain 1 = .ok (.istore_n 1, 1) := by decide +kernel
theorem dX12_plain_2 : decode cX12_plain 2 = .ok (.iload_n 1, 1) := by decide +kernel
theorem dX12_plain_3 : decode cX12_plain 3 = .ok (.sipush 304, 3) := by decide +kernel
theorem dX12_plain_6 : decode cX12_plain 6 = .ok (.if_icmp .ge 13, 3) := by decide +kernel
theorem dX12_plain_9 : decode cX12_plain 9 = .ok (.aload_n 0, 1) := by decide +kernel
theorem dX12_plain_10 : decode cX12_plain 10 = .ok (.iload_n 1, 1) := by decide +kernel
theorem dX12_plain_11 : decode cX12_plain 11 = .ok (.iconst 0, 1) := by decide +kernel
theorem dX12_plain_12 : decode cX12_plain 12 = .ok (.iastore, 1) := by decide +kernel
theorem dX12_plain_13 : decode cX12_plain 13 = .ok (.iinc 1 1, 3) := by decide +kernel
theorem dX12_plain_16 : decode cX12_plain 16 = .ok (.goto (-14), 3) := by decide +kernel
theorem dX12_plain_19 : decode cX12_plain 19 = .ok (.aload_n 0, 1) := by decide +kernel
theorem dX12_plain_20 : decode cX12_plain 20 = .ok (.iconst 1, 1) := by decide +kernel
theorem dX12_plain_21 : decode cX12_plain 21 = .ok (.iconst 2, 1) := by decide +kernel
theorem dX12_plain_22 : decode cX12_plain 22 = .ok (.iastore, 1) := by decide +kernel
theorem dX12_plain_23 : decode cX12_plain 23 = .ok (.aload_n 0, 1) := by decide +kernel
theorem dX12_plain_24 : decode cX12_plain 24 = .ok (.iconst 4, 1) := by decide +kernel
theorem dX12_plain_25 : decode cX12_plain 25 = .ok (.iconst (-1), 1) := by decide +kernel
theorem dX12_plain_26 : decode cX12_plain 26 = .ok (.iastore, 1) := by decide +kernel
theorem dX12_plain_27 : decode cX12_plain 27 = .ok (.return_, 1) := by decide +kernel
