theorem dX11_init_0 : decode cX11_init 0 = .ok (.aload_n 0, 1) := by decide +kernel
theorem dX11_init_1 : decode cX11_init 1 = .ok (.invokespecial 1, 3) := by decide +kernel
theorem dX11_init_4 : decode cX11_init 4 = .ok (.aload_n 0, 1) := by decide +kernel
theorem dX11_init_5 : decode cX11_init 5 = .ok (.sipush 800, 3) := by decide +kernel
theorem dX11_init_8 : decode cX11_init 8 = .ok (.newarray .byte, 2) := by decide +kernel
theorem dX11_init_10 : decode cX11_init 10 = .ok (.putfield 9, 3) := by decide +kernel
theorem dX11_init_13 : decode cX11_init 13 = .ok (.aload_n 0, 1) := by decide +kernel
theorem dX11_init_14 : decode cX11_init 14 = .ok (.iconst 0, 1) := by decide +kernel
theorem dX11_init_15 : decode cX11_init 15 = .ok (.putfield 13, 3) := by decide +kernel
theorem dX11_init_18 : decode cX11_init 18 = .ok (.aload_n 0, 1) := by decide +kernel
theorem dX11_init_19 : decode cX11_init 19 = .ok (.new 17, 3) := by decide +kernel
theorem dX11_init_22 : decode cX11_init 22 = .ok (.dup, 1) := by decide +kernel
theorem dX11_init_23 : decode cX11_init 23 = .ok (.invokespecial 19, 3) := by decide +kernel
theorem dX9_init_0 : decode cX9_init 0 = .ok (.aload_n 0, 1) := by decide +kernel
theorem dX9_init_1 : decode cX9_init 1 = .ok (.invokespecial 3, 3) := by decide +kernel
theorem dX9_init_4 : decode cX9_init 4 = .ok (.aload_n 0, 1) := by decide +kernel
theorem dX9_init_5 : decode cX9_init 5 = .ok (.new 9, 3) := by decide +kernel
theorem dX9_init_8 : decode cX9_init 8 = .ok (.dup, 1) := by decide +kernel
theorem dX9_init_9 : decode cX9_init 9 = .ok (.invokespecial 11, 3) := by decide +kernel
theorem dX7_init_0 : decode cX7_init 0 = .ok (.aload_n 0, 1) := by decide +kernel
theorem dX7_init_1 : decode cX7_init 1 = .ok (.invokespecial 1, 3) := by decide +kernel
theorem dX7_init_4 : decode cX7_init 4 = .ok (.aload_n 0, 1) := by decide +kernel
theorem dX7_init_5 : decode cX7_init 5 = .ok (.iconst 0, 1) := by decide +kernel
theorem dX7_init_6 : decode cX7_init 6 = .ok (.newarray .byte, 2) := by decide +kernel
theorem dX7_init_8 : decode cX7_init 8 = .ok (.putfield 7, 3) := by decide +kernel
theorem dX7_init_11 : decode cX7_init 11 = .ok (.aload_n 0, 1) := by decide +kernel
theorem dX7_init_12 : decode cX7_init 12 = .ok (.iconst 0, 1) := by decide +kernel
theorem dX7_init_13 : decode cX7_init 13 = .ok (.putfield 13, 3) := by decide +kernel
theorem dX7_init_16 : decode cX7_init 16 = .ok (.aload_n 0, 1) := by decide +kernel
theorem dX7_init_17 : decode cX7_init 17 = .ok (.iconst 0, 1) := by decide +kernel
theorem dX7_init_18 : decode cX7_init 18 = .ok (.putfield 17, 3) := by decide +kernel
theorem dX7_init_21 : decode cX7_init 21 = .ok (.aload_n 0, 1) := by decide +kernel
theorem dX7_init_22 : decode cX7_init 22 = .ok (.iconst 0, 1) := by decide +kernel
theorem dX7_init_23 : decode cX7_init 23 = .ok (.putfield 20, 3) := by decide +kernel
theorem dX7_init_26 : decode cX7_init 26 = .ok (.aload_n 0, 1) := by decide +kernel
theorem dX7_init_27 : decode cX7_init 27 = .ok (.iconst 0, 1) := by decide +kernel
theorem dX7_init_28 : decode cX7_init 28 = .ok (.putfield 23, 3) := by decide +kernel
theorem dX7_init_31 : decode cX7_init 31 = .ok (.aload_n 0, 1) := by decide +kernel
theorem dX7_init_32 : decode cX7_init 32 = .ok (.iconst 0, 1) := by decide +kernel
theorem dX7_init_33 : decode cX7_init 33 = .ok (.putfield 26, 3) := by decide +kernel
theorem dX7_init_36 : decode cX7_init 36 = .ok (.return_, 1) := by decide +kernel
theorem dX9_init_12 : decode cX9_init 12 = .ok (.putfield 12, 3) := by decide +kernel
theorem dX9_init_15 : decode cX9_init 15 = .ok (.aload_n 0, 1) := by decide +kernel
theorem dX9_init_16 : decode cX9_init 16 = .ok (.new 18, 3) := by decide +kernel
theorem dX9_init_19 : decode cX9_init 19 = .ok (.dup, 1) := by decide +kernel
theorem dX9_init_20 : decode cX9_init 20 = .ok (.invokespecial 20, 3) := by decide +kernel
theorem dX8_init_0 : decode cX8_init 0 = .ok (.aload_n 0, 1) := by decide +kernel
theorem dX8_init_1 : decode cX8_init 1 = .ok (.invokespecial 3, 3) := by decide +kernel
theorem dX8_init_4 : decode cX8_init 4 = .ok (.aload_n 0, 1) := by decide +kernel
theorem dX8_init_5 : decode cX8_init 5 = .ok (.iconst 0, 1) := by decide +kernel
theorem dX8_init_6 : decode cX8_init 6 = .ok (.putfield 9, 3) := by decide +kernel
theorem dX8_init_9 : decode cX8_init 9 = .ok (.aload_n 0, 1) := by decide +kernel
theorem dX8_init_10 : decode cX8_init 10 = .ok (.iconst 2, 1) := by decide +kernel
theorem dX8_init_11 : decode cX8_init 11 = .ok (.putfield 15, 3) := by decide +kernel
theorem dX8_init_14 : decode cX8_init 14 = .ok (.aload_n 0, 1) := by decide +kernel
theorem dX8_init_15 : decode cX8_init 15 = .ok (.iconst 0, 1) := by decide +kernel
theorem dX8_init_16 : decode cX8_init 16 = .ok (.putfield 18, 3) := by decide +kernel
theorem dX8_init_19 : decode cX8_init 19 = .ok (.aload_n 0, 1) := by decide +kernel
theorem dX8_init_20 : decode cX8_init 20 = .ok (.iconst (-1), 1) := by decide +kernel
theorem dX8_init_21 : decode cX8_init 21 = .ok (.putfield 21, 3) := by decide +kernel
theorem dX8_init_24 : decode cX8_init 24 = .ok (.aload_n 0, 1) := by decide +kernel
theorem dX8_init_25 : decode cX8_init 25 = .ok (.iconst 0, 1) := by decide +kernel
theorem dX8_init_26 : decode cX8_init 26 = .ok (.putfield 24, 3) := by decide +kernel
theorem dX8_init_29 : decode cX8_init 29 = .ok (.aload_n 0, 1) := by decide +kernel
theorem dX8_init_30 : decode cX8_init 30 = .ok (.iconst 0, 1) := by decide +kernel
theorem dX8_init_31 : decode cX8_init 31 = .ok (.putfield 27, 3) := by decide +kernel
theorem dX8_init_34 : decode cX8_init 34 = .ok (.aload_n 0, 1) := by decide +kernel
theorem dX8_init_35 : decode cX8_init 35 = .ok (.bipush 28, 2) := by decide +kernel
theorem dX8_init_37 : decode cX8_init 37 = .ok (.newarray .int, 2) := by decide +kernel
theorem dX8_init_39 : decode cX8_init 39 = .ok (.putfield 30, 3) := by decide +kernel
theorem dX8_init_42 : decode cX8_init 42 = .ok (.aload_n 0, 1) := by decide +kernel
theorem dX8_init_43 : decode cX8_init 43 = .ok (.bipush 28, 2) := by decide +kernel
theorem dX8_init_45 : decode cX8_init 45 = .ok (.newarray .int, 2) := by decide +kernel
theorem dX8_init_47 : decode cX8_init 47 = .ok (.putfield 34, 3) := by decide +kernel
theorem dX8_init_50 : decode cX8_init 50 = .ok (.aload_n 0, 1) := by decide +kernel
theorem dX8_init_51 : decode cX8_init 51 = .ok (.bipush 28, 2) := by decide +kernel
theorem dX8_init_53 : decode cX8_init 53 = .ok (.newarray .int, 2) := by decide +kernel
theorem dX8_init_55 : decode cX8_init 55 = .ok (.putfield 37, 3) := by decide +kernel
theorem dX8_init_58 : decode cX8_init 58 = .ok (.aload_n 0, 1) := by decide +kernel
theorem dX8_init_59 : decode cX8_init 59 = .ok (.bipush 28, 2) := by decide +kernel
theorem dX8_init_61 : decode cX8_init 61 = .ok (.newarray .int, 2) := by decide +kernel
theorem dX8_init_63 : decode cX8_init 63 = .ok (.putfield 40, 3) := by decide +kernel
theorem dX8_init_66 : decode cX8_init 66 = .ok (.aload_n 0, 1) := by decide +kernel
theorem dX8_init_67 : decode cX8_init 67 = .ok (.iconst 0, 1) := by decide +kernel
theorem dX8_init_68 : decode cX8_init 68 = .ok (.putfield 43, 3) := by decide +kernel
theorem dX8_init_71 : decode cX8_init 71 = .ok (.aload_n 0, 1) := by decide +kernel
theorem dX8_init_72 : decode cX8_init 72 = .ok (.iconst 0, 1) := by decide +kernel
theorem dX8_init_73 : decode cX8_init 73 = .ok (.putfield 46, 3) := by decide +kernel
theorem dX8_init_76 : decode cX8_init 76 = .ok (.aload_n 0, 1) := by decide +kernel
theorem dX8_init_77 : decode cX8_init 77 = .ok (.new 49, 3) := by decide +kernel
theorem dX8_init_80 : decode cX8_init 80 = .ok (.dup, 1) := by decide +kernel
theorem dX8_init_81 : decode cX8_init 81 = .ok (.invokespecial 51, 3) := by decide +kernel
theorem dX1_init_0 : decode cX1_init 0 = .ok (.aload_n 0, 1) := by decide +kernel
theorem dX1_init_1 : decode cX1_init 1 = .ok (.invokespecial 3, 3) := by decide +kernel
theorem dX1_init_4 : decode cX1_init 4 = .ok (.aload_n 0, 1) := by decide +kernel
theorem dX1_init_5 : decode cX1_init 5 = .ok (.iconst 0, 1) := by decide +kernel
theorem dX1_init_6 : decode cX1_init 6 = .ok (.putfield 9, 3) := by decide +kernel
theorem dX1_init_9 : decode cX1_init 9 = .ok (.aload_n 0, 1) := by decide +kernel
theorem dX1_init_10 : decode cX1_init 10 = .ok (.bipush 10, 2) := by decide +kernel
theorem dX1_init_12 : decode cX1_init 12 = .ok (.newarray .int, 2) := by decide +kernel
theorem dX1_init_14 : decode cX1_init 14 = .ok (.putfield 15, 3) := by decide +kernel
theorem dX1_init_17 : decode cX1_init 17 = .ok (.aload_n 0, 1) := by decide +kernel
theorem dX1_init_18 : decode cX1_init 18 = .ok (.bipush 10, 2) := by decide +kernel
theorem dX1_init_20 : decode cX1_init 20 = .ok (.newarray .int, 2) := by decide +kernel
theorem dX1_init_22 : decode cX1_init 22 = .ok (.putfield 19, 3) := by decide +kernel
theorem dX1_init_25 : decode cX1_init 25 = .ok (.aload_n 0, 1) := by decide +kernel
theorem dX1_init_26 : decode cX1_init 26 = .ok (.bipush 10, 2) := by decide +kernel
theorem dX1_init_28 : decode cX1_init 28 = .ok (.newarray .int, 2) := by decide +kernel
theorem dX1_init_30 : decode cX1_init 30 = .ok (.putfield 22, 3) := by decide +kernel
theorem dX1_init_33 : decode cX1_init 33 = .ok (.return_, 1) := by decide +kernel
theorem dX8_init_84 : decode cX8_init 84 = .ok (.putfield 52, 3) := by decide +kernel
theorem dX8_init_87 : decode cX8_init 87 = .ok (.aload_n 0, 1) := by decide +kernel
theorem dX8_init_88 : decode cX8_init 88 = .ok (.new 56, 3) := by decide +kernel
theorem dX8_init_91 : decode cX8_init 91 = .ok (.dup, 1) := by decide +kernel
theorem dX8_init_92 : decode cX8_init 92 = .ok (.invokespecial 58, 3) := by decide +kernel
theorem dX6_init_0 : decode cX6_init 0 = .ok (.aload_n 0, 1) := by decide +kernel
theorem dX6_init_1 : decode cX6_init 1 = .ok (.invokespecial 3, 3) := by decide +kernel
theorem dX6_init_4 : decode cX6_init 4 = .ok (.aload_n 0, 1) := by decide +kernel
theorem dX6_init_5 : decode cX6_init 5 = .ok (.iconst 0, 1) := by decide +kernel
theorem dX6_init_6 : decode cX6_init 6 = .ok (.putfield 9, 3) := by decide +kernel
theorem dX6_init_9 : decode cX6_init 9 = .ok (.aload_n 0, 1) := by decide +kernel
theorem dX6_init_10 : decode cX6_init 10 = .ok (.iconst 0, 1) := by decide +kernel
theorem dX6_init_11 : decode cX6_init 11 = .ok (.putfield 15, 3) := by decide +kernel
theorem dX6_init_14 : decode cX6_init 14 = .ok (.aload_n 0, 1) := by decide +kernel
theorem dX6_init_15 : decode cX6_init 15 = .ok (.bipush 6, 2) := by decide +kernel
theorem dX6_init_17 : decode cX6_init 17 = .ok (.newarray .int, 2) := by decide +kernel
theorem dX6_init_19 : decode cX6_init 19 = .ok (.putfield 18, 3) := by decide +kernel
theorem dX6_init_22 : decode cX6_init 22 = .ok (.aload_n 0, 1) := by decide +kernel
theorem dX6_init_23 : decode cX6_init 23 = .ok (.bipush 36, 2) := by decide +kernel
theorem dX6_init_25 : decode cX6_init 25 = .ok (.newarray .int, 2) := by decide +kernel
theorem dX6_init_27 : decode cX6_init 27 = .ok (.putfield 22, 3) := by decide +kernel
theorem dX6_init_30 : decode cX6_init 30 = .ok (.return_, 1) := by decide +kernel
theorem dX8_init_95 : decode cX8_init 95 = .ok (.putfield 59, 3) := by decide +kernel
theorem dX8_init_98 : decode cX8_init 98 = .ok (.aload_n 0, 1) := by decide +kernel
theorem dX8_init_99 : decode cX8_init 99 = .ok (.bipush 17, 2) := by decide +kernel
theorem dX8_init_101 : decode cX8_init 101 = .ok (.newarray .int, 2) := by decide +kernel
theorem dX8_init_103 : decode cX8_init 103 = .ok (.putfield 63, 3) := by decide +kernel
theorem dX8_init_106 : decode cX8_init 106 = .ok (.aload_n 0, 1) := by decide +kernel
theorem dX8_init_107 : decode cX8_init 107 = .ok (.bipush 56, 2) := by decide +kernel
theorem dX8_init_109 : decode cX8_init 109 = .ok (.newarray .int, 2) := by decide +kernel
theorem dX8_init_111 : decode cX8_init 111 = .ok (.putfield 66, 3) := by decide +kernel
theorem dX8_init_114 : decode cX8_init 114 = .ok (.aload_n 0, 1) := by decide +kernel
theorem dX8_init_115 : decode cX8_init 115 = .ok (.sipush 256, 3) := by decide +kernel
theorem dX8_init_118 : decode cX8_init 118 = .ok (.newarray .int, 2) := by decide +kernel
theorem dX8_init_120 : decode cX8_init 120 = .ok (.putfield 69, 3) := by decide +kernel
theorem dX8_init_123 : decode cX8_init 123 = .ok (.aload_n 0, 1) := by decide +kernel
theorem dX8_init_124 : decode cX8_init 124 = .ok (.iconst 0, 1) := by decide +kernel
theorem dX8_init_125 : decode cX8_init 125 = .ok (.putfield 72, 3) := by decide +kernel
theorem dX8_init_128 : decode cX8_init 128 = .ok (.return_, 1) := by decide +kernel
theorem dX9_init_23 : decode cX9_init 23 = .ok (.putfield 21, 3) := by decide +kernel
theorem dX9_init_26 : decode cX9_init 26 = .ok (.aload_n 0, 1) := by decide +kernel
theorem dX9_init_27 : decode cX9_init 27 = .ok (.iconst 0, 1) := by decide +kernel
theorem dX9_init_28 : decode cX9_init 28 = .ok (.putfield 25, 3) := by decide +kernel
theorem dX9_init_31 : decode cX9_init 31 = .ok (.aload_n 0, 1) := by decide +kernel
theorem dX9_init_32 : decode cX9_init 32 = .ok (.iconst (-1), 1) := by decide +kernel
theorem dX9_init_33 : decode cX9_init 33 = .ok (.putfield 29, 3) := by decide +kernel
theorem dX9_init_36 : decode cX9_init 36 = .ok (.return_, 1) := by decide +kernel
theorem dX11_init_26 : decode cX11_init 26 = .ok (.putfield 20, 3) := by decide +kernel
theorem dX11_init_29 : decode cX11_init 29 = .ok (.aload_n 0, 1) := by decide +kernel
theorem dX11_init_30 : decode cX11_init 30 = .ok (.new 24, 3) := by decide +kernel
theorem dX11_init_33 : decode cX11_init 33 = .ok (.dup, 1) := by decide +kernel
theorem dX11_init_34 : decode cX11_init 34 = .ok (.invokespecial 26, 3) := by decide +kernel
theorem dX5_init_0 : decode cX5_init 0 = .ok (.aload_n 0, 1) := by decide +kernel
theorem dX5_init_1 : decode cX5_init 1 = .ok (.invokespecial 3, 3) := by decide +kernel
theorem dX5_init_4 : decode cX5_init 4 = .ok (.aload_n 0, 1) := by decide +kernel
theorem dX5_init_5 : decode cX5_init 5 = .ok (.new 9, 3) := by decide +kernel
theorem dX5_init_8 : decode cX5_init 8 = .ok (.dup, 1) := by decide +kernel
theorem dX5_init_9 : decode cX5_init 9 = .ok (.invokespecial 11, 3) := by decide +kernel
theorem dX5_init_12 : decode cX5_init 12 = .ok (.putfield 12, 3) := by decide +kernel
theorem dX5_init_15 : decode cX5_init 15 = .ok (.aload_n 0, 1) := by decide +kernel
theorem dX5_init_16 : decode cX5_init 16 = .ok (.iconst 2, 1) := by decide +kernel
theorem dX5_init_17 : decode cX5_init 17 = .ok (.bipush 28, 2) := by decide +kernel
theorem dX5_init_19 : decode cX5_init 19 = .ok (.multianewarray 18 2, 4) := by decide +kernel
theorem dX5_init_23 : decode cX5_init 23 = .ok (.putfield 20, 3) := by decide +kernel
theorem dX5_init_26 : decode cX5_init 26 = .ok (.aload_n 0, 1) := by decide +kernel
theorem dX5_init_27 : decode cX5_init 27 = .ok (.iconst 0, 1) := by decide +kernel
theorem dX5_init_28 : decode cX5_init 28 = .ok (.putfield 23, 3) := by decide +kernel
theorem dX5_init_31 : decode cX5_init 31 = .ok (.return_, 1) := by decide +kernel
theorem dX11_init_37 : decode cX11_init 37 = .ok (.putfield 27, 3) := by decide +kernel
theorem dX11_init_40 : decode cX11_init 40 = .ok (.aload_n 0, 1) := by decide +kernel
theorem dX11_init_41 : decode cX11_init 41 = .ok (.iconst 3, 1) := by decide +kernel
theorem dX11_init_42 : decode cX11_init 42 = .ok (.anewarray 24, 3) := by decide +kernel
theorem dX11_init_45 : decode cX11_init 45 = .ok (.putfield 31, 3) := by decide +kernel
theorem dX11_init_48 : decode cX11_init 48 = .ok (.aload_n 0, 1) := by decide +kernel
theorem dX11_init_49 : decode cX11_init 49 = .ok (.iconst 4, 1) := by decide +kernel
theorem dX11_init_50 : decode cX11_init 50 = .ok (.anewarray 35, 3) := by decide +kernel
theorem dX11_init_53 : decode cX11_init 53 = .ok (.putfield 37, 3) := by decide +kernel
theorem dX11_init_56 : decode cX11_init 56 = .ok (.aload_n 0, 1) := by decide +kernel
theorem dX11_init_57 : decode cX11_init 57 = .ok (.new 41, 3) := by decide +kernel
theorem dX11_init_60 : decode cX11_init 60 = .ok (.dup, 1) := by decide +kernel
theorem dX11_init_61 : decode cX11_init 61 = .ok (.invokespecial 43, 3) := by decide +kernel
theorem dX2_init_0 : decode cX2_init 0 = .ok (.aload_n 0, 1) := by decide +kernel
theorem dX2_init_1 : decode cX2_init 1 = .ok (.invokespecial 3, 3) := by decide +kernel
theorem dX2_init_4 : decode cX2_init 4 = .ok (.aload_n 0, 1) := by decide +kernel
theorem dX2_init_5 : decode cX2_init 5 = .ok (.bipush 16, 2) := by decide +kernel
theorem dX2_init_7 : decode cX2_init 7 = .ok (.newarray .int, 2) := by decide +kernel
theorem dX2_init_9 : decode cX2_init 9 = .ok (.putfield 9, 3) := by decide +kernel
theorem dX2_init_12 : decode cX2_init 12 = .ok (.aload_n 0, 1) := by decide +kernel
theorem dX2_init_13 : decode cX2_init 13 = .ok (.sipush 256, 3) := by decide +kernel
theorem dX2_init_16 : decode cX2_init 16 = .ok (.newarray .int, 2) := by decide +kernel
theorem dX2_init_18 : decode cX2_init 18 = .ok (.putfield 15, 3) := by decide +kernel
theorem dX2_init_21 : decode cX2_init 21 = .ok (.aload_n 0, 1) := by decide +kernel
theorem dX2_init_22 : decode cX2_init 22 = .ok (.bipush 28, 2) := by decide +kernel
theorem dX2_init_24 : decode cX2_init 24 = .ok (.newarray .int, 2) := by decide +kernel
theorem dX2_init_26 : decode cX2_init 26 = .ok (.putfield 18, 3) := by decide +kernel
theorem dX2_init_29 : decode cX2_init 29 = .ok (.aload_n 0, 1) := by decide +kernel
theorem dX2_init_30 : decode cX2_init 30 = .ok (.bipush 16, 2) := by decide +kernel
theorem dX2_init_32 : decode cX2_init 32 = .ok (.newarray .int, 2) := by decide +kernel
theorem dX2_init_34 : decode cX2_init 34 = .ok (.putfield 21, 3) := by decide +kernel
theorem dX2_init_37 : decode cX2_init 37 = .ok (.aload_n 0, 1) := by decide +kernel
theorem dX2_init_38 : decode cX2_init 38 = .ok (.bipush 16, 2) := by decide +kernel
theorem dX2_init_40 : decode cX2_init 40 = .ok (.newarray .int, 2) := by decide +kernel
theorem dX2_init_42 : decode cX2_init 42 = .ok (.putfield 24, 3) := by decide +kernel
theorem dX2_init_45 : decode cX2_init 45 = .ok (.aload_n 0, 1) := by decide +kernel
theorem dX2_init_46 : decode cX2_init 46 = .ok (.bipush 28, 2) := by decide +kernel
theorem dX2_init_48 : decode cX2_init 48 = .ok (.newarray .int, 2) := by decide +kernel
theorem dX2_init_50 : decode cX2_init 50 = .ok (.putfield 27, 3) := by decide +kernel
theorem dX2_init_53 : decode cX2_init 53 = .ok (.return_, 1) := by decide +kernel
theorem dX11_init_64 : decode cX11_init 64 = .ok (.putfield 44, 3) := by decide +kernel
theorem dX11_init_67 : decode cX11_init 67 = .ok (.aload_n 0, 1) := by decide +kernel
theorem dX11_init_68 : decode cX11_init 68 = .ok (.new 48, 3) := by decide +kernel
theorem dX11_init_71 : decode cX11_init 71 = .ok (.dup, 1) := by decide +kernel
theorem dX11_init_72 : decode cX11_init 72 = .ok (.aload_n 0, 1) := by decide +kernel
theorem dX11_init_73 : decode cX11_init 73 = .ok (.getfield 44, 3) := by decide +kernel
theorem dX11_init_76 : decode cX11_init 76 = .ok (.invokespecial 50, 3) := by decide +kernel
theorem dX0_init_0 : decode cX0_init 0 = .ok (.aload_n 0, 1) := by decide +kernel
theorem dX0_init_1 : decode cX0_init 1 = .ok (.invokespecial 3, 3) := by decide +kernel
theorem dX0_init_4 : decode cX0_init 4 = .ok (.aload_n 0, 1) := by decide +kernel
theorem dX0_init_5 : decode cX0_init 5 = .ok (.bipush 10, 2) := by decide +kernel
theorem dX0_init_7 : decode cX0_init 7 = .ok (.newarray .int, 2) := by decide +kernel
theorem dX0_init_9 : decode cX0_init 9 = .ok (.putfield 9, 3) := by decide +kernel
theorem dX0_init_12 : decode cX0_init 12 = .ok (.aload_n 0, 1) := by decide +kernel
theorem dX0_init_13 : decode cX0_init 13 = .ok (.aload_n 1, 1) := by decide +kernel
theorem dX0_init_14 : decode cX0_init 14 = .ok (.putfield 15, 3) := by decide +kernel
theorem dX0_init_17 : decode cX0_init 17 = .ok (.return_, 1) := by decide +kernel
theorem dX11_init_79 : decode cX11_init 79 = .ok (.putfield 53, 3) := by decide +kernel
theorem dX11_init_82 : decode cX11_init 82 = .ok (.aload_n 0, 1) := by decide +kernel
theorem dX11_init_83 : decode cX11_init 83 = .ok (.new 57, 3) := by decide +kernel
theorem dX11_init_86 : decode cX11_init 86 = .ok (.dup, 1) := by decide +kernel
theorem dX11_init_87 : decode cX11_init 87 = .ok (.aload_n 0, 1) := by decide +kernel
theorem dX11_init_88 : decode cX11_init 88 = .ok (.getfield 44, 3) := by decide +kernel
theorem dX11_init_91 : decode cX11_init 91 = .ok (.invokespecial 59, 3) := by decide +kernel
theorem dX10_init_0 : decode cX10_init 0 = .ok (.aload_n 0, 1) := by decide +kernel
theorem dX10_init_1 : decode cX10_init 1 = .ok (.invokespecial 3, 3) := by decide +kernel
theorem dX10_init_4 : decode cX10_init 4 = .ok (.aload_n 0, 1) := by decide +kernel
theorem dX10_init_5 : decode cX10_init 5 = .ok (.aload_n 1, 1) := by decide +kernel
theorem dX10_init_6 : decode cX10_init 6 = .ok (.putfield 9, 3) := by decide +kernel
theorem dX10_init_9 : decode cX10_init 9 = .ok (.return_, 1) := by decide +kernel
theorem dX11_init_94 : decode cX11_init 94 = .ok (.putfield 60, 3) := by decide +kernel
theorem dX11_init_97 : decode cX11_init 97 = .ok (.aload_n 0, 1) := by decide +kernel
theorem dX11_init_98 : decode cX11_init 98 = .ok (.new 64, 3) := by decide +kernel
theorem dX11_init_101 : decode cX11_init 101 = .ok (.dup, 1) := by decide +kernel
theorem dX11_init_102 : decode cX11_init 102 = .ok (.aload_n 0, 1) := by decide +kernel
theorem dX11_init_103 : decode cX11_init 103 = .ok (.getfield 44, 3) := by decide +kernel
theorem dX11_init_106 : decode cX11_init 106 = .ok (.invokespecial 66, 3) := by decide +kernel
theorem dX3_init_0 : decode cX3_init 0 = .ok (.aload_n 0, 1) := by decide +kernel
theorem dX3_init_1 : decode cX3_init 1 = .ok (.invokespecial 3, 3) := by decide +kernel
theorem dX3_init_4 : decode cX3_init 4 = .ok (.aload_n 0, 1) := by decide +kernel
theorem dX3_init_5 : decode cX3_init 5 = .ok (.bipush 9, 2) := by decide +kernel
theorem dX3_init_7 : decode cX3_init 7 = .ok (.newarray .int, 2) := by decide +kernel
theorem dX3_init_9 : decode cX3_init 9 = .ok (.putfield 9, 3) := by decide +kernel
theorem dX3_init_12 : decode cX3_init 12 = .ok (.aload_n 0, 1) := by decide +kernel
theorem dX3_init_13 : decode cX3_init 13 = .ok (.bipush 9, 2) := by decide +kernel
theorem dX3_init_15 : decode cX3_init 15 = .ok (.newarray .int, 2) := by decide +kernel
theorem dX3_init_17 : decode cX3_init 17 = .ok (.putfield 15, 3) := by decide +kernel
theorem dX3_init_20 : decode cX3_init 20 = .ok (.aload_n 0, 1) := by decide +kernel
theorem dX3_init_21 : decode cX3_init 21 = .ok (.sipush 512, 3) := by decide +kernel
theorem dX3_init_24 : decode cX3_init 24 = .ok (.newarray .int, 2) := by decide +kernel
theorem dX3_init_26 : decode cX3_init 26 = .ok (.putfield 18, 3) := by decide +kernel
theorem dX3_init_29 : decode cX3_init 29 = .ok (.aload_n 0, 1) := by decide +kernel
theorem dX3_init_30 : decode cX3_init 30 = .ok (.sipush 512, 3) := by decide +kernel
theorem dX3_init_33 : decode cX3_init 33 = .ok (.newarray .int, 2) := by decide +kernel
theorem dX3_init_35 : decode cX3_init 35 = .ok (.putfield 21, 3) := by decide +kernel
theorem dX3_init_38 : decode cX3_init 38 = .ok (.aload_n 0, 1) := by decide +kernel
theorem dX3_init_39 : decode cX3_init 39 = .ok (.aload_n 1, 1) := by decide +kernel
theorem dX3_init_40 : decode cX3_init 40 = .ok (.putfield 24, 3) := by decide +kernel
theorem dX3_init_43 : decode cX3_init 43 = .ok (.return_, 1) := by decide +kernel
theorem dX11_init_109 : decode cX11_init 109 = .ok (.putfield 67, 3) := by decide +kernel
theorem dX11_init_112 : decode cX11_init 112 = .ok (.aload_n 0, 1) := by decide +kernel
theorem dX11_init_113 : decode cX11_init 113 = .ok (.bipush 28, 2) := by decide +kernel
theorem dX11_init_115 : decode cX11_init 115 = .ok (.newarray .int, 2) := by decide +kernel
theorem dX11_init_117 : decode cX11_init 117 = .ok (.putfield 71, 3) := by decide +kernel
theorem dX11_init_120 : decode cX11_init 120 = .ok (.aload_n 0, 1) := by decide +kernel
theorem dX11_init_121 : decode cX11_init 121 = .ok (.iconst (-1), 1) := by decide +kernel
theorem dX11_init_122 : decode cX11_init 122 = .ok (.putfield 75, 3) := by decide +kernel
theorem dX11_init_125 : decode cX11_init 125 = .ok (.aload_n 0, 1) := by decide +kernel
theorem dX11_init_126 : decode cX11_init 126 = .ok (.iconst (-1), 1) := by decide +kernel
theorem dX11_init_127 : decode cX11_init 127 = .ok (.putfield 78, 3) := by decide +kernel
theorem dX11_init_130 : decode cX11_init 130 = .ok (.aload_n 0, 1) := by decide +kernel
theorem dX11_init_131 : decode cX11_init 131 = .ok (.iconst (-1), 1) := by decide +kernel
theorem dX11_init_132 : decode cX11_init 132 = .ok (.putfield 81, 3) := by decide +kernel
theorem dX11_init_135 : decode cX11_init 135 = .ok (.aload_n 0, 1) := by decide +kernel
theorem dX11_init_136 : decode cX11_init 136 = .ok (.iconst (-1), 1) := by decide +kernel
theorem dX11_init_137 : decode cX11_init 137 = .ok (.putfield 84, 3) := by decide +kernel
theorem dX11_init_140 : decode cX11_init 140 = .ok (.iconst 0, 1) := by decide +kernel
theorem dX11_init_141 : decode cX11_init 141 = .ok (.istore_n 1, 1) := by decide +kernel
theorem dX11_init_142 : decode cX11_init 142 = .ok (.iload_n 1, 1) := by decide +kernel
theorem dX11_init_143 : decode cX11_init 143 = .ok (.iconst 3, 1) := by decide +kernel
theorem dX11_init_144 : decode cX11_init 144 = .ok (.if_icmp .ge 22, 3) := by decide +kernel
theorem dX11_init_147 : decode cX11_init 147 = .ok (.aload_n 0, 1) := by decide +kernel
theorem dX11_init_148 : decode cX11_init 148 = .ok (.getfield 31, 3) := by decide +kernel
theorem dX11_init_151 : decode cX11_init 151 = .ok (.iload_n 1, 1) := by decide +kernel
theorem dX11_init_152 : decode cX11_init 152 = .ok (.new 24, 3) := by decide +kernel
theorem dX11_init_155 : decode cX11_init 155 = .ok (.dup, 1) := by decide +kernel
theorem dX11_init_156 : decode cX11_init 156 = .ok (.invokespecial 26, 3) := by decide +kernel
theorem dX11_init_159 : decode cX11_init 159 = .ok (.aastore, 1) := by decide +kernel
theorem dX11_init_160 : decode cX11_init 160 = .ok (.iinc 1 1, 3) := by decide +kernel
theorem dX11_init_163 : decode cX11_init 163 = .ok (.goto (-21), 3) := by decide +kernel
theorem dX11_init_166 : decode cX11_init 166 = .ok (.iconst 0, 1) := by decide +kernel
theorem dX11_init_167 : decode cX11_init 167 = .ok (.istore_n 1, 1) := by decide +kernel
theorem dX11_init_168 : decode cX11_init 168 = .ok (.iload_n 1, 1) := by decide +kernel
theorem dX11_init_169 : decode cX11_init 169 = .ok (.iconst 4, 1) := by decide +kernel
theorem dX11_init_170 : decode cX11_init 170 = .ok (.if_icmp .ge 22, 3) := by decide +kernel
theorem dX11_init_173 : decode cX11_init 173 = .ok (.aload_n 0, 1) := by decide +kernel
theorem dX11_init_174 : decode cX11_init 174 = .ok (.getfield 37, 3) := by decide +kernel
theorem dX11_init_177 : decode cX11_init 177 = .ok (.iload_n 1, 1) := by decide +kernel
theorem dX11_init_178 : decode cX11_init 178 = .ok (.new 35, 3) := by decide +kernel
theorem dX11_init_181 : decode cX11_init 181 = .ok (.dup, 1) := by decide +kernel
theorem dX11_init_182 : decode cX11_init 182 = .ok (.invokespecial 87, 3) := by decide +kernel
theorem dX4_init_0 : decode cX4_init 0 = .ok (.aload_n 0, 1) := by decide +kernel
theorem dX4_init_1 : decode cX4_init 1 = .ok (.invokespecial 3, 3) := by decide +kernel
theorem dX4_init_4 : decode cX4_init 4 = .ok (.aload_n 0, 1) := by decide +kernel
theorem dX4_init_5 : decode cX4_init 5 = .ok (.iconst (-1), 1) := by decide +kernel
theorem dX4_init_6 : decode cX4_init 6 = .ok (.putfield 9, 3) := by decide +kernel
theorem dX4_init_9 : decode cX4_init 9 = .ok (.aload_n 0, 1) := by decide +kernel
theorem dX4_init_10 : decode cX4_init 10 = .ok (.iconst 0, 1) := by decide +kernel
theorem dX4_init_11 : decode cX4_init 11 = .ok (.putfield 15, 3) := by decide +kernel
theorem dX4_init_14 : decode cX4_init 14 = .ok (.aload_n 0, 1) := by decide +kernel
theorem dX4_init_15 : decode cX4_init 15 = .ok (.bipush 60, 2) := by decide +kernel
theorem dX4_init_17 : decode cX4_init 17 = .ok (.newarray .long, 2) := by decide +kernel
theorem dX4_init_19 : decode cX4_init 19 = .ok (.putfield 18, 3) := by decide +kernel
theorem dX4_init_22 : decode cX4_init 22 = .ok (.return_, 1) := by decide +kernel
theorem dX11_init_185 : decode cX11_init 185 = .ok (.aastore, 1) := by decide +kernel
theorem dX11_init_186 : decode cX11_init 186 = .ok (.iinc 1 1, 3) := by decide +kernel
theorem dX11_init_189 : decode cX11_init 189 = .ok (.goto (-21), 3) := by decide +kernel
theorem dX11_init_192 : decode cX11_init 192 = .ok (.aload_n 0, 1) := by decide +kernel
theorem dX11_init_193 : decode cX11_init 193 = .ok (.getfield 44, 3) := by decide +kernel
theorem dX11_init_196 : decode cX11_init 196 = .ok (.aload_n 0, 1) := by decide +kernel
theorem dX11_init_197 : decode cX11_init 197 = .ok (.getfield 27, 3) := by decide +kernel
theorem dX11_init_200 : decode cX11_init 200 = .ok (.getfield 88, 3) := by decide +kernel
theorem dX11_init_203 : decode cX11_init 203 = .ok (.invokevirtual 92, 3) := by decide +kernel
theorem dX11_init_206 : decode cX11_init 206 = .ok (.return_, 1) := by decide +kernel
theorem dX12_init_0 : decode cX12_init 0 = .ok (.aload_n 0, 1) := by decide +kernel
theorem dX12_init_1 : decode cX12_init 1 = .ok (.invokespecial 7, 3) := by decide +kernel
theorem dX12_init_4 : decode cX12_init 4 = .ok (.aload_n 0, 1) := by decide +kernel
theorem dX12_init_5 : decode cX12_init 5 = .ok (.sipush 304, 3) := by decide +kernel
theorem dX12_init_8 : decode cX12_init 8 = .ok (.newarray .int, 2) := by decide +kernel
theorem dX12_init_10 : decode cX12_init 10 = .ok (.putfield 13, 3) := by decide +kernel
theorem dX12_init_13 : decode cX12_init 13 = .ok (.aload_n 0, 1) := by decide +kernel
theorem dX12_init_14 : decode cX12_init 14 = .ok (.sipush 912, 3) := by decide +kernel
theorem dX12_init_17 : decode cX12_init 17 = .ok (.newarray .int, 2) := by decide +kernel
theorem dX12_init_19 : decode cX12_init 19 = .ok (.putfield 17, 3) := by decide +kernel
theorem dX12_init_22 : decode cX12_init 22 = .ok (.aload_n 0, 1) := by decide +kernel
theorem dX12_init_23 : decode cX12_init 23 = .ok (.iconst 3, 1) := by decide +kernel
theorem dX12_init_24 : decode cX12_init 24 = .ok (.newarray .boolean, 2) := by decide +kernel
theorem dX12_init_26 : decode cX12_init 26 = .ok (.putfield 20, 3) := by decide +kernel
theorem dX12_init_29 : decode cX12_init 29 = .ok (.aload_n 0, 1) := by decide +kernel
theorem dX12_init_30 : decode cX12_init 30 = .ok (.sipush 800, 3) := by decide +kernel
theorem dX12_init_33 : decode cX12_init 33 = .ok (.newarray .byte, 2) := by decide +kernel
theorem dX12_init_35 : decode cX12_init 35 = .ok (.putfield 24, 3) := by decide +kernel
theorem dX12_init_38 : decode cX12_init 38 = .ok (.aload_n 0, 1) := by decide +kernel
theorem dX12_init_39 : decode cX12_init 39 = .ok (.iconst 5, 1) := by decide +kernel
theorem dX12_init_40 : decode cX12_init 40 = .ok (.newarray .int, 2) := by decide +kernel
theorem dX12_init_42 : decode cX12_init 42 = .ok (.putfield 28, 3) := by decide +kernel
theorem dX12_init_45 : decode cX12_init 45 = .ok (.aload_n 0, 1) := by decide +kernel
theorem dX12_init_46 : decode cX12_init 46 = .ok (.iconst (-1), 1) := by decide +kernel
theorem dX12_init_47 : decode cX12_init 47 = .ok (.putfield 31, 3) := by decide +kernel
theorem dX12_init_50 : decode cX12_init 50 = .ok (.aload_n 0, 1) := by decide +kernel
theorem dX12_init_51 : decode cX12_init 51 = .ok (.sipush 304, 3) := by decide +kernel
theorem dX12_init_54 : decode cX12_init 54 = .ok (.newarray .int, 2) := by decide +kernel
theorem dX12_init_56 : decode cX12_init 56 = .ok (.putfield 34, 3) := by decide +kernel
theorem dX12_init_59 : decode cX12_init 59 = .ok (.aload_n 0, 1) := by decide +kernel
theorem dX12_init_60 : decode cX12_init 60 = .ok (.bipush 28, 2) := by decide +kernel
theorem dX12_init_62 : decode cX12_init 62 = .ok (.newarray .boolean, 2) := by decide +kernel
theorem dX12_init_64 : decode cX12_init 64 = .ok (.putfield 37, 3) := by decide +kernel
theorem dX12_init_67 : decode cX12_init 67 = .ok (.aload_n 0, 1) := by decide +kernel
theorem dX12_init_68 : decode cX12_init 68 = .ok (.bipush 28, 2) := by decide +kernel
theorem dX12_init_70 : decode cX12_init 70 = .ok (.newarray .int, 2) := by decide +kernel
theorem dX12_init_72 : decode cX12_init 72 = .ok (.putfield 40, 3) := by decide +kernel
theorem dX12_init_75 : decode cX12_init 75 = .ok (.aload_n 0, 1) := by decide +kernel
theorem dX12_init_76 : decode cX12_init 76 = .ok (.sipush 256, 3) := by decide +kernel
theorem dX12_init_79 : decode cX12_init 79 = .ok (.newarray .int, 2) := by decide +kernel
theorem dX12_init_81 : decode cX12_init 81 = .ok (.putfield 43, 3) := by decide +kernel
theorem dX12_init_84 : decode cX12_init 84 = .ok (.aload_n 0, 1) := by decide +kernel
theorem dX12_init_85 : decode cX12_init 85 = .ok (.sipush 256, 3) := by decide +kernel
theorem dX12_init_88 : decode cX12_init 88 = .ok (.newarray .int, 2) := by decide +kernel
theorem dX12_init_90 : decode cX12_init 90 = .ok (.putfield 46, 3) := by decide +kernel
theorem dX12_init_93 : decode cX12_init 93 = .ok (.aload_n 0, 1) := by decide +kernel
theorem dX12_init_94 : decode cX12_init 94 = .ok (.bipush 16, 2) := by decide +kernel
theorem dX12_init_96 : decode cX12_init 96 = .ok (.newarray .boolean, 2) := by decide +kernel
theorem dX12_init_98 : decode cX12_init 98 = .ok (.putfield 49, 3) := by decide +kernel
theorem dX12_init_101 : decode cX12_init 101 = .ok (.aload_n 0, 1) := by decide +kernel
theorem dX12_init_102 : decode cX12_init 102 = .ok (.bipush 28, 2) := by decide +kernel
theorem dX12_init_104 : decode cX12_init 104 = .ok (.newarray .int, 2) := by decide +kernel
theorem dX12_init_106 : decode cX12_init 106 = .ok (.putfield 52, 3) := by decide +kernel
theorem dX12_init_109 : decode cX12_init 109 = .ok (.aload_n 0, 1) := by decide +kernel
theorem dX12_init_110 : decode cX12_init 110 = .ok (.bipush 28, 2) := by decide +kernel
theorem dX12_init_112 : decode cX12_init 112 = .ok (.newarray .int, 2) := by decide +kernel
theorem dX12_init_114 : decode cX12_init 114 = .ok (.putfield 55, 3) := by decide +kernel
theorem dX12_init_117 : decode cX12_init 117 = .ok (.aload_n 0, 1) := by decide +kernel
theorem dX12_init_118 : decode cX12_init 118 = .ok (.bipush 44, 2) := by decide +kernel
theorem dX12_init_120 : decode cX12_init 120 = .ok (.newarray .int, 2) := by decide +kernel
theorem dX12_init_122 : decode cX12_init 122 = .ok (.putfield 58, 3) := by decide +kernel
theorem dX12_init_125 : decode cX12_init 125 = .ok (.aload_n 0, 1) := by decide +kernel
theorem dX12_init_126 : decode cX12_init 126 = .ok (.iconst 2, 1) := by decide +kernel
theorem dX12_init_127 : decode cX12_init 127 = .ok (.newarray .int, 2) := by decide +kernel
theorem dX12_init_129 : decode cX12_init 129 = .ok (.putfield 61, 3) := by decide +kernel
theorem dX12_init_132 : decode cX12_init 132 = .ok (.aload_n 0, 1) := by decide +kernel
theorem dX12_init_133 : decode cX12_init 133 = .ok (.bipush 9, 2) := by decide +kernel
theorem dX12_init_135 : decode cX12_init 135 = .ok (.newarray .int, 2) := by decide +kernel
theorem dX12_init_137 : decode cX12_init 137 = .ok (.putfield 64, 3) := by decide +kernel
theorem dX12_init_140 : decode cX12_init 140 = .ok (.aload_n 0, 1) := by decide +kernel
theorem dX12_init_141 : decode cX12_init 141 = .ok (.sipush 512, 3) := by decide +kernel
theorem dX12_init_144 : decode cX12_init 144 = .ok (.newarray .int, 2) := by decide +kernel
theorem dX12_init_146 : decode cX12_init 146 = .ok (.putfield 67, 3) := by decide +kernel
theorem dX12_init_149 : decode cX12_init 149 = .ok (.aload_n 0, 1) := by decide +kernel
theorem dX12_init_150 : decode cX12_init 150 = .ok (.sipush 512, 3) := by decide +kernel
theorem dX12_init_153 : decode cX12_init 153 = .ok (.newarray .int, 2) := by decide +kernel
theorem dX12_init_155 : decode cX12_init 155 = .ok (.putfield 70, 3) := by decide +kernel
theorem dX12_init_158 : decode cX12_init 158 = .ok (.aload_n 0, 1) := by decide +kernel
theorem dX12_init_159 : decode cX12_init 159 = .ok (.bipush 16, 2) := by decide +kernel
theorem dX12_init_161 : decode cX12_init 161 = .ok (.newarray .int, 2) := by decide +kernel
theorem dX12_init_163 : decode cX12_init 163 = .ok (.putfield 73, 3) := by decide +kernel
theorem dX12_init_166 : decode cX12_init 166 = .ok (.aload_n 0, 1) := by decide +kernel
theorem dX12_init_167 : decode cX12_init 167 = .ok (.iconst 2, 1) := by decide +kernel
theorem dX12_init_168 : decode cX12_init 168 = .ok (.newarray .int, 2) := by decide +kernel
theorem dX12_init_170 : decode cX12_init 170 = .ok (.putfield 76, 3) := by decide +kernel
theorem dX12_init_173 : decode cX12_init 173 = .ok (.aload_n 0, 1) := by decide +kernel
theorem dX12_init_174 : decode cX12_init 174 = .ok (.iconst 4, 1) := by decide +kernel
theorem dX12_init_175 : decode cX12_init 175 = .ok (.newarray .int, 2) := by decide +kernel
theorem dX12_init_177 : decode cX12_init 177 = .ok (.dup, 1) := by decide +kernel
theorem dX12_init_178 : decode cX12_init 178 = .ok (.iconst 0, 1) := by decide +kernel
theorem dX12_init_179 : decode cX12_init 179 = .ok (.iconst (-1), 1) := by decide +kernel
theorem dX12_init_180 : decode cX12_init 180 = .ok (.iastore, 1) := by decide +kernel
theorem dX12_init_181 : decode cX12_init 181 = .ok (.dup, 1) := by decide +kernel
theorem dX12_init_182 : decode cX12_init 182 = .ok (.iconst 1, 1) := by decide +kernel
theorem dX12_init_183 : decode cX12_init 183 = .ok (.iconst (-1), 1) := by decide +kernel
theorem dX12_init_184 : decode cX12_init 184 = .ok (.iastore, 1) := by decide +kernel
theorem dX12_init_185 : decode cX12_init 185 = .ok (.dup, 1) := by decide +kernel
theorem dX12_init_186 : decode cX12_init 186 = .ok (.iconst 2, 1) := by decide +kernel
theorem dX12_init_187 : decode cX12_init 187 = .ok (.iconst (-1), 1) := by decide +kernel
theorem dX12_init_188 : decode cX12_init 188 = .ok (.iastore, 1) := by decide +kernel
theorem dX12_init_189 : decode cX12_init 189 = .ok (.dup, 1) := by decide +kernel
theorem dX12_init_190 : decode cX12_init 190 = .ok (.iconst 3, 1) := by decide +kernel
theorem dX12_init_191 : decode cX12_init 191 = .ok (.iconst (-1), 1) := by decide +kernel
theorem dX12_init_192 : decode cX12_init 192 = .ok (.iastore, 1) := by decide +kernel
theorem dX12_init_193 : decode cX12_init 193 = .ok (.putfield 79, 3) := by decide +kernel
theorem dX12_init_196 : decode cX12_init 196 = .ok (.aload_n 0, 1) := by decide +kernel
theorem dX12_init_197 : decode cX12_init 197 = .ok (.iconst 4, 1) := by decide +kernel
theorem dX12_init_198 : decode cX12_init 198 = .ok (.newarray .int, 2) := by decide +kernel
theorem dX12_init_200 : decode cX12_init 200 = .ok (.putfield 82, 3) := by decide +kernel
theorem dX12_init_203 : decode cX12_init 203 = .ok (.aload_n 0, 1) := by decide +kernel
theorem dX12_init_204 : decode cX12_init 204 = .ok (.sipush 240, 3) := by decide +kernel
theorem dX12_init_207 : decode cX12_init 207 = .ok (.newarray .long, 2) := by decide +kernel
theorem dX12_init_209 : decode cX12_init 209 = .ok (.putfield 85, 3) := by decide +kernel
theorem dX12_init_212 : decode cX12_init 212 = .ok (.aload_n 0, 1) := by decide +kernel
theorem dX12_init_213 : decode cX12_init 213 = .ok (.bipush 60, 2) := by decide +kernel
theorem dX12_init_215 : decode cX12_init 215 = .ok (.newarray .long, 2) := by decide +kernel
theorem dX12_init_217 : decode cX12_init 217 = .ok (.putfield 89, 3) := by decide +kernel
theorem dX12_init_220 : decode cX12_init 220 = .ok (.aload_n 0, 1) := by decide +kernel
theorem dX12_init_221 : decode cX12_init 221 = .ok (.getfield 13, 3) := by decide +kernel
theorem dX12_init_224 : decode cX12_init 224 = .ok (.invokestatic 92, 3) := by decide +kernel
theorem dX12_init_227 : decode cX12_init 227 = .ok (.return_, 1) := by decide +kernel
theorem dL_law_0 : decode code 0 = .ok (.new 7, 3) := by decide +kernel
theorem dL_law_3 : decode code 3 = .ok (.dup, 1) := by decide +kernel
theorem dL_law_4 : decode code 4 = .ok (.invokespecial 9, 3) := by decide +kernel
theorem dL_law_7 : decode code 7 = .ok (.astore_n 1, 1) := by decide +kernel
theorem dL_law_8 : decode code 8 = .ok (.new 10, 3) := by decide +kernel
theorem dL_law_11 : decode code 11 = .ok (.dup, 1) := by decide +kernel
theorem dL_law_12 : decode code 12 = .ok (.invokespecial 12, 3) := by decide +kernel
theorem dL_law_15 : decode code 15 = .ok (.astore_n 2, 1) := by decide +kernel
theorem dL_law_16 : decode code 16 = .ok (.iconst 0, 1) := by decide +kernel
theorem dL_law_17 : decode code 17 = .ok (.istore_n 3, 1) := by decide +kernel
theorem dL_law_18 : decode code 18 = .ok (.iload_n 3, 1) := by decide +kernel
theorem dL_law_19 : decode code 19 = .ok (.aload_n 0, 1) := by decide +kernel
theorem dL_law_20 : decode code 20 = .ok (.arraylength, 1) := by decide +kernel
theorem dL_law_21 : decode code 21 = .ok (.bipush 6, 2) := by decide +kernel
theorem dL_law_23 : decode code 23 = .ok (.isub, 1) := by decide +kernel
theorem dL_law_24 : decode code 24 = .ok (.if_icmp .gt 1915, 3) := by decide +kernel
theorem dL_law_27 : decode code 27 = .ok (.aload_n 0, 1) := by decide +kernel
theorem dL_law_28 : decode code 28 = .ok (.iload_n 3, 1) := by decide +kernel
theorem dL_law_29 : decode code 29 = .ok (.iaload, 1) := by decide +kernel
theorem dL_law_30 : decode code 30 = .ok (.bipush 63, 2) := by decide +kernel
theorem dL_law_32 : decode code 32 = .ok (.iand, 1) := by decide +kernel
theorem dL_law_33 : decode code 33 = .ok (.tableswitch 1900 0 54 #[235, 298, 321, 334, 357, 400, 433, 466, 489, 512, 535, 558, 581, 604, 627, 660, 703, 736, 759, 782, 815, 838, 861, 884, 917, 940, 963, 986, 1019, 1052, 1085, 1108, 1141, 1164, 1207, 1240, 1263, 1286, 1329, 1342, 1365, 1408, 1441, 1464, 1497, 1530, 1553, 1586, 1619, 1652, 1675, 1698, 1721, 1764, 1837], 235) := by decide +kernel
theorem dL_law_268 : decode code 268 = .ok (.aload_n 1, 1) := by decide +kernel
theorem dL_law_269 : decode code 269 = .ok (.aload_n 0, 1) := by decide +kernel
theorem dL_law_270 : decode code 270 = .ok (.iload_n 3, 1) := by decide +kernel
theorem dL_law_271 : decode code 271 = .ok (.iconst 1, 1) := by decide +kernel
theorem dL_law_272 : decode code 272 = .ok (.iadd, 1) := by decide +kernel
theorem dL_law_273 : decode code 273 = .ok (.iaload, 1) := by decide +kernel
theorem dL_law_274 : decode code 274 = .ok (.aload_n 0, 1) := by decide +kernel
theorem dL_law_275 : decode code 275 = .ok (.iload_n 3, 1) := by decide +kernel
theorem dL_law_276 : decode code 276 = .ok (.iconst 2, 1) := by decide +kernel
theorem dL_law_277 : decode code 277 = .ok (.iadd, 1) := by decide +kernel
theorem dL_law_278 : decode code 278 = .ok (.iaload, 1) := by decide +kernel
theorem dL_law_279 : decode code 279 = .ok (.aload_n 0, 1) := by decide +kernel
theorem dL_law_280 : decode code 280 = .ok (.iload_n 3, 1) := by decide +kernel
theorem dL_law_281 : decode code 281 = .ok (.iconst 3, 1) := by decide +kernel
theorem dL_law_282 : decode code 282 = .ok (.iadd, 1) := by decide +kernel
theorem dL_law_283 : decode code 283 = .ok (.iaload, 1) := by decide +kernel
theorem dL_law_284 : decode code 284 = .ok (.aload_n 0, 1) := by decide +kernel
theorem dL_law_285 : decode code 285 = .ok (.iload_n 3, 1) := by decide +kernel
theorem dL_law_286 : decode code 286 = .ok (.iconst 4, 1) := by decide +kernel
theorem dL_law_287 : decode code 287 = .ok (.iadd, 1) := by decide +kernel
theorem dL_law_288 : decode code 288 = .ok (.iaload, 1) := by decide +kernel
theorem dL_law_289 : decode code 289 = .ok (.aload_n 0, 1) := by decide +kernel
theorem dL_law_290 : decode code 290 = .ok (.iload_n 3, 1) := by decide +kernel
theorem dL_law_291 : decode code 291 = .ok (.iconst 5, 1) := by decide +kernel
theorem dL_law_292 : decode code 292 = .ok (.iadd, 1) := by decide +kernel
theorem dL_law_293 : decode code 293 = .ok (.iaload, 1) := by decide +kernel
theorem dL_law_294 : decode code 294 = .ok (.invokevirtual 13, 3) := by decide +kernel
theorem dL_law_297 : decode code 297 = .ok (.pop, 1) := by decide +kernel
theorem dL_law_298 : decode code 298 = .ok (.aload_n 2, 1) := by decide +kernel
theorem dL_law_299 : decode code 299 = .ok (.aload_n 0, 1) := by decide +kernel
theorem dL_law_300 : decode code 300 = .ok (.iload_n 3, 1) := by decide +kernel
theorem dL_law_301 : decode code 301 = .ok (.iconst 1, 1) := by decide +kernel
theorem dL_law_302 : decode code 302 = .ok (.iadd, 1) := by decide +kernel
theorem dL_law_303 : decode code 303 = .ok (.iaload, 1) := by decide +kernel
theorem dL_law_304 : decode code 304 = .ok (.aload_n 0, 1) := by decide +kernel
theorem dL_law_305 : decode code 305 = .ok (.iload_n 3, 1) := by decide +kernel
theorem dL_law_306 : decode code 306 = .ok (.iconst 2, 1) := by decide +kernel
theorem dL_law_307 : decode code 307 = .ok (.iadd, 1) := by decide +kernel
theorem dL_law_308 : decode code 308 = .ok (.iaload, 1) := by decide +kernel
theorem dL_law_309 : decode code 309 = .ok (.aload_n 0, 1) := by decide +kernel
theorem dL_law_310 : decode code 310 = .ok (.iload_n 3, 1) := by decide +kernel
theorem dL_law_311 : decode code 311 = .ok (.iconst 3, 1) := by decide +kernel
theorem dL_law_312 : decode code 312 = .ok (.iadd, 1) := by decide +kernel
theorem dL_law_313 : decode code 313 = .ok (.iaload, 1) := by decide +kernel
theorem dL_law_314 : decode code 314 = .ok (.aload_n 0, 1) := by decide +kernel
theorem dL_law_315 : decode code 315 = .ok (.iload_n 3, 1) := by decide +kernel
theorem dL_law_316 : decode code 316 = .ok (.iconst 4, 1) := by decide +kernel
theorem dL_law_317 : decode code 317 = .ok (.iadd, 1) := by decide +kernel
theorem dL_law_318 : decode code 318 = .ok (.iaload, 1) := by decide +kernel
theorem dL_law_319 : decode code 319 = .ok (.aload_n 0, 1) := by decide +kernel
theorem dL_law_320 : decode code 320 = .ok (.iload_n 3, 1) := by decide +kernel
theorem dL_law_321 : decode code 321 = .ok (.iconst 5, 1) := by decide +kernel
theorem dL_law_322 : decode code 322 = .ok (.iadd, 1) := by decide +kernel
theorem dL_law_323 : decode code 323 = .ok (.iaload, 1) := by decide +kernel
theorem dL_law_324 : decode code 324 = .ok (.invokevirtual 17, 3) := by decide +kernel
theorem dL_law_327 : decode code 327 = .ok (.pop, 1) := by decide +kernel
theorem dL_law_328 : decode code 328 = .ok (.goto 1605, 3) := by decide +kernel
theorem dL_law_331 : decode code 331 = .ok (.aload_n 1, 1) := by decide +kernel
theorem dL_law_332 : decode code 332 = .ok (.aload_n 0, 1) := by decide +kernel
theorem dL_law_333 : decode code 333 = .ok (.iload_n 3, 1) := by decide +kernel
theorem dL_law_334 : decode code 334 = .ok (.iconst 1, 1) := by decide +kernel
theorem dL_law_335 : decode code 335 = .ok (.iadd, 1) := by decide +kernel
theorem dL_law_336 : decode code 336 = .ok (.iaload, 1) := by decide +kernel
theorem dL_law_337 : decode code 337 = .ok (.invokevirtual 18, 3) := by decide +kernel
theorem dL_law_340 : decode code 340 = .ok (.pop, 1) := by decide +kernel
theorem dL_law_341 : decode code 341 = .ok (.aload_n 2, 1) := by decide +kernel
theorem dL_law_342 : decode code 342 = .ok (.aload_n 0, 1) := by decide +kernel
theorem dL_law_343 : decode code 343 = .ok (.iload_n 3, 1) := by decide +kernel
theorem dL_law_344 : decode code 344 = .ok (.iconst 1, 1) := by decide +kernel
theorem dL_law_345 : decode code 345 = .ok (.iadd, 1) := by decide +kernel
theorem dL_law_346 : decode code 346 = .ok (.iaload, 1) := by decide +kernel
theorem dL_law_347 : decode code 347 = .ok (.invokevirtual 22, 3) := by decide +kernel
theorem dL_law_350 : decode code 350 = .ok (.pop, 1) := by decide +kernel
theorem dL_law_351 : decode code 351 = .ok (.goto 1582, 3) := by decide +kernel
theorem dL_law_354 : decode code 354 = .ok (.aload_n 1, 1) := by decide +kernel
theorem dL_law_355 : decode code 355 = .ok (.invokevirtual 23, 3) := by decide +kernel
theorem dL_law_358 : decode code 358 = .ok (.pop, 1) := by decide +kernel
theorem dL_law_359 : decode code 359 = .ok (.aload_n 2, 1) := by decide +kernel
theorem dL_law_360 : decode code 360 = .ok (.invokevirtual 27, 3) := by decide +kernel
theorem dL_law_363 : decode code 363 = .ok (.pop, 1) := by decide +kernel
theorem dL_law_364 : decode code 364 = .ok (.goto 1569, 3) := by decide +kernel
theorem dL_law_367 : decode code 367 = .ok (.aload_n 1, 1) := by decide +kernel
theorem dL_law_368 : decode code 368 = .ok (.aload_n 0, 1) := by decide +kernel
theorem dL_law_369 : decode code 369 = .ok (.iload_n 3, 1) := by decide +kernel
theorem dL_law_370 : decode code 370 = .ok (.iconst 1, 1) := by decide +kernel
theorem dL_law_371 : decode code 371 = .ok (.iadd, 1) := by decide +kernel
theorem dL_law_372 : decode code 372 = .ok (.iaload, 1) := by decide +kernel
theorem dL_law_373 : decode code 373 = .ok (.invokevirtual 28, 3) := by decide +kernel
theorem dL_law_376 : decode code 376 = .ok (.pop, 1) := by decide +kernel
theorem dL_law_377 : decode code 377 = .ok (.aload_n 2, 1) := by decide +kernel
theorem dL_law_378 : decode code 378 = .ok (.aload_n 0, 1) := by decide +kernel
theorem dL_law_379 : decode code 379 = .ok (.iload_n 3, 1) := by decide +kernel
theorem dL_law_380 : decode code 380 = .ok (.iconst 1, 1) := by decide +kernel
theorem dL_law_381 : decode code 381 = .ok (.iadd, 1) := by decide +kernel
theorem dL_law_382 : decode code 382 = .ok (.iaload, 1) := by decide +kernel
theorem dL_law_383 : decode code 383 = .ok (.invokevirtual 31, 3) := by decide +kernel
theorem dL_law_386 : decode code 386 = .ok (.pop, 1) := by decide +kernel
theorem dL_law_387 : decode code 387 = .ok (.goto 1546, 3) := by decide +kernel
theorem dL_law_390 : decode code 390 = .ok (.aload_n 1, 1) := by decide +kernel
theorem dL_law_391 : decode code 391 = .ok (.aload_n 0, 1) := by decide +kernel
theorem dL_law_392 : decode code 392 = .ok (.iload_n 3, 1) := by decide +kernel
theorem dL_law_393 : decode code 393 = .ok (.iconst 1, 1) := by decide +kernel
theorem dL_law_394 : decode code 394 = .ok (.iadd, 1) := by decide +kernel
theorem dL_law_395 : decode code 395 = .ok (.iaload, 1) := by decide +kernel
theorem dL_law_396 : decode code 396 = .ok (.aload_n 0, 1) := by decide +kernel
theorem dL_law_397 : decode code 397 = .ok (.iload_n 3, 1) := by decide +kernel
theorem dL_law_398 : decode code 398 = .ok (.iconst 2, 1) := by decide +kernel
theorem dL_law_399 : decode code 399 = .ok (.iadd, 1) := by decide +kernel
theorem dL_law_400 : decode code 400 = .ok (.iaload, 1) := by decide +kernel
theorem dL_law_401 : decode code 401 = .ok (.aload_n 0, 1) := by decide +kernel
theorem dL_law_402 : decode code 402 = .ok (.iload_n 3, 1) := by decide +kernel
theorem dL_law_403 : decode code 403 = .ok (.iconst 3, 1) := by decide +kernel
theorem dL_law_404 : decode code 404 = .ok (.iadd, 1) := by decide +kernel
theorem dL_law_405 : decode code 405 = .ok (.iaload, 1) := by decide +kernel
theorem dL_law_406 : decode code 406 = .ok (.invokevirtual 32, 3) := by decide +kernel
theorem dL_law_409 : decode code 409 = .ok (.pop, 1) := by decide +kernel
theorem dL_law_410 : decode code 410 = .ok (.aload_n 2, 1) := by decide +kernel
theorem dL_law_411 : decode code 411 = .ok (.aload_n 0, 1) := by decide +kernel
theorem dL_law_412 : decode code 412 = .ok (.iload_n 3, 1) := by decide +kernel
theorem dL_law_413 : decode code 413 = .ok (.iconst 1, 1) := by decide +kernel
theorem dL_law_414 : decode code 414 = .ok (.iadd, 1) := by decide +kernel
theorem dL_law_415 : decode code 415 = .ok (.iaload, 1) := by decide +kernel
theorem dL_law_416 : decode code 416 = .ok (.aload_n 0, 1) := by decide +kernel
theorem dL_law_417 : decode code 417 = .ok (.iload_n 3, 1) := by decide +kernel
theorem dL_law_418 : decode code 418 = .ok (.iconst 2, 1) := by decide +kernel
theorem dL_law_419 : decode code 419 = .ok (.iadd, 1) := by decide +kernel
theorem dL_law_420 : decode code 420 = .ok (.iaload, 1) := by decide +kernel
theorem dL_law_421 : decode code 421 = .ok (.aload_n 0, 1) := by decide +kernel
theorem dL_law_422 : decode code 422 = .ok (.iload_n 3, 1) := by decide +kernel
theorem dL_law_423 : decode code 423 = .ok (.iconst 3, 1) := by decide +kernel
theorem dL_law_424 : decode code 424 = .ok (.iadd, 1) := by decide +kernel
theorem dL_law_425 : decode code 425 = .ok (.iaload, 1) := by decide +kernel
theorem dL_law_426 : decode code 426 = .ok (.invokevirtual 36, 3) := by decide +kernel
theorem dL_law_429 : decode code 429 = .ok (.pop, 1) := by decide +kernel
theorem dL_law_430 : decode code 430 = .ok (.goto 1503, 3) := by decide +kernel
theorem dL_law_433 : decode code 433 = .ok (.aload_n 1, 1) := by decide +kernel
theorem dL_law_434 : decode code 434 = .ok (.aload_n 0, 1) := by decide +kernel
theorem dL_law_435 : decode code 435 = .ok (.iload_n 3, 1) := by decide +kernel
theorem dL_law_436 : decode code 436 = .ok (.iconst 1, 1) := by decide +kernel
theorem dL_law_437 : decode code 437 = .ok (.iadd, 1) := by decide +kernel
theorem dL_law_438 : decode code 438 = .ok (.iaload, 1) := by decide +kernel
theorem dL_law_439 : decode code 439 = .ok (.aload_n 0, 1) := by decide +kernel
theorem dL_law_440 : decode code 440 = .ok (.iload_n 3, 1) := by decide +kernel
theorem dL_law_441 : decode code 441 = .ok (.iconst 2, 1) := by decide +kernel
theorem dL_law_442 : decode code 442 = .ok (.iadd, 1) := by decide +kernel
theorem dL_law_443 : decode code 443 = .ok (.iaload, 1) := by decide +kernel
theorem dL_law_444 : decode code 444 = .ok (.invokevirtual 37, 3) := by decide +kernel
theorem dL_law_447 : decode code 447 = .ok (.pop, 1) := by decide +kernel
theorem dL_law_448 : decode code 448 = .ok (.aload_n 2, 1) := by decide +kernel
theorem dL_law_449 : decode code 449 = .ok (.aload_n 0, 1) := by decide +kernel
theorem dL_law_450 : decode code 450 = .ok (.iload_n 3, 1) := by decide +kernel
theorem dL_law_451 : decode code 451 = .ok (.iconst 1, 1) := by decide +kernel
theorem dL_law_452 : decode code 452 = .ok (.iadd, 1) := by decide +kernel
theorem dL_law_453 : decode code 453 = .ok (.iaload, 1) := by decide +kernel
theorem dL_law_454 : decode code 454 = .ok (.aload_n 0, 1) := by decide +kernel
theorem dL_law_455 : decode code 455 = .ok (.iload_n 3, 1) := by decide +kernel
theorem dL_law_456 : decode code 456 = .ok (.iconst 2, 1) := by decide +kernel
theorem dL_law_457 : decode code 457 = .ok (.iadd, 1) := by decide +kernel
theorem dL_law_458 : decode code 458 = .ok (.iaload, 1) := by decide +kernel
theorem dL_law_459 : decode code 459 = .ok (.invokevirtual 41, 3) := by decide +kernel
theorem dL_law_462 : decode code 462 = .ok (.pop, 1) := by decide +kernel
theorem dL_law_463 : decode code 463 = .ok (.goto 1470, 3) := by decide +kernel
theorem dL_law_466 : decode code 466 = .ok (.aload_n 1, 1) := by decide +kernel
theorem dL_law_467 : decode code 467 = .ok (.aload_n 0, 1) := by decide +kernel
theorem dL_law_468 : decode code 468 = .ok (.iload_n 3, 1) := by decide +kernel
theorem dL_law_469 : decode code 469 = .ok (.iconst 1, 1) := by decide +kernel
theorem dL_law_470 : decode code 470 = .ok (.iadd, 1) := by decide +kernel
theorem dL_law_471 : decode code 471 = .ok (.iaload, 1) := by decide +kernel
theorem dL_law_472 : decode code 472 = .ok (.aload_n 0, 1) := by decide +kernel
theorem dL_law_473 : decode code 473 = .ok (.iload_n 3, 1) := by decide +kernel
theorem dL_law_474 : decode code 474 = .ok (.iconst 2, 1) := by decide +kernel
theorem dL_law_475 : decode code 475 = .ok (.iadd, 1) := by decide +kernel
theorem dL_law_476 : decode code 476 = .ok (.iaload, 1) := by decide +kernel
theorem dL_law_477 : decode code 477 = .ok (.invokevirtual 42, 3) := by decide +kernel
theorem dL_law_480 : decode code 480 = .ok (.pop, 1) := by decide +kernel
theorem dL_law_481 : decode code 481 = .ok (.aload_n 2, 1) := by decide +kernel
theorem dL_law_482 : decode code 482 = .ok (.aload_n 0, 1) := by decide +kernel
theorem dL_law_483 : decode code 483 = .ok (.iload_n 3, 1) := by decide +kernel
theorem dL_law_484 : decode code 484 = .ok (.iconst 1, 1) := by decide +kernel
theorem dL_law_485 : decode code 485 = .ok (.iadd, 1) := by decide +kernel
theorem dL_law_486 : decode code 486 = .ok (.iaload, 1) := by decide +kernel
theorem dL_law_487 : decode code 487 = .ok (.aload_n 0, 1) := by decide +kernel
theorem dL_law_488 : decode code 488 = .ok (.iload_n 3, 1) := by decide +kernel
theorem dL_law_489 : decode code 489 = .ok (.iconst 2, 1) := by decide +kernel
theorem dL_law_490 : decode code 490 = .ok (.iadd, 1) := by decide +kernel
theorem dL_law_491 : decode code 491 = .ok (.iaload, 1) := by decide +kernel
theorem dL_law_492 : decode code 492 = .ok (.invokevirtual 45, 3) := by decide +kernel
theorem dL_law_495 : decode code 495 = .ok (.pop, 1) := by decide +kernel
theorem dL_law_496 : decode code 496 = .ok (.goto 1437, 3) := by decide +kernel
theorem dL_law_499 : decode code 499 = .ok (.aload_n 1, 1) := by decide +kernel
theorem dL_law_500 : decode code 500 = .ok (.aload_n 0, 1) := by decide +kernel
theorem dL_law_501 : decode code 501 = .ok (.iload_n 3, 1) := by decide +kernel
theorem dL_law_502 : decode code 502 = .ok (.iconst 1, 1) := by decide +kernel
theorem dL_law_503 : decode code 503 = .ok (.iadd, 1) := by decide +kernel
theorem dL_law_504 : decode code 504 = .ok (.iaload, 1) := by decide +kernel
theorem dL_law_505 : decode code 505 = .ok (.invokevirtual 46, 3) := by decide +kernel
theorem dL_law_508 : decode code 508 = .ok (.pop, 1) := by decide +kernel
theorem dL_law_509 : decode code 509 = .ok (.aload_n 2, 1) := by decide +kernel
theorem dL_law_510 : decode code 510 = .ok (.aload_n 0, 1) := by decide +kernel
theorem dL_law_511 : decode code 511 = .ok (.iload_n 3, 1) := by decide +kernel
theorem dL_law_512 : decode code 512 = .ok (.iconst 1, 1) := by decide +kernel
theorem dL_law_513 : decode code 513 = .ok (.iadd, 1) := by decide +kernel
theorem dL_law_514 : decode code 514 = .ok (.iaload, 1) := by decide +kernel
theorem dL_law_515 : decode code 515 = .ok (.invokevirtual 49, 3) := by decide +kernel
theorem dL_law_518 : decode code 518 = .ok (.pop, 1) := by decide +kernel
theorem dL_law_519 : decode code 519 = .ok (.goto 1414, 3) := by decide +kernel
theorem dL_law_522 : decode code 522 = .ok (.aload_n 1, 1) := by decide +kernel
theorem dL_law_523 : decode code 523 = .ok (.aload_n 0, 1) := by decide +kernel
theorem dL_law_524 : decode code 524 = .ok (.iload_n 3, 1) := by decide +kernel
theorem dL_law_525 : decode code 525 = .ok (.iconst 1, 1) := by decide +kernel
theorem dL_law_526 : decode code 526 = .ok (.iadd, 1) := by decide +kernel
theorem dL_law_527 : decode code 527 = .ok (.iaload, 1) := by decide +kernel
theorem dL_law_528 : decode code 528 = .ok (.invokevirtual 50, 3) := by decide +kernel
theorem dL_law_531 : decode code 531 = .ok (.pop, 1) := by decide +kernel
theorem dL_law_532 : decode code 532 = .ok (.aload_n 2, 1) := by decide +kernel
theorem dL_law_533 : decode code 533 = .ok (.aload_n 0, 1) := by decide +kernel
theorem dL_law_534 : decode code 534 = .ok (.iload_n 3, 1) := by decide +kernel
theorem dL_law_535 : decode code 535 = .ok (.iconst 1, 1) := by decide +kernel
theorem dL_law_536 : decode code 536 = .ok (.iadd, 1) := by decide +kernel
theorem dL_law_537 : decode code 537 = .ok (.iaload, 1) := by decide +kernel
theorem dL_law_538 : decode code 538 = .ok (.invokevirtual 53, 3) := by decide +kernel
theorem dL_law_541 : decode code 541 = .ok (.pop, 1) := by decide +kernel
theorem dL_law_542 : decode code 542 = .ok (.goto 1391, 3) := by decide +kernel
theorem dL_law_545 : decode code 545 = .ok (.aload_n 1, 1) := by decide +kernel
theorem dL_law_546 : decode code 546 = .ok (.aload_n 0, 1) := by decide +kernel
theorem dL_law_547 : decode code 547 = .ok (.iload_n 3, 1) := by decide +kernel
theorem dL_law_548 : decode code 548 = .ok (.iconst 1, 1) := by decide +kernel
theorem dL_law_549 : decode code 549 = .ok (.iadd, 1) := by decide +kernel
theorem dL_law_550 : decode code 550 = .ok (.iaload, 1) := by decide +kernel
theorem dL_law_551 : decode code 551 = .ok (.invokevirtual 54, 3) := by decide +kernel
theorem dL_law_554 : decode code 554 = .ok (.pop, 1) := by decide +kernel
theorem dL_law_555 : decode code 555 = .ok (.aload_n 2, 1) := by decide +kernel
theorem dL_law_556 : decode code 556 = .ok (.aload_n 0, 1) := by decide +kernel
theorem dL_law_557 : decode code 557 = .ok (.iload_n 3, 1) := by decide +kernel
theorem dL_law_558 : decode code 558 = .ok (.iconst 1, 1) := by decide +kernel
theorem dL_law_559 : decode code 559 = .ok (.iadd, 1) := by decide +kernel
theorem dL_law_560 : decode code 560 = .ok (.iaload, 1) := by decide +kernel
theorem dL_law_561 : decode code 561 = .ok (.invokevirtual 57, 3) := by decide +kernel
theorem dL_law_564 : decode code 564 = .ok (.pop, 1) := by decide +kernel
theorem dL_law_565 : decode code 565 = .ok (.goto 1368, 3) := by decide +kernel
theorem dL_law_568 : decode code 568 = .ok (.aload_n 1, 1) := by decide +kernel
theorem dL_law_569 : decode code 569 = .ok (.aload_n 0, 1) := by decide +kernel
theorem dL_law_570 : decode code 570 = .ok (.iload_n 3, 1) := by decide +kernel
theorem dL_law_571 : decode code 571 = .ok (.iconst 1, 1) := by decide +kernel
theorem dL_law_572 : decode code 572 = .ok (.iadd, 1) := by decide +kernel
theorem dL_law_573 : decode code 573 = .ok (.iaload, 1) := by decide +kernel
theorem dL_law_574 : decode code 574 = .ok (.invokevirtual 58, 3) := by decide +kernel
theorem dL_law_577 : decode code 577 = .ok (.pop, 1) := by decide +kernel
theorem dL_law_578 : decode code 578 = .ok (.aload_n 2, 1) := by decide +kernel
theorem dL_law_579 : decode code 579 = .ok (.aload_n 0, 1) := by decide +kernel
theorem dL_law_580 : decode code 580 = .ok (.iload_n 3, 1) := by decide +kernel
theorem dL_law_581 : decode code 581 = .ok (.iconst 1, 1) := by decide +kernel
theorem dL_law_582 : decode code 582 = .ok (.iadd, 1) := by decide +kernel
theorem dL_law_583 : decode code 583 = .ok (.iaload, 1) := by decide +kernel
theorem dL_law_584 : decode code 584 = .ok (.invokevirtual 61, 3) := by decide +kernel
theorem dL_law_587 : decode code 587 = .ok (.pop, 1) := by decide +kernel
theorem dL_law_588 : decode code 588 = .ok (.goto 1345, 3) := by decide +kernel
theorem dL_law_591 : decode code 591 = .ok (.aload_n 1, 1) := by decide +kernel
theorem dL_law_592 : decode code 592 = .ok (.aload_n 0, 1) := by decide +kernel
theorem dL_law_593 : decode code 593 = .ok (.iload_n 3, 1) := by decide +kernel
theorem dL_law_594 : decode code 594 = .ok (.iconst 1, 1) := by decide +kernel
theorem dL_law_595 : decode code 595 = .ok (.iadd, 1) := by decide +kernel
theorem dL_law_596 : decode code 596 = .ok (.iaload, 1) := by decide +kernel
theorem dL_law_597 : decode code 597 = .ok (.invokevirtual 62, 3) := by decide +kernel
theorem dL_law_600 : decode code 600 = .ok (.pop, 1) := by decide +kernel
theorem dL_law_601 : decode code 601 = .ok (.aload_n 2, 1) := by decide +kernel
theorem dL_law_602 : decode code 602 = .ok (.aload_n 0, 1) := by decide +kernel
theorem dL_law_603 : decode code 603 = .ok (.iload_n 3, 1) := by decide +kernel
theorem dL_law_604 : decode code 604 = .ok (.iconst 1, 1) := by decide +kernel
theorem dL_law_605 : decode code 605 = .ok (.iadd, 1) := by decide +kernel
theorem dL_law_606 : decode code 606 = .ok (.iaload, 1) := by decide +kernel
theorem dL_law_607 : decode code 607 = .ok (.invokevirtual 65, 3) := by decide +kernel
theorem dL_law_610 : decode code 610 = .ok (.pop, 1) := by decide +kernel
theorem dL_law_611 : decode code 611 = .ok (.goto 1322, 3) := by decide +kernel
theorem dL_law_614 : decode code 614 = .ok (.aload_n 1, 1) := by decide +kernel
theorem dL_law_615 : decode code 615 = .ok (.aload_n 0, 1) := by decide +kernel
theorem dL_law_616 : decode code 616 = .ok (.iload_n 3, 1) := by decide +kernel
theorem dL_law_617 : decode code 617 = .ok (.iconst 1, 1) := by decide +kernel
theorem dL_law_618 : decode code 618 = .ok (.iadd, 1) := by decide +kernel
theorem dL_law_619 : decode code 619 = .ok (.iaload, 1) := by decide +kernel
theorem dL_law_620 : decode code 620 = .ok (.invokevirtual 66, 3) := by decide +kernel
theorem dL_law_623 : decode code 623 = .ok (.pop, 1) := by decide +kernel
theorem dL_law_624 : decode code 624 = .ok (.aload_n 2, 1) := by decide +kernel
theorem dL_law_625 : decode code 625 = .ok (.aload_n 0, 1) := by decide +kernel
theorem dL_law_626 : decode code 626 = .ok (.iload_n 3, 1) := by decide +kernel
theorem dL_law_627 : decode code 627 = .ok (.iconst 1, 1) := by decide +kernel
theorem dL_law_628 : decode code 628 = .ok (.iadd, 1) := by decide +kernel
theorem dL_law_629 : decode code 629 = .ok (.iaload, 1) := by decide +kernel
theorem dL_law_630 : decode code 630 = .ok (.invokevirtual 69, 3) := by decide +kernel
theorem dL_law_633 : decode code 633 = .ok (.pop, 1) := by decide +kernel
theorem dL_law_634 : decode code 634 = .ok (.goto 1299, 3) := by decide +kernel
theorem dL_law_637 : decode code 637 = .ok (.aload_n 1, 1) := by decide +kernel
theorem dL_law_638 : decode code 638 = .ok (.aload_n 0, 1) := by decide +kernel
theorem dL_law_639 : decode code 639 = .ok (.iload_n 3, 1) := by decide +kernel
theorem dL_law_640 : decode code 640 = .ok (.iconst 1, 1) := by decide +kernel
theorem dL_law_641 : decode code 641 = .ok (.iadd, 1) := by decide +kernel
theorem dL_law_642 : decode code 642 = .ok (.iaload, 1) := by decide +kernel
theorem dL_law_643 : decode code 643 = .ok (.invokevirtual 70, 3) := by decide +kernel
theorem dL_law_646 : decode code 646 = .ok (.pop, 1) := by decide +kernel
theorem dL_law_647 : decode code 647 = .ok (.aload_n 2, 1) := by decide +kernel
theorem dL_law_648 : decode code 648 = .ok (.aload_n 0, 1) := by decide +kernel
theorem dL_law_649 : decode code 649 = .ok (.iload_n 3, 1) := by decide +kernel
theorem dL_law_650 : decode code 650 = .ok (.iconst 1, 1) := by decide +kernel
theorem dL_law_651 : decode code 651 = .ok (.iadd, 1) := by decide +kernel
theorem dL_law_652 : decode code 652 = .ok (.iaload, 1) := by decide +kernel
theorem dL_law_653 : decode code 653 = .ok (.invokevirtual 73, 3) := by decide +kernel
theorem dL_law_656 : decode code 656 = .ok (.pop, 1) := by decide +kernel
theorem dL_law_657 : decode code 657 = .ok (.goto 1276, 3) := by decide +kernel
theorem dL_law_660 : decode code 660 = .ok (.aload_n 1, 1) := by decide +kernel
theorem dL_law_661 : decode code 661 = .ok (.aload_n 0, 1) := by decide +kernel
theorem dL_law_662 : decode code 662 = .ok (.iload_n 3, 1) := by decide +kernel
theorem dL_law_663 : decode code 663 = .ok (.iconst 1, 1) := by decide +kernel
theorem dL_law_664 : decode code 664 = .ok (.iadd, 1) := by decide +kernel
theorem dL_law_665 : decode code 665 = .ok (.iaload, 1) := by decide +kernel
theorem dL_law_666 : decode code 666 = .ok (.aload_n 0, 1) := by decide +kernel
theorem dL_law_667 : decode code 667 = .ok (.iload_n 3, 1) := by decide +kernel
theorem dL_law_668 : decode code 668 = .ok (.iconst 2, 1) := by decide +kernel
theorem dL_law_669 : decode code 669 = .ok (.iadd, 1) := by decide +kernel
theorem dL_law_670 : decode code 670 = .ok (.iaload, 1) := by decide +kernel
theorem dL_law_671 : decode code 671 = .ok (.invokevirtual 74, 3) := by decide +kernel
theorem dL_law_674 : decode code 674 = .ok (.pop, 1) := by decide +kernel
theorem dL_law_675 : decode code 675 = .ok (.aload_n 2, 1) := by decide +kernel
theorem dL_law_676 : decode code 676 = .ok (.aload_n 0, 1) := by decide +kernel
theorem dL_law_677 : decode code 677 = .ok (.iload_n 3, 1) := by decide +kernel
theorem dL_law_678 : decode code 678 = .ok (.iconst 1, 1) := by decide +kernel
theorem dL_law_679 : decode code 679 = .ok (.iadd, 1) := by decide +kernel
theorem dL_law_680 : decode code 680 = .ok (.iaload, 1) := by decide +kernel
theorem dL_law_681 : decode code 681 = .ok (.aload_n 0, 1) := by decide +kernel
theorem dL_law_682 : decode code 682 = .ok (.iload_n 3, 1) := by decide +kernel
theorem dL_law_683 : decode code 683 = .ok (.iconst 2, 1) := by decide +kernel
theorem dL_law_684 : decode code 684 = .ok (.iadd, 1) := by decide +kernel
theorem dL_law_685 : decode code 685 = .ok (.iaload, 1) := by decide +kernel
theorem dL_law_686 : decode code 686 = .ok (.invokevirtual 77, 3) := by decide +kernel
theorem dL_law_689 : decode code 689 = .ok (.pop, 1) := by decide +kernel
theorem dL_law_690 : decode code 690 = .ok (.goto 1243, 3) := by decide +kernel
theorem dL_law_693 : decode code 693 = .ok (.aload_n 1, 1) := by decide +kernel
theorem dL_law_694 : decode code 694 = .ok (.aload_n 0, 1) := by decide +kernel
theorem dL_law_695 : decode code 695 = .ok (.iload_n 3, 1) := by decide +kernel
theorem dL_law_696 : decode code 696 = .ok (.iconst 1, 1) := by decide +kernel
theorem dL_law_697 : decode code 697 = .ok (.iadd, 1) := by decide +kernel
theorem dL_law_698 : decode code 698 = .ok (.iaload, 1) := by decide +kernel
theorem dL_law_699 : decode code 699 = .ok (.aload_n 0, 1) := by decide +kernel
theorem dL_law_700 : decode code 700 = .ok (.iload_n 3, 1) := by decide +kernel
theorem dL_law_701 : decode code 701 = .ok (.iconst 2, 1) := by decide +kernel
theorem dL_law_702 : decode code 702 = .ok (.iadd, 1) := by decide +kernel
theorem dL_law_703 : decode code 703 = .ok (.iaload, 1) := by decide +kernel
theorem dL_law_704 : decode code 704 = .ok (.aload_n 0, 1) := by decide +kernel
theorem dL_law_705 : decode code 705 = .ok (.iload_n 3, 1) := by decide +kernel
theorem dL_law_706 : decode code 706 = .ok (.iconst 3, 1) := by decide +kernel
theorem dL_law_707 : decode code 707 = .ok (.iadd, 1) := by decide +kernel
theorem dL_law_708 : decode code 708 = .ok (.iaload, 1) := by decide +kernel
theorem dL_law_709 : decode code 709 = .ok (.invokevirtual 78, 3) := by decide +kernel
theorem dL_law_712 : decode code 712 = .ok (.pop, 1) := by decide +kernel
theorem dL_law_713 : decode code 713 = .ok (.aload_n 2, 1) := by decide +kernel
theorem dL_law_714 : decode code 714 = .ok (.aload_n 0, 1) := by decide +kernel
theorem dL_law_715 : decode code 715 = .ok (.iload_n 3, 1) := by decide +kernel
theorem dL_law_716 : decode code 716 = .ok (.iconst 1, 1) := by decide +kernel
theorem dL_law_717 : decode code 717 = .ok (.iadd, 1) := by decide +kernel
theorem dL_law_718 : decode code 718 = .ok (.iaload, 1) := by decide +kernel
theorem dL_law_719 : decode code 719 = .ok (.aload_n 0, 1) := by decide +kernel
theorem dL_law_720 : decode code 720 = .ok (.iload_n 3, 1) := by decide +kernel
theorem dL_law_721 : decode code 721 = .ok (.iconst 2, 1) := by decide +kernel
theorem dL_law_722 : decode code 722 = .ok (.iadd, 1) := by decide +kernel
theorem dL_law_723 : decode code 723 = .ok (.iaload, 1) := by decide +kernel
theorem dL_law_724 : decode code 724 = .ok (.aload_n 0, 1) := by decide +kernel
theorem dL_law_725 : decode code 725 = .ok (.iload_n 3, 1) := by decide +kernel
theorem dL_law_726 : decode code 726 = .ok (.iconst 3, 1) := by decide +kernel
theorem dL_law_727 : decode code 727 = .ok (.iadd, 1) := by decide +kernel
theorem dL_law_728 : decode code 728 = .ok (.iaload, 1) := by decide +kernel
theorem dL_law_729 : decode code 729 = .ok (.invokevirtual 81, 3) := by decide +kernel
theorem dL_law_732 : decode code 732 = .ok (.pop, 1) := by decide +kernel
theorem dL_law_733 : decode code 733 = .ok (.goto 1200, 3) := by decide +kernel
theorem dL_law_736 : decode code 736 = .ok (.aload_n 1, 1) := by decide +kernel
theorem dL_law_737 : decode code 737 = .ok (.aload_n 0, 1) := by decide +kernel
theorem dL_law_738 : decode code 738 = .ok (.iload_n 3, 1) := by decide +kernel
theorem dL_law_739 : decode code 739 = .ok (.iconst 1, 1) := by decide +kernel
theorem dL_law_740 : decode code 740 = .ok (.iadd, 1) := by decide +kernel
theorem dL_law_741 : decode code 741 = .ok (.iaload, 1) := by decide +kernel
theorem dL_law_742 : decode code 742 = .ok (.aload_n 0, 1) := by decide +kernel
theorem dL_law_743 : decode code 743 = .ok (.iload_n 3, 1) := by decide +kernel
theorem dL_law_744 : decode code 744 = .ok (.iconst 2, 1) := by decide +kernel
theorem dL_law_745 : decode code 745 = .ok (.iadd, 1) := by decide +kernel
theorem dL_law_746 : decode code 746 = .ok (.iaload, 1) := by decide +kernel
theorem dL_law_747 : decode code 747 = .ok (.invokevirtual 82, 3) := by decide +kernel
theorem dL_law_750 : decode code 750 = .ok (.pop, 1) := by decide +kernel
theorem dL_law_751 : decode code 751 = .ok (.aload_n 2, 1) := by decide +kernel
theorem dL_law_752 : decode code 752 = .ok (.aload_n 0, 1) := by decide +kernel
theorem dL_law_753 : decode code 753 = .ok (.iload_n 3, 1) := by decide +kernel
theorem dL_law_754 : decode code 754 = .ok (.iconst 1, 1) := by decide +kernel
theorem dL_law_755 : decode code 755 = .ok (.iadd, 1) := by decide +kernel
theorem dL_law_756 : decode code 756 = .ok (.iaload, 1) := by decide +kernel
theorem dL_law_757 : decode code 757 = .ok (.aload_n 0, 1) := by decide +kernel
theorem dL_law_758 : decode code 758 = .ok (.iload_n 3, 1) := by decide +kernel
theorem dL_law_759 : decode code 759 = .ok (.iconst 2, 1) := by decide +kernel
theorem dL_law_760 : decode code 760 = .ok (.iadd, 1) := by decide +kernel
theorem dL_law_761 : decode code 761 = .ok (.iaload, 1) := by decide +kernel
theorem dL_law_762 : decode code 762 = .ok (.invokevirtual 85, 3) := by decide +kernel
theorem dL_law_765 : decode code 765 = .ok (.pop, 1) := by decide +kernel
theorem dL_law_766 : decode code 766 = .ok (.goto 1167, 3) := by decide +kernel
theorem dL_law_769 : decode code 769 = .ok (.aload_n 1, 1) := by decide +kernel
theorem dL_law_770 : decode code 770 = .ok (.aload_n 0, 1) := by decide +kernel
theorem dL_law_771 : decode code 771 = .ok (.iload_n 3, 1) := by decide +kernel
theorem dL_law_772 : decode code 772 = .ok (.iconst 1, 1) := by decide +kernel
theorem dL_law_773 : decode code 773 = .ok (.iadd, 1) := by decide +kernel
theorem dL_law_774 : decode code 774 = .ok (.iaload, 1) := by decide +kernel
theorem dL_law_775 : decode code 775 = .ok (.invokevirtual 86, 3) := by decide +kernel
theorem dL_law_778 : decode code 778 = .ok (.pop, 1) := by decide +kernel
theorem dL_law_779 : decode code 779 = .ok (.aload_n 2, 1) := by decide +kernel
theorem dL_law_780 : decode code 780 = .ok (.aload_n 0, 1) := by decide +kernel
theorem dL_law_781 : decode code 781 = .ok (.iload_n 3, 1) := by decide +kernel
theorem dL_law_782 : decode code 782 = .ok (.iconst 1, 1) := by decide +kernel
theorem dL_law_783 : decode code 783 = .ok (.iadd, 1) := by decide +kernel
theorem dL_law_784 : decode code 784 = .ok (.iaload, 1) := by decide +kernel
theorem dL_law_785 : decode code 785 = .ok (.invokevirtual 89, 3) := by decide +kernel
theorem dL_law_788 : decode code 788 = .ok (.pop, 1) := by decide +kernel
theorem dL_law_789 : decode code 789 = .ok (.goto 1144, 3) := by decide +kernel
theorem dL_law_792 : decode code 792 = .ok (.aload_n 1, 1) := by decide +kernel
theorem dL_law_793 : decode code 793 = .ok (.aload_n 0, 1) := by decide +kernel
theorem dL_law_794 : decode code 794 = .ok (.iload_n 3, 1) := by decide +kernel
theorem dL_law_795 : decode code 795 = .ok (.iconst 1, 1) := by decide +kernel
theorem dL_law_796 : decode code 796 = .ok (.iadd, 1) := by decide +kernel
theorem dL_law_797 : decode code 797 = .ok (.iaload, 1) := by decide +kernel
theorem dL_law_798 : decode code 798 = .ok (.invokevirtual 90, 3) := by decide +kernel
theorem dL_law_801 : decode code 801 = .ok (.pop, 1) := by decide +kernel
theorem dL_law_802 : decode code 802 = .ok (.aload_n 2, 1) := by decide +kernel
theorem dL_law_803 : decode code 803 = .ok (.aload_n 0, 1) := by decide +kernel
theorem dL_law_804 : decode code 804 = .ok (.iload_n 3, 1) := by decide +kernel
theorem dL_law_805 : decode code 805 = .ok (.iconst 1, 1) := by decide +kernel
theorem dL_law_806 : decode code 806 = .ok (.iadd, 1) := by decide +kernel
theorem dL_law_807 : decode code 807 = .ok (.iaload, 1) := by decide +kernel
theorem dL_law_808 : decode code 808 = .ok (.invokevirtual 93, 3) := by decide +kernel
theorem dL_law_811 : decode code 811 = .ok (.pop, 1) := by decide +kernel
theorem dL_law_812 : decode code 812 = .ok (.goto 1121, 3) := by decide +kernel
theorem dL_law_815 : decode code 815 = .ok (.aload_n 1, 1) := by decide +kernel
theorem dL_law_816 : decode code 816 = .ok (.aload_n 0, 1) := by decide +kernel
theorem dL_law_817 : decode code 817 = .ok (.iload_n 3, 1) := by decide +kernel
theorem dL_law_818 : decode code 818 = .ok (.iconst 1, 1) := by decide +kernel
theorem dL_law_819 : decode code 819 = .ok (.iadd, 1) := by decide +kernel
theorem dL_law_820 : decode code 820 = .ok (.iaload, 1) := by decide +kernel
theorem dL_law_821 : decode code 821 = .ok (.aload_n 0, 1) := by decide +kernel
theorem dL_law_822 : decode code 822 = .ok (.iload_n 3, 1) := by decide +kernel
theorem dL_law_823 : decode code 823 = .ok (.iconst 2, 1) := by decide +kernel
theorem dL_law_824 : decode code 824 = .ok (.iadd, 1) := by decide +kernel
theorem dL_law_825 : decode code 825 = .ok (.iaload, 1) := by decide +kernel
theorem dL_law_826 : decode code 826 = .ok (.invokevirtual 94, 3) := by decide +kernel
theorem dL_law_829 : decode code 829 = .ok (.pop, 1) := by decide +kernel
theorem dL_law_830 : decode code 830 = .ok (.aload_n 2, 1) := by decide +kernel
theorem dL_law_831 : decode code 831 = .ok (.aload_n 0, 1) := by decide +kernel
theorem dL_law_832 : decode code 832 = .ok (.iload_n 3, 1) := by decide +kernel
theorem dL_law_833 : decode code 833 = .ok (.iconst 1, 1) := by decide +kernel
theorem dL_law_834 : decode code 834 = .ok (.iadd, 1) := by decide +kernel
theorem dL_law_835 : decode code 835 = .ok (.iaload, 1) := by decide +kernel
theorem dL_law_836 : decode code 836 = .ok (.aload_n 0, 1) := by decide +kernel
theorem dL_law_837 : decode code 837 = .ok (.iload_n 3, 1) := by decide +kernel
theorem dL_law_838 : decode code 838 = .ok (.iconst 2, 1) := by decide +kernel
theorem dL_law_839 : decode code 839 = .ok (.iadd, 1) := by decide +kernel
theorem dL_law_840 : decode code 840 = .ok (.iaload, 1) := by decide +kernel
theorem dL_law_841 : decode code 841 = .ok (.invokevirtual 97, 3) := by decide +kernel
theorem dL_law_844 : decode code 844 = .ok (.pop, 1) := by decide +kernel
theorem dL_law_845 : decode code 845 = .ok (.goto 1088, 3) := by decide +kernel
theorem dL_law_848 : decode code 848 = .ok (.aload_n 1, 1) := by decide +kernel
theorem dL_law_849 : decode code 849 = .ok (.aload_n 0, 1) := by decide +kernel
theorem dL_law_850 : decode code 850 = .ok (.iload_n 3, 1) := by decide +kernel
theorem dL_law_851 : decode code 851 = .ok (.iconst 1, 1) := by decide +kernel
theorem dL_law_852 : decode code 852 = .ok (.iadd, 1) := by decide +kernel
theorem dL_law_853 : decode code 853 = .ok (.iaload, 1) := by decide +kernel
theorem dL_law_854 : decode code 854 = .ok (.invokevirtual 98, 3) := by decide +kernel
theorem dL_law_857 : decode code 857 = .ok (.pop, 1) := by decide +kernel
theorem dL_law_858 : decode code 858 = .ok (.aload_n 2, 1) := by decide +kernel
theorem dL_law_859 : decode code 859 = .ok (.aload_n 0, 1) := by decide +kernel
theorem dL_law_860 : decode code 860 = .ok (.iload_n 3, 1) := by decide +kernel
theorem dL_law_861 : decode code 861 = .ok (.iconst 1, 1) := by decide +kernel
theorem dL_law_862 : decode code 862 = .ok (.iadd, 1) := by decide +kernel
theorem dL_law_863 : decode code 863 = .ok (.iaload, 1) := by decide +kernel
theorem dL_law_864 : decode code 864 = .ok (.invokevirtual 101, 3) := by decide +kernel
theorem dL_law_867 : decode code 867 = .ok (.pop, 1) := by decide +kernel
theorem dL_law_868 : decode code 868 = .ok (.goto 1065, 3) := by decide +kernel
theorem dL_law_871 : decode code 871 = .ok (.aload_n 1, 1) := by decide +kernel
theorem dL_law_872 : decode code 872 = .ok (.aload_n 0, 1) := by decide +kernel
theorem dL_law_873 : decode code 873 = .ok (.iload_n 3, 1) := by decide +kernel
theorem dL_law_874 : decode code 874 = .ok (.iconst 1, 1) := by decide +kernel
theorem dL_law_875 : decode code 875 = .ok (.iadd, 1) := by decide +kernel
theorem dL_law_876 : decode code 876 = .ok (.iaload, 1) := by decide +kernel
theorem dL_law_877 : decode code 877 = .ok (.invokevirtual 102, 3) := by decide +kernel
theorem dL_law_880 : decode code 880 = .ok (.pop, 1) := by decide +kernel
theorem dL_law_881 : decode code 881 = .ok (.aload_n 2, 1) := by decide +kernel
theorem dL_law_882 : decode code 882 = .ok (.aload_n 0, 1) := by decide +kernel
theorem dL_law_883 : decode code 883 = .ok (.iload_n 3, 1) := by decide +kernel
theorem dL_law_884 : decode code 884 = .ok (.iconst 1, 1) := by decide +kernel
theorem dL_law_885 : decode code 885 = .ok (.iadd, 1) := by decide +kernel
theorem dL_law_886 : decode code 886 = .ok (.iaload, 1) := by decide +kernel
theorem dL_law_887 : decode code 887 = .ok (.invokevirtual 105, 3) := by decide +kernel
theorem dL_law_890 : decode code 890 = .ok (.pop, 1) := by decide +kernel
theorem dL_law_891 : decode code 891 = .ok (.goto 1042, 3) := by decide +kernel
theorem dL_law_894 : decode code 894 = .ok (.aload_n 1, 1) := by decide +kernel
theorem dL_law_895 : decode code 895 = .ok (.aload_n 0, 1) := by decide +kernel
theorem dL_law_896 : decode code 896 = .ok (.iload_n 3, 1) := by decide +kernel
theorem dL_law_897 : decode code 897 = .ok (.iconst 1, 1) := by decide +kernel
theorem dL_law_898 : decode code 898 = .ok (.iadd, 1) := by decide +kernel
theorem dL_law_899 : decode code 899 = .ok (.iaload, 1) := by decide +kernel
theorem dL_law_900 : decode code 900 = .ok (.invokevirtual 106, 3) := by decide +kernel
theorem dL_law_903 : decode code 903 = .ok (.pop, 1) := by decide +kernel
theorem dL_law_904 : decode code 904 = .ok (.aload_n 2, 1) := by decide +kernel
theorem dL_law_905 : decode code 905 = .ok (.aload_n 0, 1) := by decide +kernel
theorem dL_law_906 : decode code 906 = .ok (.iload_n 3, 1) := by decide +kernel
theorem dL_law_907 : decode code 907 = .ok (.iconst 1, 1) := by decide +kernel
theorem dL_law_908 : decode code 908 = .ok (.iadd, 1) := by decide +kernel
theorem dL_law_909 : decode code 909 = .ok (.iaload, 1) := by decide +kernel
theorem dL_law_910 : decode code 910 = .ok (.invokevirtual 109, 3) := by decide +kernel
theorem dL_law_913 : decode code 913 = .ok (.pop, 1) := by decide +kernel
theorem dL_law_914 : decode code 914 = .ok (.goto 1019, 3) := by decide +kernel
theorem dL_law_917 : decode code 917 = .ok (.aload_n 1, 1) := by decide +kernel
theorem dL_law_918 : decode code 918 = .ok (.aload_n 0, 1) := by decide +kernel
theorem dL_law_919 : decode code 919 = .ok (.iload_n 3, 1) := by decide +kernel
theorem dL_law_920 : decode code 920 = .ok (.iconst 1, 1) := by decide +kernel
theorem dL_law_921 : decode code 921 = .ok (.iadd, 1) := by decide +kernel
theorem dL_law_922 : decode code 922 = .ok (.iaload, 1) := by decide +kernel
theorem dL_law_923 : decode code 923 = .ok (.aload_n 0, 1) := by decide +kernel
theorem dL_law_924 : decode code 924 = .ok (.iload_n 3, 1) := by decide +kernel
theorem dL_law_925 : decode code 925 = .ok (.iconst 2, 1) := by decide +kernel
theorem dL_law_926 : decode code 926 = .ok (.iadd, 1) := by decide +kernel
theorem dL_law_927 : decode code 927 = .ok (.iaload, 1) := by decide +kernel
theorem dL_law_928 : decode code 928 = .ok (.invokevirtual 110, 3) := by decide +kernel
theorem dL_law_931 : decode code 931 = .ok (.pop, 1) := by decide +kernel
theorem dL_law_932 : decode code 932 = .ok (.aload_n 2, 1) := by decide +kernel
theorem dL_law_933 : decode code 933 = .ok (.aload_n 0, 1) := by decide +kernel
theorem dL_law_934 : decode code 934 = .ok (.iload_n 3, 1) := by decide +kernel
theorem dL_law_935 : decode code 935 = .ok (.iconst 1, 1) := by decide +kernel
theorem dL_law_936 : decode code 936 = .ok (.iadd, 1) := by decide +kernel
theorem dL_law_937 : decode code 937 = .ok (.iaload, 1) := by decide +kernel
theorem dL_law_938 : decode code 938 = .ok (.aload_n 0, 1) := by decide +kernel
theorem dL_law_939 : decode code 939 = .ok (.iload_n 3, 1) := by decide +kernel
theorem dL_law_940 : decode code 940 = .ok (.iconst 2, 1) := by decide +kernel
theorem dL_law_941 : decode code 941 = .ok (.iadd, 1) := by decide +kernel
theorem dL_law_942 : decode code 942 = .ok (.iaload, 1) := by decide +kernel
theorem dL_law_943 : decode code 943 = .ok (.invokevirtual 113, 3) := by decide +kernel
theorem dL_law_946 : decode code 946 = .ok (.pop, 1) := by decide +kernel
theorem dL_law_947 : decode code 947 = .ok (.goto 986, 3) := by decide +kernel
theorem dL_law_950 : decode code 950 = .ok (.aload_n 1, 1) := by decide +kernel
theorem dL_law_951 : decode code 951 = .ok (.aload_n 0, 1) := by decide +kernel
theorem dL_law_952 : decode code 952 = .ok (.iload_n 3, 1) := by decide +kernel
theorem dL_law_953 : decode code 953 = .ok (.iconst 1, 1) := by decide +kernel
theorem dL_law_954 : decode code 954 = .ok (.iadd, 1) := by decide +kernel
theorem dL_law_955 : decode code 955 = .ok (.iaload, 1) := by decide +kernel
theorem dL_law_956 : decode code 956 = .ok (.invokevirtual 114, 3) := by decide +kernel
theorem dL_law_959 : decode code 959 = .ok (.pop, 1) := by decide +kernel
theorem dL_law_960 : decode code 960 = .ok (.aload_n 2, 1) := by decide +kernel
theorem dL_law_961 : decode code 961 = .ok (.aload_n 0, 1) := by decide +kernel
theorem dL_law_962 : decode code 962 = .ok (.iload_n 3, 1) := by decide +kernel
theorem dL_law_963 : decode code 963 = .ok (.iconst 1, 1) := by decide +kernel
theorem dL_law_964 : decode code 964 = .ok (.iadd, 1) := by decide +kernel
theorem dL_law_965 : decode code 965 = .ok (.iaload, 1) := by decide +kernel
theorem dL_law_966 : decode code 966 = .ok (.invokevirtual 117, 3) := by decide +kernel
theorem dL_law_969 : decode code 969 = .ok (.pop, 1) := by decide +kernel
theorem dL_law_970 : decode code 970 = .ok (.goto 963, 3) := by decide +kernel
theorem dL_law_973 : decode code 973 = .ok (.aload_n 1, 1) := by decide +kernel
theorem dL_law_974 : decode code 974 = .ok (.aload_n 0, 1) := by decide +kernel
theorem dL_law_975 : decode code 975 = .ok (.iload_n 3, 1) := by decide +kernel
theorem dL_law_976 : decode code 976 = .ok (.iconst 1, 1) := by decide +kernel
theorem dL_law_977 : decode code 977 = .ok (.iadd, 1) := by decide +kernel
theorem dL_law_978 : decode code 978 = .ok (.iaload, 1) := by decide +kernel
theorem dL_law_979 : decode code 979 = .ok (.invokevirtual 118, 3) := by decide +kernel
theorem dL_law_982 : decode code 982 = .ok (.pop, 1) := by decide +kernel
theorem dL_law_983 : decode code 983 = .ok (.aload_n 2, 1) := by decide +kernel
theorem dL_law_984 : decode code 984 = .ok (.aload_n 0, 1) := by decide +kernel
theorem dL_law_985 : decode code 985 = .ok (.iload_n 3, 1) := by decide +kernel
theorem dL_law_986 : decode code 986 = .ok (.iconst 1, 1) := by decide +kernel
theorem dL_law_987 : decode code 987 = .ok (.iadd, 1) := by decide +kernel
theorem dL_law_988 : decode code 988 = .ok (.iaload, 1) := by decide +kernel
theorem dL_law_989 : decode code 989 = .ok (.invokevirtual 121, 3) := by decide +kernel
theorem dL_law_992 : decode code 992 = .ok (.pop, 1) := by decide +kernel
theorem dL_law_993 : decode code 993 = .ok (.goto 940, 3) := by decide +kernel
theorem dL_law_996 : decode code 996 = .ok (.aload_n 1, 1) := by decide +kernel
theorem dL_law_997 : decode code 997 = .ok (.aload_n 0, 1) := by decide +kernel
theorem dL_law_998 : decode code 998 = .ok (.iload_n 3, 1) := by decide +kernel
theorem dL_law_999 : decode code 999 = .ok (.iconst 1, 1) := by decide +kernel
theorem dL_law_1000 : decode code 1000 = .ok (.iadd, 1) := by decide +kernel
theorem dL_law_1001 : decode code 1001 = .ok (.iaload, 1) := by decide +kernel
theorem dL_law_1002 : decode code 1002 = .ok (.invokevirtual 122, 3) := by decide +kernel
theorem dL_law_1005 : decode code 1005 = .ok (.pop, 1) := by decide +kernel
theorem dL_law_1006 : decode code 1006 = .ok (.aload_n 2, 1) := by decide +kernel
theorem dL_law_1007 : decode code 1007 = .ok (.aload_n 0, 1) := by decide +kernel
theorem dL_law_1008 : decode code 1008 = .ok (.iload_n 3, 1) := by decide +kernel
theorem dL_law_1009 : decode code 1009 = .ok (.iconst 1, 1) := by decide +kernel
theorem dL_law_1010 : decode code 1010 = .ok (.iadd, 1) := by decide +kernel
theorem dL_law_1011 : decode code 1011 = .ok (.iaload, 1) := by decide +kernel
theorem dL_law_1012 : decode code 1012 = .ok (.invokevirtual 125, 3) := by decide +kernel
theorem dL_law_1015 : decode code 1015 = .ok (.pop, 1) := by decide +kernel
theorem dL_law_1016 : decode code 1016 = .ok (.goto 917, 3) := by decide +kernel
theorem dL_law_1019 : decode code 1019 = .ok (.aload_n 1, 1) := by decide +kernel
theorem dL_law_1020 : decode code 1020 = .ok (.aload_n 0, 1) := by decide +kernel
theorem dL_law_1021 : decode code 1021 = .ok (.iload_n 3, 1) := by decide +kernel
theorem dL_law_1022 : decode code 1022 = .ok (.iconst 1, 1) := by decide +kernel
theorem dL_law_1023 : decode code 1023 = .ok (.iadd, 1) := by decide +kernel
theorem dL_law_1024 : decode code 1024 = .ok (.iaload, 1) := by decide +kernel
theorem dL_law_1025 : decode code 1025 = .ok (.aload_n 0, 1) := by decide +kernel
theorem dL_law_1026 : decode code 1026 = .ok (.iload_n 3, 1) := by decide +kernel
theorem dL_law_1027 : decode code 1027 = .ok (.iconst 2, 1) := by decide +kernel
theorem dL_law_1028 : decode code 1028 = .ok (.iadd, 1) := by decide +kernel
theorem dL_law_1029 : decode code 1029 = .ok (.iaload, 1) := by decide +kernel
theorem dL_law_1030 : decode code 1030 = .ok (.invokevirtual 126, 3) := by decide +kernel
theorem dL_law_1033 : decode code 1033 = .ok (.pop, 1) := by decide +kernel
theorem dL_law_1034 : decode code 1034 = .ok (.aload_n 2, 1) := by decide +kernel
theorem dL_law_1035 : decode code 1035 = .ok (.aload_n 0, 1) := by decide +kernel
theorem dL_law_1036 : decode code 1036 = .ok (.iload_n 3, 1) := by decide +kernel
theorem dL_law_1037 : decode code 1037 = .ok (.iconst 1, 1) := by decide +kernel
theorem dL_law_1038 : decode code 1038 = .ok (.iadd, 1) := by decide +kernel
theorem dL_law_1039 : decode code 1039 = .ok (.iaload, 1) := by decide +kernel
theorem dL_law_1040 : decode code 1040 = .ok (.aload_n 0, 1) := by decide +kernel
theorem dL_law_1041 : decode code 1041 = .ok (.iload_n 3, 1) := by decide +kernel
theorem dL_law_1042 : decode code 1042 = .ok (.iconst 2, 1) := by decide +kernel
theorem dL_law_1043 : decode code 1043 = .ok (.iadd, 1) := by decide +kernel
theorem dL_law_1044 : decode code 1044 = .ok (.iaload, 1) := by decide +kernel
theorem dL_law_1045 : decode code 1045 = .ok (.invokevirtual 129, 3) := by decide +kernel
theorem dL_law_1048 : decode code 1048 = .ok (.pop, 1) := by decide +kernel
theorem dL_law_1049 : decode code 1049 = .ok (.goto 884, 3) := by decide +kernel
theorem dL_law_1052 : decode code 1052 = .ok (.aload_n 1, 1) := by decide +kernel
theorem dL_law_1053 : decode code 1053 = .ok (.aload_n 0, 1) := by decide +kernel
theorem dL_law_1054 : decode code 1054 = .ok (.iload_n 3, 1) := by decide +kernel
theorem dL_law_1055 : decode code 1055 = .ok (.iconst 1, 1) := by decide +kernel
theorem dL_law_1056 : decode code 1056 = .ok (.iadd, 1) := by decide +kernel
theorem dL_law_1057 : decode code 1057 = .ok (.iaload, 1) := by decide +kernel
theorem dL_law_1058 : decode code 1058 = .ok (.aload_n 0, 1) := by decide +kernel
theorem dL_law_1059 : decode code 1059 = .ok (.iload_n 3, 1) := by decide +kernel
theorem dL_law_1060 : decode code 1060 = .ok (.iconst 2, 1) := by decide +kernel
theorem dL_law_1061 : decode code 1061 = .ok (.iadd, 1) := by decide +kernel
theorem dL_law_1062 : decode code 1062 = .ok (.iaload, 1) := by decide +kernel
theorem dL_law_1063 : decode code 1063 = .ok (.invokevirtual 130, 3) := by decide +kernel
theorem dL_law_1066 : decode code 1066 = .ok (.pop, 1) := by decide +kernel
theorem dL_law_1067 : decode code 1067 = .ok (.aload_n 2, 1) := by decide +kernel
theorem dL_law_1068 : decode code 1068 = .ok (.aload_n 0, 1) := by decide +kernel
theorem dL_law_1069 : decode code 1069 = .ok (.iload_n 3, 1) := by decide +kernel
theorem dL_law_1070 : decode code 1070 = .ok (.iconst 1, 1) := by decide +kernel
theorem dL_law_1071 : decode code 1071 = .ok (.iadd, 1) := by decide +kernel
theorem dL_law_1072 : decode code 1072 = .ok (.iaload, 1) := by decide +kernel
theorem dL_law_1073 : decode code 1073 = .ok (.aload_n 0, 1) := by decide +kernel
theorem dL_law_1074 : decode code 1074 = .ok (.iload_n 3, 1) := by decide +kernel
theorem dL_law_1075 : decode code 1075 = .ok (.iconst 2, 1) := by decide +kernel
theorem dL_law_1076 : decode code 1076 = .ok (.iadd, 1) := by decide +kernel
theorem dL_law_1077 : decode code 1077 = .ok (.iaload, 1) := by decide +kernel
theorem dL_law_1078 : decode code 1078 = .ok (.invokevirtual 133, 3) := by decide +kernel
theorem dL_law_1081 : decode code 1081 = .ok (.pop, 1) := by decide +kernel
theorem dL_law_1082 : decode code 1082 = .ok (.goto 851, 3) := by decide +kernel
theorem dL_law_1085 : decode code 1085 = .ok (.aload_n 1, 1) := by decide +kernel
theorem dL_law_1086 : decode code 1086 = .ok (.aload_n 0, 1) := by decide +kernel
theorem dL_law_1087 : decode code 1087 = .ok (.iload_n 3, 1) := by decide +kernel
theorem dL_law_1088 : decode code 1088 = .ok (.iconst 1, 1) := by decide +kernel
theorem dL_law_1089 : decode code 1089 = .ok (.iadd, 1) := by decide +kernel
theorem dL_law_1090 : decode code 1090 = .ok (.iaload, 1) := by decide +kernel
theorem dL_law_1091 : decode code 1091 = .ok (.aload_n 0, 1) := by decide +kernel
theorem dL_law_1092 : decode code 1092 = .ok (.iload_n 3, 1) := by decide +kernel
theorem dL_law_1093 : decode code 1093 = .ok (.iconst 2, 1) := by decide +kernel
theorem dL_law_1094 : decode code 1094 = .ok (.iadd, 1) := by decide +kernel
theorem dL_law_1095 : decode code 1095 = .ok (.iaload, 1) := by decide +kernel
theorem dL_law_1096 : decode code 1096 = .ok (.invokevirtual 134, 3) := by decide +kernel
theorem dL_law_1099 : decode code 1099 = .ok (.pop, 1) := by decide +kernel
theorem dL_law_1100 : decode code 1100 = .ok (.aload_n 2, 1) := by decide +kernel
theorem dL_law_1101 : decode code 1101 = .ok (.aload_n 0, 1) := by decide +kernel
theorem dL_law_1102 : decode code 1102 = .ok (.iload_n 3, 1) := by decide +kernel
theorem dL_law_1103 : decode code 1103 = .ok (.iconst 1, 1) := by decide +kernel
theorem dL_law_1104 : decode code 1104 = .ok (.iadd, 1) := by decide +kernel
theorem dL_law_1105 : decode code 1105 = .ok (.iaload, 1) := by decide +kernel
theorem dL_law_1106 : decode code 1106 = .ok (.aload_n 0, 1) := by decide +kernel
theorem dL_law_1107 : decode code 1107 = .ok (.iload_n 3, 1) := by decide +kernel
theorem dL_law_1108 : decode code 1108 = .ok (.iconst 2, 1) := by decide +kernel
theorem dL_law_1109 : decode code 1109 = .ok (.iadd, 1) := by decide +kernel
theorem dL_law_1110 : decode code 1110 = .ok (.iaload, 1) := by decide +kernel
theorem dL_law_1111 : decode code 1111 = .ok (.invokevirtual 137, 3) := by decide +kernel
theorem dL_law_1114 : decode code 1114 = .ok (.pop, 1) := by decide +kernel
theorem dL_law_1115 : decode code 1115 = .ok (.goto 818, 3) := by decide +kernel
theorem dL_law_1118 : decode code 1118 = .ok (.aload_n 1, 1) := by decide +kernel
theorem dL_law_1119 : decode code 1119 = .ok (.aload_n 0, 1) := by decide +kernel
theorem dL_law_1120 : decode code 1120 = .ok (.iload_n 3, 1) := by decide +kernel
theorem dL_law_1121 : decode code 1121 = .ok (.iconst 1, 1) := by decide +kernel
theorem dL_law_1122 : decode code 1122 = .ok (.iadd, 1) := by decide +kernel
theorem dL_law_1123 : decode code 1123 = .ok (.iaload, 1) := by decide +kernel
theorem dL_law_1124 : decode code 1124 = .ok (.invokevirtual 138, 3) := by decide +kernel
theorem dL_law_1127 : decode code 1127 = .ok (.pop, 1) := by decide +kernel
theorem dL_law_1128 : decode code 1128 = .ok (.aload_n 2, 1) := by decide +kernel
theorem dL_law_1129 : decode code 1129 = .ok (.aload_n 0, 1) := by decide +kernel
theorem dL_law_1130 : decode code 1130 = .ok (.iload_n 3, 1) := by decide +kernel
theorem dL_law_1131 : decode code 1131 = .ok (.iconst 1, 1) := by decide +kernel
theorem dL_law_1132 : decode code 1132 = .ok (.iadd, 1) := by decide +kernel
theorem dL_law_1133 : decode code 1133 = .ok (.iaload, 1) := by decide +kernel
theorem dL_law_1134 : decode code 1134 = .ok (.invokevirtual 141, 3) := by decide +kernel
theorem dL_law_1137 : decode code 1137 = .ok (.pop, 1) := by decide +kernel
theorem dL_law_1138 : decode code 1138 = .ok (.goto 795, 3) := by decide +kernel
theorem dL_law_1141 : decode code 1141 = .ok (.aload_n 1, 1) := by decide +kernel
theorem dL_law_1142 : decode code 1142 = .ok (.aload_n 0, 1) := by decide +kernel
theorem dL_law_1143 : decode code 1143 = .ok (.iload_n 3, 1) := by decide +kernel
theorem dL_law_1144 : decode code 1144 = .ok (.iconst 1, 1) := by decide +kernel
theorem dL_law_1145 : decode code 1145 = .ok (.iadd, 1) := by decide +kernel
theorem dL_law_1146 : decode code 1146 = .ok (.iaload, 1) := by decide +kernel
theorem dL_law_1147 : decode code 1147 = .ok (.aload_n 0, 1) := by decide +kernel
theorem dL_law_1148 : decode code 1148 = .ok (.iload_n 3, 1) := by decide +kernel
theorem dL_law_1149 : decode code 1149 = .ok (.iconst 2, 1) := by decide +kernel
theorem dL_law_1150 : decode code 1150 = .ok (.iadd, 1) := by decide +kernel
theorem dL_law_1151 : decode code 1151 = .ok (.iaload, 1) := by decide +kernel
theorem dL_law_1152 : decode code 1152 = .ok (.invokevirtual 142, 3) := by decide +kernel
theorem dL_law_1155 : decode code 1155 = .ok (.pop, 1) := by decide +kernel
theorem dL_law_1156 : decode code 1156 = .ok (.aload_n 2, 1) := by decide +kernel
theorem dL_law_1157 : decode code 1157 = .ok (.aload_n 0, 1) := by decide +kernel
theorem dL_law_1158 : decode code 1158 = .ok (.iload_n 3, 1) := by decide +kernel
theorem dL_law_1159 : decode code 1159 = .ok (.iconst 1, 1) := by decide +kernel
theorem dL_law_1160 : decode code 1160 = .ok (.iadd, 1) := by decide +kernel
theorem dL_law_1161 : decode code 1161 = .ok (.iaload, 1) := by decide +kernel
theorem dL_law_1162 : decode code 1162 = .ok (.aload_n 0, 1) := by decide +kernel
theorem dL_law_1163 : decode code 1163 = .ok (.iload_n 3, 1) := by decide +kernel
theorem dL_law_1164 : decode code 1164 = .ok (.iconst 2, 1) := by decide +kernel
theorem dL_law_1165 : decode code 1165 = .ok (.iadd, 1) := by decide +kernel
theorem dL_law_1166 : decode code 1166 = .ok (.iaload, 1) := by decide +kernel
theorem dL_law_1167 : decode code 1167 = .ok (.invokevirtual 145, 3) := by decide +kernel
theorem dL_law_1170 : decode code 1170 = .ok (.pop, 1) := by decide +kernel
theorem dL_law_1171 : decode code 1171 = .ok (.goto 762, 3) := by decide +kernel
theorem dL_law_1174 : decode code 1174 = .ok (.aload_n 1, 1) := by decide +kernel
theorem dL_law_1175 : decode code 1175 = .ok (.aload_n 0, 1) := by decide +kernel
theorem dL_law_1176 : decode code 1176 = .ok (.iload_n 3, 1) := by decide +kernel
theorem dL_law_1177 : decode code 1177 = .ok (.iconst 1, 1) := by decide +kernel
theorem dL_law_1178 : decode code 1178 = .ok (.iadd, 1) := by decide +kernel
theorem dL_law_1179 : decode code 1179 = .ok (.iaload, 1) := by decide +kernel
theorem dL_law_1180 : decode code 1180 = .ok (.invokevirtual 146, 3) := by decide +kernel
theorem dL_law_1183 : decode code 1183 = .ok (.pop, 1) := by decide +kernel
theorem dL_law_1184 : decode code 1184 = .ok (.aload_n 2, 1) := by decide +kernel
theorem dL_law_1185 : decode code 1185 = .ok (.aload_n 0, 1) := by decide +kernel
theorem dL_law_1186 : decode code 1186 = .ok (.iload_n 3, 1) := by decide +kernel
theorem dL_law_1187 : decode code 1187 = .ok (.iconst 1, 1) := by decide +kernel
theorem dL_law_1188 : decode code 1188 = .ok (.iadd, 1) := by decide +kernel
theorem dL_law_1189 : decode code 1189 = .ok (.iaload, 1) := by decide +kernel
theorem dL_law_1190 : decode code 1190 = .ok (.invokevirtual 149, 3) := by decide +kernel
theorem dL_law_1193 : decode code 1193 = .ok (.pop, 1) := by decide +kernel
theorem dL_law_1194 : decode code 1194 = .ok (.goto 739, 3) := by decide +kernel
theorem dL_law_1197 : decode code 1197 = .ok (.aload_n 1, 1) := by decide +kernel
theorem dL_law_1198 : decode code 1198 = .ok (.aload_n 0, 1) := by decide +kernel
theorem dL_law_1199 : decode code 1199 = .ok (.iload_n 3, 1) := by decide +kernel
theorem dL_law_1200 : decode code 1200 = .ok (.iconst 1, 1) := by decide +kernel
theorem dL_law_1201 : decode code 1201 = .ok (.iadd, 1) := by decide +kernel
theorem dL_law_1202 : decode code 1202 = .ok (.iaload, 1) := by decide +kernel
theorem dL_law_1203 : decode code 1203 = .ok (.aload_n 0, 1) := by decide +kernel
theorem dL_law_1204 : decode code 1204 = .ok (.iload_n 3, 1) := by decide +kernel
theorem dL_law_1205 : decode code 1205 = .ok (.iconst 2, 1) := by decide +kernel
theorem dL_law_1206 : decode code 1206 = .ok (.iadd, 1) := by decide +kernel
theorem dL_law_1207 : decode code 1207 = .ok (.iaload, 1) := by decide +kernel
theorem dL_law_1208 : decode code 1208 = .ok (.aload_n 0, 1) := by decide +kernel
theorem dL_law_1209 : decode code 1209 = .ok (.iload_n 3, 1) := by decide +kernel
theorem dL_law_1210 : decode code 1210 = .ok (.iconst 3, 1) := by decide +kernel
theorem dL_law_1211 : decode code 1211 = .ok (.iadd, 1) := by decide +kernel
theorem dL_law_1212 : decode code 1212 = .ok (.iaload, 1) := by decide +kernel
theorem dL_law_1213 : decode code 1213 = .ok (.invokevirtual 150, 3) := by decide +kernel
theorem dL_law_1216 : decode code 1216 = .ok (.pop, 1) := by decide +kernel
theorem dL_law_1217 : decode code 1217 = .ok (.aload_n 2, 1) := by decide +kernel
theorem dL_law_1218 : decode code 1218 = .ok (.aload_n 0, 1) := by decide +kernel
theorem dL_law_1219 : decode code 1219 = .ok (.iload_n 3, 1) := by decide +kernel
theorem dL_law_1220 : decode code 1220 = .ok (.iconst 1, 1) := by decide +kernel
theorem dL_law_1221 : decode code 1221 = .ok (.iadd, 1) := by decide +kernel
theorem dL_law_1222 : decode code 1222 = .ok (.iaload, 1) := by decide +kernel
theorem dL_law_1223 : decode code 1223 = .ok (.aload_n 0, 1) := by decide +kernel
theorem dL_law_1224 : decode code 1224 = .ok (.iload_n 3, 1) := by decide +kernel
theorem dL_law_1225 : decode code 1225 = .ok (.iconst 2, 1) := by decide +kernel
theorem dL_law_1226 : decode code 1226 = .ok (.iadd, 1) := by decide +kernel
theorem dL_law_1227 : decode code 1227 = .ok (.iaload, 1) := by decide +kernel
theorem dL_law_1228 : decode code 1228 = .ok (.aload_n 0, 1) := by decide +kernel
theorem dL_law_1229 : decode code 1229 = .ok (.iload_n 3, 1) := by decide +kernel
theorem dL_law_1230 : decode code 1230 = .ok (.iconst 3, 1) := by decide +kernel
theorem dL_law_1231 : decode code 1231 = .ok (.iadd, 1) := by decide +kernel
theorem dL_law_1232 : decode code 1232 = .ok (.iaload, 1) := by decide +kernel
theorem dL_law_1233 : decode code 1233 = .ok (.invokevirtual 153, 3) := by decide +kernel
theorem dL_law_1236 : decode code 1236 = .ok (.pop, 1) := by decide +kernel
theorem dL_law_1237 : decode code 1237 = .ok (.goto 696, 3) := by decide +kernel
theorem dL_law_1240 : decode code 1240 = .ok (.aload_n 1, 1) := by decide +kernel
theorem dL_law_1241 : decode code 1241 = .ok (.aload_n 0, 1) := by decide +kernel
theorem dL_law_1242 : decode code 1242 = .ok (.iload_n 3, 1) := by decide +kernel
theorem dL_law_1243 : decode code 1243 = .ok (.iconst 1, 1) := by decide +kernel
theorem dL_law_1244 : decode code 1244 = .ok (.iadd, 1) := by decide +kernel
theorem dL_law_1245 : decode code 1245 = .ok (.iaload, 1) := by decide +kernel
theorem dL_law_1246 : decode code 1246 = .ok (.aload_n 0, 1) := by decide +kernel
theorem dL_law_1247 : decode code 1247 = .ok (.iload_n 3, 1) := by decide +kernel
theorem dL_law_1248 : decode code 1248 = .ok (.iconst 2, 1) := by decide +kernel
theorem dL_law_1249 : decode code 1249 = .ok (.iadd, 1) := by decide +kernel
theorem dL_law_1250 : decode code 1250 = .ok (.iaload, 1) := by decide +kernel
theorem dL_law_1251 : decode code 1251 = .ok (.invokevirtual 154, 3) := by decide +kernel
theorem dL_law_1254 : decode code 1254 = .ok (.pop, 1) := by decide +kernel
theorem dL_law_1255 : decode code 1255 = .ok (.aload_n 2, 1) := by decide +kernel
theorem dL_law_1256 : decode code 1256 = .ok (.aload_n 0, 1) := by decide +kernel
theorem dL_law_1257 : decode code 1257 = .ok (.iload_n 3, 1) := by decide +kernel
theorem dL_law_1258 : decode code 1258 = .ok (.iconst 1, 1) := by decide +kernel
theorem dL_law_1259 : decode code 1259 = .ok (.iadd, 1) := by decide +kernel
theorem dL_law_1260 : decode code 1260 = .ok (.iaload, 1) := by decide +kernel
theorem dL_law_1261 : decode code 1261 = .ok (.aload_n 0, 1) := by decide +kernel
theorem dL_law_1262 : decode code 1262 = .ok (.iload_n 3, 1) := by decide +kernel
theorem dL_law_1263 : decode code 1263 = .ok (.iconst 2, 1) := by decide +kernel
theorem dL_law_1264 : decode code 1264 = .ok (.iadd, 1) := by decide +kernel
theorem dL_law_1265 : decode code 1265 = .ok (.iaload, 1) := by decide +kernel
theorem dL_law_1266 : decode code 1266 = .ok (.invokevirtual 157, 3) := by decide +kernel
theorem dL_law_1269 : decode code 1269 = .ok (.pop, 1) := by decide +kernel
theorem dL_law_1270 : decode code 1270 = .ok (.goto 663, 3) := by decide +kernel
theorem dL_law_1273 : decode code 1273 = .ok (.aload_n 1, 1) := by decide +kernel
theorem dL_law_1274 : decode code 1274 = .ok (.aload_n 0, 1) := by decide +kernel
theorem dL_law_1275 : decode code 1275 = .ok (.iload_n 3, 1) := by decide +kernel
theorem dL_law_1276 : decode code 1276 = .ok (.iconst 1, 1) := by decide +kernel
theorem dL_law_1277 : decode code 1277 = .ok (.iadd, 1) := by decide +kernel
theorem dL_law_1278 : decode code 1278 = .ok (.iaload, 1) := by decide +kernel
theorem dL_law_1279 : decode code 1279 = .ok (.invokevirtual 158, 3) := by decide +kernel
theorem dL_law_1282 : decode code 1282 = .ok (.pop, 1) := by decide +kernel
theorem dL_law_1283 : decode code 1283 = .ok (.aload_n 2, 1) := by decide +kernel
theorem dL_law_1284 : decode code 1284 = .ok (.aload_n 0, 1) := by decide +kernel
theorem dL_law_1285 : decode code 1285 = .ok (.iload_n 3, 1) := by decide +kernel
theorem dL_law_1286 : decode code 1286 = .ok (.iconst 1, 1) := by decide +kernel
theorem dL_law_1287 : decode code 1287 = .ok (.iadd, 1) := by decide +kernel
theorem dL_law_1288 : decode code 1288 = .ok (.iaload, 1) := by decide +kernel
theorem dL_law_1289 : decode code 1289 = .ok (.invokevirtual 161, 3) := by decide +kernel
theorem dL_law_1292 : decode code 1292 = .ok (.pop, 1) := by decide +kernel
theorem dL_law_1293 : decode code 1293 = .ok (.goto 640, 3) := by decide +kernel
theorem dL_law_1296 : decode code 1296 = .ok (.aload_n 1, 1) := by decide +kernel
theorem dL_law_1297 : decode code 1297 = .ok (.aload_n 0, 1) := by decide +kernel
theorem dL_law_1298 : decode code 1298 = .ok (.iload_n 3, 1) := by decide +kernel
theorem dL_law_1299 : decode code 1299 = .ok (.iconst 1, 1) := by decide +kernel
theorem dL_law_1300 : decode code 1300 = .ok (.iadd, 1) := by decide +kernel
theorem dL_law_1301 : decode code 1301 = .ok (.iaload, 1) := by decide +kernel
theorem dL_law_1302 : decode code 1302 = .ok (.invokevirtual 162, 3) := by decide +kernel
theorem dL_law_1305 : decode code 1305 = .ok (.pop, 1) := by decide +kernel
theorem dL_law_1306 : decode code 1306 = .ok (.aload_n 2, 1) := by decide +kernel
theorem dL_law_1307 : decode code 1307 = .ok (.aload_n 0, 1) := by decide +kernel
theorem dL_law_1308 : decode code 1308 = .ok (.iload_n 3, 1) := by decide +kernel
theorem dL_law_1309 : decode code 1309 = .ok (.iconst 1, 1) := by decide +kernel
theorem dL_law_1310 : decode code 1310 = .ok (.iadd, 1) := by decide +kernel
theorem dL_law_1311 : decode code 1311 = .ok (.iaload, 1) := by decide +kernel
theorem dL_law_1312 : decode code 1312 = .ok (.invokevirtual 165, 3) := by decide +kernel
theorem dL_law_1315 : decode code 1315 = .ok (.pop, 1) := by decide +kernel
theorem dL_law_1316 : decode code 1316 = .ok (.goto 617, 3) := by decide +kernel
theorem dL_law_1319 : decode code 1319 = .ok (.aload_n 1, 1) := by decide +kernel
theorem dL_law_1320 : decode code 1320 = .ok (.aload_n 0, 1) := by decide +kernel
theorem dL_law_1321 : decode code 1321 = .ok (.iload_n 3, 1) := by decide +kernel
theorem dL_law_1322 : decode code 1322 = .ok (.iconst 1, 1) := by decide +kernel
theorem dL_law_1323 : decode code 1323 = .ok (.iadd, 1) := by decide +kernel
theorem dL_law_1324 : decode code 1324 = .ok (.iaload, 1) := by decide +kernel
theorem dL_law_1325 : decode code 1325 = .ok (.aload_n 0, 1) := by decide +kernel
theorem dL_law_1326 : decode code 1326 = .ok (.iload_n 3, 1) := by decide +kernel
theorem dL_law_1327 : decode code 1327 = .ok (.iconst 2, 1) := by decide +kernel
theorem dL_law_1328 : decode code 1328 = .ok (.iadd, 1) := by decide +kernel
theorem dL_law_1329 : decode code 1329 = .ok (.iaload, 1) := by decide +kernel
theorem dL_law_1330 : decode code 1330 = .ok (.aload_n 0, 1) := by decide +kernel
theorem dL_law_1331 : decode code 1331 = .ok (.iload_n 3, 1) := by decide +kernel
theorem dL_law_1332 : decode code 1332 = .ok (.iconst 3, 1) := by decide +kernel
theorem dL_law_1333 : decode code 1333 = .ok (.iadd, 1) := by decide +kernel
theorem dL_law_1334 : decode code 1334 = .ok (.iaload, 1) := by decide +kernel
theorem dL_law_1335 : decode code 1335 = .ok (.invokevirtual 166, 3) := by decide +kernel
theorem dL_law_1338 : decode code 1338 = .ok (.pop, 1) := by decide +kernel
theorem dL_law_1339 : decode code 1339 = .ok (.aload_n 2, 1) := by decide +kernel
theorem dL_law_1340 : decode code 1340 = .ok (.aload_n 0, 1) := by decide +kernel
theorem dL_law_1341 : decode code 1341 = .ok (.iload_n 3, 1) := by decide +kernel
theorem dL_law_1342 : decode code 1342 = .ok (.iconst 1, 1) := by decide +kernel
theorem dL_law_1343 : decode code 1343 = .ok (.iadd, 1) := by decide +kernel
theorem dL_law_1344 : decode code 1344 = .ok (.iaload, 1) := by decide +kernel
theorem dL_law_1345 : decode code 1345 = .ok (.aload_n 0, 1) := by decide +kernel
theorem dL_law_1346 : decode code 1346 = .ok (.iload_n 3, 1) := by decide +kernel
theorem dL_law_1347 : decode code 1347 = .ok (.iconst 2, 1) := by decide +kernel
theorem dL_law_1348 : decode code 1348 = .ok (.iadd, 1) := by decide +kernel
theorem dL_law_1349 : decode code 1349 = .ok (.iaload, 1) := by decide +kernel
theorem dL_law_1350 : decode code 1350 = .ok (.aload_n 0, 1) := by decide +kernel
theorem dL_law_1351 : decode code 1351 = .ok (.iload_n 3, 1) := by decide +kernel
theorem dL_law_1352 : decode code 1352 = .ok (.iconst 3, 1) := by decide +kernel
theorem dL_law_1353 : decode code 1353 = .ok (.iadd, 1) := by decide +kernel
theorem dL_law_1354 : decode code 1354 = .ok (.iaload, 1) := by decide +kernel
theorem dL_law_1355 : decode code 1355 = .ok (.invokevirtual 169, 3) := by decide +kernel
theorem dL_law_1358 : decode code 1358 = .ok (.pop, 1) := by decide +kernel
theorem dL_law_1359 : decode code 1359 = .ok (.goto 574, 3) := by decide +kernel
theorem dL_law_1362 : decode code 1362 = .ok (.aload_n 1, 1) := by decide +kernel
theorem dL_law_1363 : decode code 1363 = .ok (.invokevirtual 170, 3) := by decide +kernel
theorem dL_law_1366 : decode code 1366 = .ok (.pop, 1) := by decide +kernel
theorem dL_law_1367 : decode code 1367 = .ok (.aload_n 2, 1) := by decide +kernel
theorem dL_law_1368 : decode code 1368 = .ok (.invokevirtual 173, 3) := by decide +kernel
theorem dL_law_1371 : decode code 1371 = .ok (.pop, 1) := by decide +kernel
theorem dL_law_1372 : decode code 1372 = .ok (.goto 561, 3) := by decide +kernel
theorem dL_law_1375 : decode code 1375 = .ok (.aload_n 1, 1) := by decide +kernel
theorem dL_law_1376 : decode code 1376 = .ok (.aload_n 0, 1) := by decide +kernel
theorem dL_law_1377 : decode code 1377 = .ok (.iload_n 3, 1) := by decide +kernel
theorem dL_law_1378 : decode code 1378 = .ok (.iconst 1, 1) := by decide +kernel
theorem dL_law_1379 : decode code 1379 = .ok (.iadd, 1) := by decide +kernel
theorem dL_law_1380 : decode code 1380 = .ok (.iaload, 1) := by decide +kernel
theorem dL_law_1381 : decode code 1381 = .ok (.invokevirtual 174, 3) := by decide +kernel
theorem dL_law_1384 : decode code 1384 = .ok (.pop, 1) := by decide +kernel
theorem dL_law_1385 : decode code 1385 = .ok (.aload_n 2, 1) := by decide +kernel
theorem dL_law_1386 : decode code 1386 = .ok (.aload_n 0, 1) := by decide +kernel
theorem dL_law_1387 : decode code 1387 = .ok (.iload_n 3, 1) := by decide +kernel
theorem dL_law_1388 : decode code 1388 = .ok (.iconst 1, 1) := by decide +kernel
theorem dL_law_1389 : decode code 1389 = .ok (.iadd, 1) := by decide +kernel
theorem dL_law_1390 : decode code 1390 = .ok (.iaload, 1) := by decide +kernel
theorem dL_law_1391 : decode code 1391 = .ok (.invokevirtual 177, 3) := by decide +kernel
theorem dL_law_1394 : decode code 1394 = .ok (.pop, 1) := by decide +kernel
theorem dL_law_1395 : decode code 1395 = .ok (.goto 538, 3) := by decide +kernel
theorem dL_law_1398 : decode code 1398 = .ok (.aload_n 1, 1) := by decide +kernel
theorem dL_law_1399 : decode code 1399 = .ok (.aload_n 0, 1) := by decide +kernel
theorem dL_law_1400 : decode code 1400 = .ok (.iload_n 3, 1) := by decide +kernel
theorem dL_law_1401 : decode code 1401 = .ok (.iconst 1, 1) := by decide +kernel
theorem dL_law_1402 : decode code 1402 = .ok (.iadd, 1) := by decide +kernel
theorem dL_law_1403 : decode code 1403 = .ok (.iaload, 1) := by decide +kernel
theorem dL_law_1404 : decode code 1404 = .ok (.aload_n 0, 1) := by decide +kernel
theorem dL_law_1405 : decode code 1405 = .ok (.iload_n 3, 1) := by decide +kernel
theorem dL_law_1406 : decode code 1406 = .ok (.iconst 2, 1) := by decide +kernel
theorem dL_law_1407 : decode code 1407 = .ok (.iadd, 1) := by decide +kernel
theorem dL_law_1408 : decode code 1408 = .ok (.iaload, 1) := by decide +kernel
theorem dL_law_1409 : decode code 1409 = .ok (.aload_n 0, 1) := by decide +kernel
theorem dL_law_1410 : decode code 1410 = .ok (.iload_n 3, 1) := by decide +kernel
theorem dL_law_1411 : decode code 1411 = .ok (.iconst 3, 1) := by decide +kernel
theorem dL_law_1412 : decode code 1412 = .ok (.iadd, 1) := by decide +kernel
theorem dL_law_1413 : decode code 1413 = .ok (.iaload, 1) := by decide +kernel
theorem dL_law_1414 : decode code 1414 = .ok (.invokevirtual 178, 3) := by decide +kernel
theorem dL_law_1417 : decode code 1417 = .ok (.pop, 1) := by decide +kernel
theorem dL_law_1418 : decode code 1418 = .ok (.aload_n 2, 1) := by decide +kernel
theorem dL_law_1419 : decode code 1419 = .ok (.aload_n 0, 1) := by decide +kernel
theorem dL_law_1420 : decode code 1420 = .ok (.iload_n 3, 1) := by decide +kernel
theorem dL_law_1421 : decode code 1421 = .ok (.iconst 1, 1) := by decide +kernel
theorem dL_law_1422 : decode code 1422 = .ok (.iadd, 1) := by decide +kernel
theorem dL_law_1423 : decode code 1423 = .ok (.iaload, 1) := by decide +kernel
theorem dL_law_1424 : decode code 1424 = .ok (.aload_n 0, 1) := by decide +kernel
theorem dL_law_1425 : decode code 1425 = .ok (.iload_n 3, 1) := by decide +kernel
theorem dL_law_1426 : decode code 1426 = .ok (.iconst 2, 1) := by decide +kernel
theorem dL_law_1427 : decode code 1427 = .ok (.iadd, 1) := by decide +kernel
theorem dL_law_1428 : decode code 1428 = .ok (.iaload, 1) := by decide +kernel
theorem dL_law_1429 : decode code 1429 = .ok (.aload_n 0, 1) := by decide +kernel
theorem dL_law_1430 : decode code 1430 = .ok (.iload_n 3, 1) := by decide +kernel
theorem dL_law_1431 : decode code 1431 = .ok (.iconst 3, 1) := by decide +kernel
theorem dL_law_1432 : decode code 1432 = .ok (.iadd, 1) := by decide +kernel
theorem dL_law_1433 : decode code 1433 = .ok (.iaload, 1) := by decide +kernel
theorem dL_law_1434 : decode code 1434 = .ok (.invokevirtual 181, 3) := by decide +kernel
theorem dL_law_1437 : decode code 1437 = .ok (.pop, 1) := by decide +kernel
theorem dL_law_1438 : decode code 1438 = .ok (.goto 495, 3) := by decide +kernel
theorem dL_law_1441 : decode code 1441 = .ok (.aload_n 1, 1) := by decide +kernel
theorem dL_law_1442 : decode code 1442 = .ok (.aload_n 0, 1) := by decide +kernel
theorem dL_law_1443 : decode code 1443 = .ok (.iload_n 3, 1) := by decide +kernel
theorem dL_law_1444 : decode code 1444 = .ok (.iconst 1, 1) := by decide +kernel
theorem dL_law_1445 : decode code 1445 = .ok (.iadd, 1) := by decide +kernel
theorem dL_law_1446 : decode code 1446 = .ok (.iaload, 1) := by decide +kernel
theorem dL_law_1447 : decode code 1447 = .ok (.aload_n 0, 1) := by decide +kernel
theorem dL_law_1448 : decode code 1448 = .ok (.iload_n 3, 1) := by decide +kernel
theorem dL_law_1449 : decode code 1449 = .ok (.iconst 2, 1) := by decide +kernel
theorem dL_law_1450 : decode code 1450 = .ok (.iadd, 1) := by decide +kernel
theorem dL_law_1451 : decode code 1451 = .ok (.iaload, 1) := by decide +kernel
theorem dL_law_1452 : decode code 1452 = .ok (.invokevirtual 182, 3) := by decide +kernel
theorem dL_law_1455 : decode code 1455 = .ok (.pop, 1) := by decide +kernel
theorem dL_law_1456 : decode code 1456 = .ok (.aload_n 2, 1) := by decide +kernel
theorem dL_law_1457 : decode code 1457 = .ok (.aload_n 0, 1) := by decide +kernel
theorem dL_law_1458 : decode code 1458 = .ok (.iload_n 3, 1) := by decide +kernel
theorem dL_law_1459 : decode code 1459 = .ok (.iconst 1, 1) := by decide +kernel
theorem dL_law_1460 : decode code 1460 = .ok (.iadd, 1) := by decide +kernel
theorem dL_law_1461 : decode code 1461 = .ok (.iaload, 1) := by decide +kernel
theorem dL_law_1462 : decode code 1462 = .ok (.aload_n 0, 1) := by decide +kernel
theorem dL_law_1463 : decode code 1463 = .ok (.iload_n 3, 1) := by decide +kernel
theorem dL_law_1464 : decode code 1464 = .ok (.iconst 2, 1) := by decide +kernel
theorem dL_law_1465 : decode code 1465 = .ok (.iadd, 1) := by decide +kernel
theorem dL_law_1466 : decode code 1466 = .ok (.iaload, 1) := by decide +kernel
theorem dL_law_1467 : decode code 1467 = .ok (.invokevirtual 185, 3) := by decide +kernel
theorem dL_law_1470 : decode code 1470 = .ok (.pop, 1) := by decide +kernel
theorem dL_law_1471 : decode code 1471 = .ok (.goto 462, 3) := by decide +kernel
theorem dL_law_1474 : decode code 1474 = .ok (.aload_n 1, 1) := by decide +kernel
theorem dL_law_1475 : decode code 1475 = .ok (.aload_n 0, 1) := by decide +kernel
theorem dL_law_1476 : decode code 1476 = .ok (.iload_n 3, 1) := by decide +kernel
theorem dL_law_1477 : decode code 1477 = .ok (.iconst 1, 1) := by decide +kernel
theorem dL_law_1478 : decode code 1478 = .ok (.iadd, 1) := by decide +kernel
theorem dL_law_1479 : decode code 1479 = .ok (.iaload, 1) := by decide +kernel
theorem dL_law_1480 : decode code 1480 = .ok (.invokevirtual 186, 3) := by decide +kernel
theorem dL_law_1483 : decode code 1483 = .ok (.pop, 1) := by decide +kernel
theorem dL_law_1484 : decode code 1484 = .ok (.aload_n 2, 1) := by decide +kernel
theorem dL_law_1485 : decode code 1485 = .ok (.aload_n 0, 1) := by decide +kernel
theorem dL_law_1486 : decode code 1486 = .ok (.iload_n 3, 1) := by decide +kernel
theorem dL_law_1487 : decode code 1487 = .ok (.iconst 1, 1) := by decide +kernel
theorem dL_law_1488 : decode code 1488 = .ok (.iadd, 1) := by decide +kernel
theorem dL_law_1489 : decode code 1489 = .ok (.iaload, 1) := by decide +kernel
theorem dL_law_1490 : decode code 1490 = .ok (.invokevirtual 189, 3) := by decide +kernel
theorem dL_law_1493 : decode code 1493 = .ok (.pop, 1) := by decide +kernel
theorem dL_law_1494 : decode code 1494 = .ok (.goto 439, 3) := by decide +kernel
theorem dL_law_1497 : decode code 1497 = .ok (.aload_n 1, 1) := by decide +kernel
theorem dL_law_1498 : decode code 1498 = .ok (.aload_n 0, 1) := by decide +kernel
theorem dL_law_1499 : decode code 1499 = .ok (.iload_n 3, 1) := by decide +kernel
theorem dL_law_1500 : decode code 1500 = .ok (.iconst 1, 1) := by decide +kernel
theorem dL_law_1501 : decode code 1501 = .ok (.iadd, 1) := by decide +kernel
theorem dL_law_1502 : decode code 1502 = .ok (.iaload, 1) := by decide +kernel
theorem dL_law_1503 : decode code 1503 = .ok (.aload_n 0, 1) := by decide +kernel
theorem dL_law_1504 : decode code 1504 = .ok (.iload_n 3, 1) := by decide +kernel
theorem dL_law_1505 : decode code 1505 = .ok (.iconst 2, 1) := by decide +kernel
theorem dL_law_1506 : decode code 1506 = .ok (.iadd, 1) := by decide +kernel
theorem dL_law_1507 : decode code 1507 = .ok (.iaload, 1) := by decide +kernel
theorem dL_law_1508 : decode code 1508 = .ok (.invokevirtual 190, 3) := by decide +kernel
theorem dL_law_1511 : decode code 1511 = .ok (.pop, 1) := by decide +kernel
theorem dL_law_1512 : decode code 1512 = .ok (.aload_n 2, 1) := by decide +kernel
theorem dL_law_1513 : decode code 1513 = .ok (.aload_n 0, 1) := by decide +kernel
theorem dL_law_1514 : decode code 1514 = .ok (.iload_n 3, 1) := by decide +kernel
theorem dL_law_1515 : decode code 1515 = .ok (.iconst 1, 1) := by decide +kernel
theorem dL_law_1516 : decode code 1516 = .ok (.iadd, 1) := by decide +kernel
theorem dL_law_1517 : decode code 1517 = .ok (.iaload, 1) := by decide +kernel
theorem dL_law_1518 : decode code 1518 = .ok (.aload_n 0, 1) := by decide +kernel
theorem dL_law_1519 : decode code 1519 = .ok (.iload_n 3, 1) := by decide +kernel
theorem dL_law_1520 : decode code 1520 = .ok (.iconst 2, 1) := by decide +kernel
theorem dL_law_1521 : decode code 1521 = .ok (.iadd, 1) := by decide +kernel
theorem dL_law_1522 : decode code 1522 = .ok (.iaload, 1) := by decide +kernel
theorem dL_law_1523 : decode code 1523 = .ok (.invokevirtual 193, 3) := by decide +kernel
theorem dL_law_1526 : decode code 1526 = .ok (.pop, 1) := by decide +kernel
theorem dL_law_1527 : decode code 1527 = .ok (.goto 406, 3) := by decide +kernel
theorem dL_law_1530 : decode code 1530 = .ok (.aload_n 1, 1) := by decide +kernel
theorem dL_law_1531 : decode code 1531 = .ok (.aload_n 0, 1) := by decide +kernel
theorem dL_law_1532 : decode code 1532 = .ok (.iload_n 3, 1) := by decide +kernel
theorem dL_law_1533 : decode code 1533 = .ok (.iconst 1, 1) := by decide +kernel
theorem dL_law_1534 : decode code 1534 = .ok (.iadd, 1) := by decide +kernel
theorem dL_law_1535 : decode code 1535 = .ok (.iaload, 1) := by decide +kernel
theorem dL_law_1536 : decode code 1536 = .ok (.aload_n 0, 1) := by decide +kernel
theorem dL_law_1537 : decode code 1537 = .ok (.iload_n 3, 1) := by decide +kernel
theorem dL_law_1538 : decode code 1538 = .ok (.iconst 2, 1) := by decide +kernel
theorem dL_law_1539 : decode code 1539 = .ok (.iadd, 1) := by decide +kernel
theorem dL_law_1540 : decode code 1540 = .ok (.iaload, 1) := by decide +kernel
theorem dL_law_1541 : decode code 1541 = .ok (.invokevirtual 194, 3) := by decide +kernel
theorem dL_law_1544 : decode code 1544 = .ok (.pop, 1) := by decide +kernel
theorem dL_law_1545 : decode code 1545 = .ok (.aload_n 2, 1) := by decide +kernel
theorem dL_law_1546 : decode code 1546 = .ok (.aload_n 0, 1) := by decide +kernel
theorem dL_law_1547 : decode code 1547 = .ok (.iload_n 3, 1) := by decide +kernel
theorem dL_law_1548 : decode code 1548 = .ok (.iconst 1, 1) := by decide +kernel
theorem dL_law_1549 : decode code 1549 = .ok (.iadd, 1) := by decide +kernel
theorem dL_law_1550 : decode code 1550 = .ok (.iaload, 1) := by decide +kernel
theorem dL_law_1551 : decode code 1551 = .ok (.aload_n 0, 1) := by decide +kernel
theorem dL_law_1552 : decode code 1552 = .ok (.iload_n 3, 1) := by decide +kernel
theorem dL_law_1553 : decode code 1553 = .ok (.iconst 2, 1) := by decide +kernel
theorem dL_law_1554 : decode code 1554 = .ok (.iadd, 1) := by decide +kernel
theorem dL_law_1555 : decode code 1555 = .ok (.iaload, 1) := by decide +kernel
theorem dL_law_1556 : decode code 1556 = .ok (.invokevirtual 197, 3) := by decide +kernel
theorem dL_law_1559 : decode code 1559 = .ok (.pop, 1) := by decide +kernel
theorem dL_law_1560 : decode code 1560 = .ok (.goto 373, 3) := by decide +kernel
theorem dL_law_1563 : decode code 1563 = .ok (.aload_n 1, 1) := by decide +kernel
theorem dL_law_1564 : decode code 1564 = .ok (.aload_n 0, 1) := by decide +kernel
theorem dL_law_1565 : decode code 1565 = .ok (.iload_n 3, 1) := by decide +kernel
theorem dL_law_1566 : decode code 1566 = .ok (.iconst 1, 1) := by decide +kernel
theorem dL_law_1567 : decode code 1567 = .ok (.iadd, 1) := by decide +kernel
theorem dL_law_1568 : decode code 1568 = .ok (.iaload, 1) := by decide +kernel
theorem dL_law_1569 : decode code 1569 = .ok (.invokevirtual 198, 3) := by decide +kernel
theorem dL_law_1572 : decode code 1572 = .ok (.pop, 1) := by decide +kernel
theorem dL_law_1573 : decode code 1573 = .ok (.aload_n 2, 1) := by decide +kernel
theorem dL_law_1574 : decode code 1574 = .ok (.aload_n 0, 1) := by decide +kernel
theorem dL_law_1575 : decode code 1575 = .ok (.iload_n 3, 1) := by decide +kernel
theorem dL_law_1576 : decode code 1576 = .ok (.iconst 1, 1) := by decide +kernel
theorem dL_law_1577 : decode code 1577 = .ok (.iadd, 1) := by decide +kernel
theorem dL_law_1578 : decode code 1578 = .ok (.iaload, 1) := by decide +kernel
theorem dL_law_1579 : decode code 1579 = .ok (.invokevirtual 201, 3) := by decide +kernel
theorem dL_law_1582 : decode code 1582 = .ok (.pop, 1) := by decide +kernel
theorem dL_law_1583 : decode code 1583 = .ok (.goto 350, 3) := by decide +kernel
theorem dL_law_1586 : decode code 1586 = .ok (.aload_n 1, 1) := by decide +kernel
theorem dL_law_1587 : decode code 1587 = .ok (.aload_n 0, 1) := by decide +kernel
theorem dL_law_1588 : decode code 1588 = .ok (.iload_n 3, 1) := by decide +kernel
theorem dL_law_1589 : decode code 1589 = .ok (.iconst 1, 1) := by decide +kernel
theorem dL_law_1590 : decode code 1590 = .ok (.iadd, 1) := by decide +kernel
theorem dL_law_1591 : decode code 1591 = .ok (.iaload, 1) := by decide +kernel
theorem dL_law_1592 : decode code 1592 = .ok (.aload_n 0, 1) := by decide +kernel
theorem dL_law_1593 : decode code 1593 = .ok (.iload_n 3, 1) := by decide +kernel
theorem dL_law_1594 : decode code 1594 = .ok (.iconst 2, 1) := by decide +kernel
theorem dL_law_1595 : decode code 1595 = .ok (.iadd, 1) := by decide +kernel
theorem dL_law_1596 : decode code 1596 = .ok (.iaload, 1) := by decide +kernel
theorem dL_law_1597 : decode code 1597 = .ok (.invokevirtual 202, 3) := by decide +kernel
theorem dL_law_1600 : decode code 1600 = .ok (.pop, 1) := by decide +kernel
theorem dL_law_1601 : decode code 1601 = .ok (.aload_n 2, 1) := by decide +kernel
theorem dL_law_1602 : decode code 1602 = .ok (.aload_n 0, 1) := by decide +kernel
theorem dL_law_1603 : decode code 1603 = .ok (.iload_n 3, 1) := by decide +kernel
theorem dL_law_1604 : decode code 1604 = .ok (.iconst 1, 1) := by decide +kernel
theorem dL_law_1605 : decode code 1605 = .ok (.iadd, 1) := by decide +kernel
theorem dL_law_1606 : decode code 1606 = .ok (.iaload, 1) := by decide +kernel
theorem dL_law_1607 : decode code 1607 = .ok (.aload_n 0, 1) := by decide +kernel
theorem dL_law_1608 : decode code 1608 = .ok (.iload_n 3, 1) := by decide +kernel
theorem dL_law_1609 : decode code 1609 = .ok (.iconst 2, 1) := by decide +kernel
theorem dL_law_1610 : decode code 1610 = .ok (.iadd, 1) := by decide +kernel
theorem dL_law_1611 : decode code 1611 = .ok (.iaload, 1) := by decide +kernel
theorem dL_law_1612 : decode code 1612 = .ok (.invokevirtual 205, 3) := by decide +kernel
theorem dL_law_1615 : decode code 1615 = .ok (.pop, 1) := by decide +kernel
theorem dL_law_1616 : decode code 1616 = .ok (.goto 317, 3) := by decide +kernel
theorem dL_law_1619 : decode code 1619 = .ok (.aload_n 1, 1) := by decide +kernel
theorem dL_law_1620 : decode code 1620 = .ok (.aload_n 0, 1) := by decide +kernel
theorem dL_law_1621 : decode code 1621 = .ok (.iload_n 3, 1) := by decide +kernel
theorem dL_law_1622 : decode code 1622 = .ok (.iconst 1, 1) := by decide +kernel
theorem dL_law_1623 : decode code 1623 = .ok (.iadd, 1) := by decide +kernel
theorem dL_law_1624 : decode code 1624 = .ok (.iaload, 1) := by decide +kernel
theorem dL_law_1625 : decode code 1625 = .ok (.aload_n 0, 1) := by decide +kernel
theorem dL_law_1626 : decode code 1626 = .ok (.iload_n 3, 1) := by decide +kernel
theorem dL_law_1627 : decode code 1627 = .ok (.iconst 2, 1) := by decide +kernel
theorem dL_law_1628 : decode code 1628 = .ok (.iadd, 1) := by decide +kernel
theorem dL_law_1629 : decode code 1629 = .ok (.iaload, 1) := by decide +kernel
theorem dL_law_1630 : decode code 1630 = .ok (.invokevirtual 206, 3) := by decide +kernel
theorem dL_law_1633 : decode code 1633 = .ok (.pop, 1) := by decide +kernel
theorem dL_law_1634 : decode code 1634 = .ok (.aload_n 2, 1) := by decide +kernel
theorem dL_law_1635 : decode code 1635 = .ok (.aload_n 0, 1) := by decide +kernel
theorem dL_law_1636 : decode code 1636 = .ok (.iload_n 3, 1) := by decide +kernel
theorem dL_law_1637 : decode code 1637 = .ok (.iconst 1, 1) := by decide +kernel
theorem dL_law_1638 : decode code 1638 = .ok (.iadd, 1) := by decide +kernel
theorem dL_law_1639 : decode code 1639 = .ok (.iaload, 1) := by decide +kernel
theorem dL_law_1640 : decode code 1640 = .ok (.aload_n 0, 1) := by decide +kernel
theorem dL_law_1641 : decode code 1641 = .ok (.iload_n 3, 1) := by decide +kernel
theorem dL_law_1642 : decode code 1642 = .ok (.iconst 2, 1) := by decide +kernel
theorem dL_law_1643 : decode code 1643 = .ok (.iadd, 1) := by decide +kernel
theorem dL_law_1644 : decode code 1644 = .ok (.iaload, 1) := by decide +kernel
theorem dL_law_1645 : decode code 1645 = .ok (.invokevirtual 209, 3) := by decide +kernel
theorem dL_law_1648 : decode code 1648 = .ok (.pop, 1) := by decide +kernel
theorem dL_law_1649 : decode code 1649 = .ok (.goto 284, 3) := by decide +kernel
theorem dL_law_1652 : decode code 1652 = .ok (.aload_n 1, 1) := by decide +kernel
theorem dL_law_1653 : decode code 1653 = .ok (.aload_n 0, 1) := by decide +kernel
theorem dL_law_1654 : decode code 1654 = .ok (.iload_n 3, 1) := by decide +kernel
theorem dL_law_1655 : decode code 1655 = .ok (.iconst 1, 1) := by decide +kernel
theorem dL_law_1656 : decode code 1656 = .ok (.iadd, 1) := by decide +kernel
theorem dL_law_1657 : decode code 1657 = .ok (.iaload, 1) := by decide +kernel
theorem dL_law_1658 : decode code 1658 = .ok (.aload_n 0, 1) := by decide +kernel
theorem dL_law_1659 : decode code 1659 = .ok (.iload_n 3, 1) := by decide +kernel
theorem dL_law_1660 : decode code 1660 = .ok (.iconst 2, 1) := by decide +kernel
theorem dL_law_1661 : decode code 1661 = .ok (.iadd, 1) := by decide +kernel
theorem dL_law_1662 : decode code 1662 = .ok (.iaload, 1) := by decide +kernel
theorem dL_law_1663 : decode code 1663 = .ok (.invokevirtual 210, 3) := by decide +kernel
theorem dL_law_1666 : decode code 1666 = .ok (.pop, 1) := by decide +kernel
theorem dL_law_1667 : decode code 1667 = .ok (.aload_n 2, 1) := by decide +kernel
theorem dL_law_1668 : decode code 1668 = .ok (.aload_n 0, 1) := by decide +kernel
theorem dL_law_1669 : decode code 1669 = .ok (.iload_n 3, 1) := by decide +kernel
theorem dL_law_1670 : decode code 1670 = .ok (.iconst 1, 1) := by decide +kernel
theorem dL_law_1671 : decode code 1671 = .ok (.iadd, 1) := by decide +kernel
theorem dL_law_1672 : decode code 1672 = .ok (.iaload, 1) := by decide +kernel
theorem dL_law_1673 : decode code 1673 = .ok (.aload_n 0, 1) := by decide +kernel
theorem dL_law_1674 : decode code 1674 = .ok (.iload_n 3, 1) := by decide +kernel
theorem dL_law_1675 : decode code 1675 = .ok (.iconst 2, 1) := by decide +kernel
theorem dL_law_1676 : decode code 1676 = .ok (.iadd, 1) := by decide +kernel
theorem dL_law_1677 : decode code 1677 = .ok (.iaload, 1) := by decide +kernel
theorem dL_law_1678 : decode code 1678 = .ok (.invokevirtual 213, 3) := by decide +kernel
theorem dL_law_1681 : decode code 1681 = .ok (.pop, 1) := by decide +kernel
theorem dL_law_1682 : decode code 1682 = .ok (.goto 251, 3) := by decide +kernel
theorem dL_law_1685 : decode code 1685 = .ok (.aload_n 1, 1) := by decide +kernel
theorem dL_law_1686 : decode code 1686 = .ok (.aload_n 0, 1) := by decide +kernel
theorem dL_law_1687 : decode code 1687 = .ok (.iload_n 3, 1) := by decide +kernel
theorem dL_law_1688 : decode code 1688 = .ok (.iconst 1, 1) := by decide +kernel
theorem dL_law_1689 : decode code 1689 = .ok (.iadd, 1) := by decide +kernel
theorem dL_law_1690 : decode code 1690 = .ok (.iaload, 1) := by decide +kernel
theorem dL_law_1691 : decode code 1691 = .ok (.invokevirtual 214, 3) := by decide +kernel
theorem dL_law_1694 : decode code 1694 = .ok (.pop, 1) := by decide +kernel
theorem dL_law_1695 : decode code 1695 = .ok (.aload_n 2, 1) := by decide +kernel
theorem dL_law_1696 : decode code 1696 = .ok (.aload_n 0, 1) := by decide +kernel
theorem dL_law_1697 : decode code 1697 = .ok (.iload_n 3, 1) := by decide +kernel
theorem dL_law_1698 : decode code 1698 = .ok (.iconst 1, 1) := by decide +kernel
theorem dL_law_1699 : decode code 1699 = .ok (.iadd, 1) := by decide +kernel
theorem dL_law_1700 : decode code 1700 = .ok (.iaload, 1) := by decide +kernel
theorem dL_law_1701 : decode code 1701 = .ok (.invokevirtual 217, 3) := by decide +kernel
theorem dL_law_1704 : decode code 1704 = .ok (.pop, 1) := by decide +kernel
theorem dL_law_1705 : decode code 1705 = .ok (.goto 228, 3) := by decide +kernel
theorem dL_law_1708 : decode code 1708 = .ok (.aload_n 1, 1) := by decide +kernel
theorem dL_law_1709 : decode code 1709 = .ok (.aload_n 0, 1) := by decide +kernel
theorem dL_law_1710 : decode code 1710 = .ok (.iload_n 3, 1) := by decide +kernel
theorem dL_law_1711 : decode code 1711 = .ok (.iconst 1, 1) := by decide +kernel
theorem dL_law_1712 : decode code 1712 = .ok (.iadd, 1) := by decide +kernel
theorem dL_law_1713 : decode code 1713 = .ok (.iaload, 1) := by decide +kernel
theorem dL_law_1714 : decode code 1714 = .ok (.invokevirtual 218, 3) := by decide +kernel
theorem dL_law_1717 : decode code 1717 = .ok (.pop, 1) := by decide +kernel
theorem dL_law_1718 : decode code 1718 = .ok (.aload_n 2, 1) := by decide +kernel
theorem dL_law_1719 : decode code 1719 = .ok (.aload_n 0, 1) := by decide +kernel
theorem dL_law_1720 : decode code 1720 = .ok (.iload_n 3, 1) := by decide +kernel
theorem dL_law_1721 : decode code 1721 = .ok (.iconst 1, 1) := by decide +kernel
theorem dL_law_1722 : decode code 1722 = .ok (.iadd, 1) := by decide +kernel
theorem dL_law_1723 : decode code 1723 = .ok (.iaload, 1) := by decide +kernel
theorem dL_law_1724 : decode code 1724 = .ok (.invokevirtual 221, 3) := by decide +kernel
theorem dL_law_1727 : decode code 1727 = .ok (.pop, 1) := by decide +kernel
theorem dL_law_1728 : decode code 1728 = .ok (.goto 205, 3) := by decide +kernel
theorem dL_law_1731 : decode code 1731 = .ok (.aload_n 1, 1) := by decide +kernel
theorem dL_law_1732 : decode code 1732 = .ok (.aload_n 0, 1) := by decide +kernel
theorem dL_law_1733 : decode code 1733 = .ok (.iload_n 3, 1) := by decide +kernel
theorem dL_law_1734 : decode code 1734 = .ok (.iconst 1, 1) := by decide +kernel
theorem dL_law_1735 : decode code 1735 = .ok (.iadd, 1) := by decide +kernel
theorem dL_law_1736 : decode code 1736 = .ok (.iaload, 1) := by decide +kernel
theorem dL_law_1737 : decode code 1737 = .ok (.invokevirtual 222, 3) := by decide +kernel
theorem dL_law_1740 : decode code 1740 = .ok (.pop, 1) := by decide +kernel
theorem dL_law_1741 : decode code 1741 = .ok (.aload_n 2, 1) := by decide +kernel
theorem dL_law_1742 : decode code 1742 = .ok (.aload_n 0, 1) := by decide +kernel
theorem dL_law_1743 : decode code 1743 = .ok (.iload_n 3, 1) := by decide +kernel
theorem dL_law_1744 : decode code 1744 = .ok (.iconst 1, 1) := by decide +kernel
theorem dL_law_1745 : decode code 1745 = .ok (.iadd, 1) := by decide +kernel
theorem dL_law_1746 : decode code 1746 = .ok (.iaload, 1) := by decide +kernel
theorem dL_law_1747 : decode code 1747 = .ok (.invokevirtual 225, 3) := by decide +kernel
theorem dL_law_1750 : decode code 1750 = .ok (.pop, 1) := by decide +kernel
theorem dL_law_1751 : decode code 1751 = .ok (.goto 182, 3) := by decide +kernel
theorem dL_law_1754 : decode code 1754 = .ok (.aload_n 1, 1) := by decide +kernel
theorem dL_law_1755 : decode code 1755 = .ok (.aload_n 0, 1) := by decide +kernel
theorem dL_law_1756 : decode code 1756 = .ok (.iload_n 3, 1) := by decide +kernel
theorem dL_law_1757 : decode code 1757 = .ok (.iconst 1, 1) := by decide +kernel
theorem dL_law_1758 : decode code 1758 = .ok (.iadd, 1) := by decide +kernel
theorem dL_law_1759 : decode code 1759 = .ok (.iaload, 1) := by decide +kernel
theorem dL_law_1760 : decode code 1760 = .ok (.aload_n 0, 1) := by decide +kernel
theorem dL_law_1761 : decode code 1761 = .ok (.iload_n 3, 1) := by decide +kernel
theorem dL_law_1762 : decode code 1762 = .ok (.iconst 2, 1) := by decide +kernel
theorem dL_law_1763 : decode code 1763 = .ok (.iadd, 1) := by decide +kernel
theorem dL_law_1764 : decode code 1764 = .ok (.iaload, 1) := by decide +kernel
theorem dL_law_1765 : decode code 1765 = .ok (.aload_n 0, 1) := by decide +kernel
theorem dL_law_1766 : decode code 1766 = .ok (.iload_n 3, 1) := by decide +kernel
theorem dL_law_1767 : decode code 1767 = .ok (.iconst 3, 1) := by decide +kernel
theorem dL_law_1768 : decode code 1768 = .ok (.iadd, 1) := by decide +kernel
theorem dL_law_1769 : decode code 1769 = .ok (.iaload, 1) := by decide +kernel
theorem dL_law_1770 : decode code 1770 = .ok (.invokevirtual 226, 3) := by decide +kernel
theorem dL_law_1773 : decode code 1773 = .ok (.pop, 1) := by decide +kernel
theorem dL_law_1774 : decode code 1774 = .ok (.aload_n 2, 1) := by decide +kernel
theorem dL_law_1775 : decode code 1775 = .ok (.aload_n 0, 1) := by decide +kernel
theorem dL_law_1776 : decode code 1776 = .ok (.iload_n 3, 1) := by decide +kernel
theorem dL_law_1777 : decode code 1777 = .ok (.iconst 1, 1) := by decide +kernel
theorem dL_law_1778 : decode code 1778 = .ok (.iadd, 1) := by decide +kernel
theorem dL_law_1779 : decode code 1779 = .ok (.iaload, 1) := by decide +kernel
theorem dL_law_1780 : decode code 1780 = .ok (.aload_n 0, 1) := by decide +kernel
theorem dL_law_1781 : decode code 1781 = .ok (.iload_n 3, 1) := by decide +kernel
theorem dL_law_1782 : decode code 1782 = .ok (.iconst 2, 1) := by decide +kernel
theorem dL_law_1783 : decode code 1783 = .ok (.iadd, 1) := by decide +kernel
theorem dL_law_1784 : decode code 1784 = .ok (.iaload, 1) := by decide +kernel
theorem dL_law_1785 : decode code 1785 = .ok (.aload_n 0, 1) := by decide +kernel
theorem dL_law_1786 : decode code 1786 = .ok (.iload_n 3, 1) := by decide +kernel
theorem dL_law_1787 : decode code 1787 = .ok (.iconst 3, 1) := by decide +kernel
theorem dL_law_1788 : decode code 1788 = .ok (.iadd, 1) := by decide +kernel
theorem dL_law_1789 : decode code 1789 = .ok (.iaload, 1) := by decide +kernel
theorem dL_law_1790 : decode code 1790 = .ok (.invokevirtual 229, 3) := by decide +kernel
theorem dL_law_1793 : decode code 1793 = .ok (.pop, 1) := by decide +kernel
theorem dL_law_1794 : decode code 1794 = .ok (.goto 139, 3) := by decide +kernel
theorem dL_law_1797 : decode code 1797 = .ok (.aload_n 1, 1) := by decide +kernel
theorem dL_law_1798 : decode code 1798 = .ok (.aload_n 0, 1) := by decide +kernel
theorem dL_law_1799 : decode code 1799 = .ok (.iload_n 3, 1) := by decide +kernel
theorem dL_law_1800 : decode code 1800 = .ok (.iconst 1, 1) := by decide +kernel
theorem dL_law_1801 : decode code 1801 = .ok (.iadd, 1) := by decide +kernel
theorem dL_law_1802 : decode code 1802 = .ok (.iaload, 1) := by decide +kernel
theorem dL_law_1803 : decode code 1803 = .ok (.aload_n 0, 1) := by decide +kernel
theorem dL_law_1804 : decode code 1804 = .ok (.iload_n 3, 1) := by decide +kernel
theorem dL_law_1805 : decode code 1805 = .ok (.iconst 2, 1) := by decide +kernel
theorem dL_law_1806 : decode code 1806 = .ok (.iadd, 1) := by decide +kernel
theorem dL_law_1807 : decode code 1807 = .ok (.iaload, 1) := by decide +kernel
theorem dL_law_1808 : decode code 1808 = .ok (.aload_n 0, 1) := by decide +kernel
theorem dL_law_1809 : decode code 1809 = .ok (.iload_n 3, 1) := by decide +kernel
theorem dL_law_1810 : decode code 1810 = .ok (.iconst 3, 1) := by decide +kernel
theorem dL_law_1811 : decode code 1811 = .ok (.iadd, 1) := by decide +kernel
theorem dL_law_1812 : decode code 1812 = .ok (.iaload, 1) := by decide +kernel
theorem dL_law_1813 : decode code 1813 = .ok (.i2l, 1) := by decide +kernel
theorem dL_law_1814 : decode code 1814 = .ok (.bipush 32, 2) := by decide +kernel
theorem dL_law_1816 : decode code 1816 = .ok (.lshl, 1) := by decide +kernel
theorem dL_law_1817 : decode code 1817 = .ok (.aload_n 0, 1) := by decide +kernel
theorem dL_law_1818 : decode code 1818 = .ok (.iload_n 3, 1) := by decide +kernel
theorem dL_law_1819 : decode code 1819 = .ok (.iconst 4, 1) := by decide +kernel
theorem dL_law_1820 : decode code 1820 = .ok (.iadd, 1) := by decide +kernel
theorem dL_law_1821 : decode code 1821 = .ok (.iaload, 1) := by decide +kernel
theorem dL_law_1822 : decode code 1822 = .ok (.i2l, 1) := by decide +kernel
theorem dL_law_1823 : decode code 1823 = .ok (.ldc2_w 230, 3) := by decide +kernel
theorem dL_law_1826 : decode code 1826 = .ok (.land, 1) := by decide +kernel
theorem dL_law_1827 : decode code 1827 = .ok (.lor, 1) := by decide +kernel
theorem dL_law_1828 : decode code 1828 = .ok (.invokevirtual 232, 3) := by decide +kernel
theorem dL_law_1831 : decode code 1831 = .ok (.pop, 1) := by decide +kernel
theorem dL_law_1832 : decode code 1832 = .ok (.aload_n 2, 1) := by decide +kernel
theorem dL_law_1833 : decode code 1833 = .ok (.aload_n 0, 1) := by decide +kernel
theorem dL_law_1834 : decode code 1834 = .ok (.iload_n 3, 1) := by decide +kernel
theorem dL_law_1835 : decode code 1835 = .ok (.iconst 1, 1) := by decide +kernel
theorem dL_law_1836 : decode code 1836 = .ok (.iadd, 1) := by decide +kernel
theorem dL_law_1837 : decode code 1837 = .ok (.iaload, 1) := by decide +kernel
theorem dL_law_1838 : decode code 1838 = .ok (.aload_n 0, 1) := by decide +kernel
theorem dL_law_1839 : decode code 1839 = .ok (.iload_n 3, 1) := by decide +kernel
theorem dL_law_1840 : decode code 1840 = .ok (.iconst 2, 1) := by decide +kernel
theorem dL_law_1841 : decode code 1841 = .ok (.iadd, 1) := by decide +kernel
theorem dL_law_1842 : decode code 1842 = .ok (.iaload, 1) := by decide +kernel
theorem dL_law_1843 : decode code 1843 = .ok (.aload_n 0, 1) := by decide +kernel
theorem dL_law_1844 : decode code 1844 = .ok (.iload_n 3, 1) := by decide +kernel
theorem dL_law_1845 : decode code 1845 = .ok (.iconst 3, 1) := by decide +kernel
theorem dL_law_1846 : decode code 1846 = .ok (.iadd, 1) := by decide +kernel
theorem dL_law_1847 : decode code 1847 = .ok (.iaload, 1) := by decide +kernel
theorem dL_law_1848 : decode code 1848 = .ok (.i2l, 1) := by decide +kernel
theorem dL_law_1849 : decode code 1849 = .ok (.bipush 32, 2) := by decide +kernel
theorem dL_law_1851 : decode code 1851 = .ok (.lshl, 1) := by decide +kernel
theorem dL_law_1852 : decode code 1852 = .ok (.aload_n 0, 1) := by decide +kernel
theorem dL_law_1853 : decode code 1853 = .ok (.iload_n 3, 1) := by decide +kernel
theorem dL_law_1854 : decode code 1854 = .ok (.iconst 4, 1) := by decide +kernel
theorem dL_law_1855 : decode code 1855 = .ok (.iadd, 1) := by decide +kernel
theorem dL_law_1856 : decode code 1856 = .ok (.iaload, 1) := by decide +kernel
theorem dL_law_1857 : decode code 1857 = .ok (.i2l, 1) := by decide +kernel
theorem dL_law_1858 : decode code 1858 = .ok (.ldc2_w 230, 3) := by decide +kernel
theorem dL_law_1861 : decode code 1861 = .ok (.land, 1) := by decide +kernel
theorem dL_law_1862 : decode code 1862 = .ok (.lor, 1) := by decide +kernel
theorem dL_law_1863 : decode code 1863 = .ok (.invokevirtual 236, 3) := by decide +kernel
theorem dL_law_1866 : decode code 1866 = .ok (.pop, 1) := by decide +kernel
theorem dL_law_1867 : decode code 1867 = .ok (.goto 66, 3) := by decide +kernel
theorem dL_law_1870 : decode code 1870 = .ok (.aload_n 1, 1) := by decide +kernel
theorem dL_law_1871 : decode code 1871 = .ok (.aload_n 0, 1) := by decide +kernel
theorem dL_law_1872 : decode code 1872 = .ok (.iload_n 3, 1) := by decide +kernel
theorem dL_law_1873 : decode code 1873 = .ok (.iconst 1, 1) := by decide +kernel
theorem dL_law_1874 : decode code 1874 = .ok (.iadd, 1) := by decide +kernel
theorem dL_law_1875 : decode code 1875 = .ok (.iaload, 1) := by decide +kernel
theorem dL_law_1876 : decode code 1876 = .ok (.aload_n 0, 1) := by decide +kernel
theorem dL_law_1877 : decode code 1877 = .ok (.iload_n 3, 1) := by decide +kernel
theorem dL_law_1878 : decode code 1878 = .ok (.iconst 2, 1) := by decide +kernel
theorem dL_law_1879 : decode code 1879 = .ok (.iadd, 1) := by decide +kernel
theorem dL_law_1880 : decode code 1880 = .ok (.iaload, 1) := by decide +kernel
theorem dL_law_1881 : decode code 1881 = .ok (.aload_n 0, 1) := by decide +kernel
theorem dL_law_1882 : decode code 1882 = .ok (.iload_n 3, 1) := by decide +kernel
theorem dL_law_1883 : decode code 1883 = .ok (.iconst 3, 1) := by decide +kernel
theorem dL_law_1884 : decode code 1884 = .ok (.iadd, 1) := by decide +kernel
theorem dL_law_1885 : decode code 1885 = .ok (.iaload, 1) := by decide +kernel
theorem dL_law_1886 : decode code 1886 = .ok (.aload_n 0, 1) := by decide +kernel
theorem dL_law_1887 : decode code 1887 = .ok (.iload_n 3, 1) := by decide +kernel
theorem dL_law_1888 : decode code 1888 = .ok (.iconst 4, 1) := by decide +kernel
theorem dL_law_1889 : decode code 1889 = .ok (.iadd, 1) := by decide +kernel
theorem dL_law_1890 : decode code 1890 = .ok (.iaload, 1) := by decide +kernel
theorem dL_law_1891 : decode code 1891 = .ok (.aload_n 0, 1) := by decide +kernel
theorem dL_law_1892 : decode code 1892 = .ok (.iload_n 3, 1) := by decide +kernel
theorem dL_law_1893 : decode code 1893 = .ok (.iconst 5, 1) := by decide +kernel
theorem dL_law_1894 : decode code 1894 = .ok (.iadd, 1) := by decide +kernel
theorem dL_law_1895 : decode code 1895 = .ok (.iaload, 1) := by decide +kernel
theorem dL_law_1896 : decode code 1896 = .ok (.invokevirtual 237, 3) := by decide +kernel
theorem dL_law_1899 : decode code 1899 = .ok (.aload_n 2, 1) := by decide +kernel
theorem dL_law_1900 : decode code 1900 = .ok (.aload_n 0, 1) := by decide +kernel
theorem dL_law_1901 : decode code 1901 = .ok (.iload_n 3, 1) := by decide +kernel
theorem dL_law_1902 : decode code 1902 = .ok (.iconst 1, 1) := by decide +kernel
theorem dL_law_1903 : decode code 1903 = .ok (.iadd, 1) := by decide +kernel
theorem dL_law_1904 : decode code 1904 = .ok (.iaload, 1) := by decide +kernel
theorem dL_law_1905 : decode code 1905 = .ok (.aload_n 0, 1) := by decide +kernel
theorem dL_law_1906 : decode code 1906 = .ok (.iload_n 3, 1) := by decide +kernel
theorem dL_law_1907 : decode code 1907 = .ok (.iconst 2, 1) := by decide +kernel
theorem dL_law_1908 : decode code 1908 = .ok (.iadd, 1) := by decide +kernel
theorem dL_law_1909 : decode code 1909 = .ok (.iaload, 1) := by decide +kernel
theorem dL_law_1910 : decode code 1910 = .ok (.aload_n 0, 1) := by decide +kernel
theorem dL_law_1911 : decode code 1911 = .ok (.iload_n 3, 1) := by decide +kernel
theorem dL_law_1912 : decode code 1912 = .ok (.iconst 3, 1) := by decide +kernel
theorem dL_law_1913 : decode code 1913 = .ok (.iadd, 1) := by decide +kernel
theorem dL_law_1914 : decode code 1914 = .ok (.iaload, 1) := by decide +kernel
theorem dL_law_1915 : decode code 1915 = .ok (.aload_n 0, 1) := by decide +kernel
theorem dL_law_1916 : decode code 1916 = .ok (.iload_n 3, 1) := by decide +kernel
theorem dL_law_1917 : decode code 1917 = .ok (.iconst 4, 1) := by decide +kernel
theorem dL_law_1918 : decode code 1918 = .ok (.iadd, 1) := by decide +kernel
theorem dL_law_1919 : decode code 1919 = .ok (.iaload, 1) := by decide +kernel
theorem dL_law_1920 : decode code 1920 = .ok (.aload_n 0, 1) := by decide +kernel
theorem dL_law_1921 : decode code 1921 = .ok (.iload_n 3, 1) := by decide +kernel
theorem dL_law_1922 : decode code 1922 = .ok (.iconst 5, 1) := by decide +kernel
theorem dL_law_1923 : decode code 1923 = .ok (.iadd, 1) := by decide +kernel
theorem dL_law_1924 : decode code 1924 = .ok (.iaload, 1) := by decide +kernel
theorem dL_law_1925 : decode code 1925 = .ok (.invokevirtual 240, 3) := by decide +kernel
theorem dL_law_1928 : decode code 1928 = .ok (.if_icmp .eq 5, 3) := by decide +kernel
theorem dL_law_1931 : decode code 1931 = .ok (.iconst 0, 1) := by decide +kernel
theorem dL_law_1932 : decode code 1932 = .ok (.ireturn, 1) := by decide +kernel
theorem dL_law_1933 : decode code 1933 = .ok (.iinc 3 6, 3) := by decide +kernel
theorem dL_law_1936 : decode code 1936 = .ok (.goto (-1918), 3) := by decide +kernel
theorem dL_law_1939 : decode code 1939 = .ok (.iconst 1, 1) := by decide +kernel
theorem dL_law_1940 : decode code 1940 = .ok (.ireturn, 1) := by decide +kernel
theorem mp_0 : Cond.methodLink RX11 1 objectInit ∈ bW := bW_at 129 (by decide +kernel) (by decide +kernel)
theorem mp_1 : Cond.instanceMethod objectInit ∈ bW := bW_at 130 (by decide +kernel) (by decide +kernel)
theorem mp_2 : Cond.code objectInit ⟨#[0xb1]⟩ 1 none ∈ bW := bW_at 131 (by decide +kernel) (by decide +kernel)
theorem mp_3 : Cond.arrayClass .byte ∈ bW := bW_at 166 (by decide +kernel) (by decide +kernel)
theorem mp_4 : Cond.fieldLink RX11 9 "OneWays" "tape" "[B" ∈ bW := bW_at 500 (by decide +kernel) (by decide +kernel)
theorem mp_5 : Cond.fieldLink RX11 13 "OneWays" "tapeSize" "I" ∈ bW := bW_at 501 (by decide +kernel) (by decide +kernel)
theorem mp_6 : Cond.classLink RX11 17 RX9 ∈ bW := bW_at 132 (by decide +kernel) (by decide +kernel)
theorem mp_7 : Cond.instantiable RX9 4 ∈ bW := bW_at 133 (by decide +kernel) (by decide +kernel)
theorem mp_8 : Cond.initialized RX9 ∈ bW := bW_at 104 (by decide +kernel) (by decide +kernel)
theorem mp_9 : Cond.methodLink RX9 3 objectInit ∈ bW := bW_at 137 (by decide +kernel) (by decide +kernel)
theorem mp_10 : Cond.classLink RX9 9 RX7 ∈ bW := bW_at 138 (by decide +kernel) (by decide +kernel)
theorem mp_11 : Cond.instantiable RX7 6 ∈ bW := bW_at 139 (by decide +kernel) (by decide +kernel)
theorem mp_12 : Cond.initialized RX7 ∈ bW := bW_at 105 (by decide +kernel) (by decide +kernel)
theorem mp_13 : Cond.methodLink RX7 1 objectInit ∈ bW := bW_at 143 (by decide +kernel) (by decide +kernel)
theorem mp_14 : Cond.fieldLink RX7 7 "OneWays$Tokens" "bytes" "[B" ∈ bW := bW_at 144 (by decide +kernel) (by decide +kernel)
theorem mp_15 : Cond.fieldLink RX7 13 "OneWays$Tokens" "size" "I" ∈ bW := bW_at 145 (by decide +kernel) (by decide +kernel)
theorem mp_16 : Cond.fieldLink RX7 17 "OneWays$Tokens" "stop" "I" ∈ bW := bW_at 146 (by decide +kernel) (by decide +kernel)
theorem mp_17 : Cond.fieldLink RX7 20 "OneWays$Tokens" "kind" "I" ∈ bW := bW_at 147 (by decide +kernel) (by decide +kernel)
theorem mp_18 : Cond.fieldLink RX7 23 "OneWays$Tokens" "start" "I" ∈ bW := bW_at 149 (by decide +kernel) (by decide +kernel)
theorem mp_19 : Cond.fieldLink RX7 26 "OneWays$Tokens" "value" "I" ∈ bW := bW_at 151 (by decide +kernel) (by decide +kernel)
theorem mp_20 : Cond.code yX7_init cX7_init 1 none ∈ bW := bW_at 142 (by decide +kernel) (by decide +kernel)
theorem mp_21 : Cond.instanceMethod yX7_init ∈ bW := bW_at 141 (by decide +kernel) (by decide +kernel)
theorem mp_22 : Cond.fieldLink RX9 12 "OneWays$TownReader" "tokens" "LOneWays$Tokens;" ∈ bW := bW_at 323 (by decide +kernel) (by decide +kernel)
theorem mp_23 : Cond.classLink RX9 18 RX8 ∈ bW := bW_at 167 (by decide +kernel) (by decide +kernel)
theorem mp_24 : Cond.instantiable RX8 18 ∈ bW := bW_at 168 (by decide +kernel) (by decide +kernel)
theorem mp_25 : Cond.initialized RX8 ∈ bW := bW_at 106 (by decide +kernel) (by decide +kernel)
theorem mp_26 : Cond.methodLink RX8 3 objectInit ∈ bW := bW_at 172 (by decide +kernel) (by decide +kernel)
theorem mp_27 : Cond.fieldLink RX8 9 "OneWays$Town" "lines" "I" ∈ bW := bW_at 228 (by decide +kernel) (by decide +kernel)
theorem mp_28 : Cond.fieldLink RX8 15 "OneWays$Town" "corners" "I" ∈ bW := bW_at 231 (by decide +kernel) (by decide +kernel)
theorem mp_29 : Cond.fieldLink RX8 18 "OneWays$Town" "alleys" "I" ∈ bW := bW_at 235 (by decide +kernel) (by decide +kernel)
theorem mp_30 : Cond.fieldLink RX8 21 "OneWays$Town" "house" "I" ∈ bW := bW_at 243 (by decide +kernel) (by decide +kernel)
theorem mp_31 : Cond.fieldLink RX8 24 "OneWays$Town" "gridWide" "I" ∈ bW := bW_at 247 (by decide +kernel) (by decide +kernel)
theorem mp_32 : Cond.fieldLink RX8 27 "OneWays$Town" "gridHigh" "I" ∈ bW := bW_at 249 (by decide +kernel) (by decide +kernel)
theorem mp_33 : Cond.arrayClass .int ∈ bW := bW_at 202 (by decide +kernel) (by decide +kernel)
theorem mp_34 : Cond.fieldLink RX8 30 "OneWays$Town" "from" "[I" ∈ bW := bW_at 250 (by decide +kernel) (by decide +kernel)
theorem mp_35 : Cond.fieldLink RX8 34 "OneWays$Town" "to" "[I" ∈ bW := bW_at 253 (by decide +kernel) (by decide +kernel)
theorem mp_36 : Cond.fieldLink RX8 37 "OneWays$Town" "minutes" "[I" ∈ bW := bW_at 256 (by decide +kernel) (by decide +kernel)
theorem mp_37 : Cond.fieldLink RX8 40 "OneWays$Town" "price" "[I" ∈ bW := bW_at 259 (by decide +kernel) (by decide +kernel)
theorem mp_38 : Cond.fieldLink RX8 43 "OneWays$Town" "told" "I" ∈ bW := bW_at 262 (by decide +kernel) (by decide +kernel)
theorem mp_39 : Cond.fieldLink RX8 46 "OneWays$Town" "against" "I" ∈ bW := bW_at 265 (by decide +kernel) (by decide +kernel)
theorem mp_40 : Cond.classLink RX8 49 RX1 ∈ bW := bW_at 173 (by decide +kernel) (by decide +kernel)
theorem mp_41 : Cond.instantiable RX1 4 ∈ bW := bW_at 174 (by decide +kernel) (by decide +kernel)
theorem mp_42 : Cond.initialized RX1 ∈ bW := bW_at 107 (by decide +kernel) (by decide +kernel)
theorem mp_43 : Cond.methodLink RX1 3 objectInit ∈ bW := bW_at 178 (by decide +kernel) (by decide +kernel)
theorem mp_44 : Cond.fieldLink RX1 9 "OneWays$Journeys" "size" "I" ∈ bW := bW_at 179 (by decide +kernel) (by decide +kernel)
theorem mp_45 : Cond.fieldLink RX1 15 "OneWays$Journeys" "from" "[I" ∈ bW := bW_at 184 (by decide +kernel) (by decide +kernel)
theorem mp_46 : Cond.fieldLink RX1 19 "OneWays$Journeys" "to" "[I" ∈ bW := bW_at 187 (by decide +kernel) (by decide +kernel)
theorem mp_47 : Cond.fieldLink RX1 22 "OneWays$Journeys" "carts" "[I" ∈ bW := bW_at 190 (by decide +kernel) (by decide +kernel)
theorem mp_48 : Cond.code yX1_init cX1_init 1 none ∈ bW := bW_at 177 (by decide +kernel) (by decide +kernel)
theorem mp_49 : Cond.instanceMethod yX1_init ∈ bW := bW_at 176 (by decide +kernel) (by decide +kernel)
theorem mp_50 : Cond.fieldLink RX8 52 "OneWays$Town" "journeys" "LOneWays$Journeys;" ∈ bW := bW_at 269 (by decide +kernel) (by decide +kernel)
theorem mp_51 : Cond.classLink RX8 56 RX6 ∈ bW := bW_at 203 (by decide +kernel) (by decide +kernel)
theorem mp_52 : Cond.instantiable RX6 4 ∈ bW := bW_at 204 (by decide +kernel) (by decide +kernel)
theorem mp_53 : Cond.initialized RX6 ∈ bW := bW_at 108 (by decide +kernel) (by decide +kernel)
theorem mp_54 : Cond.methodLink RX6 3 objectInit ∈ bW := bW_at 208 (by decide +kernel) (by decide +kernel)
theorem mp_55 : Cond.fieldLink RX6 9 "OneWays$Streets" "size" "I" ∈ bW := bW_at 209 (by decide +kernel) (by decide +kernel)
theorem mp_56 : Cond.fieldLink RX6 15 "OneWays$Streets" "taken" "I" ∈ bW := bW_at 212 (by decide +kernel) (by decide +kernel)
theorem mp_57 : Cond.fieldLink RX6 18 "OneWays$Streets" "sizes" "[I" ∈ bW := bW_at 214 (by decide +kernel) (by decide +kernel)
theorem mp_58 : Cond.fieldLink RX6 22 "OneWays$Streets" "members" "[I" ∈ bW := bW_at 217 (by decide +kernel) (by decide +kernel)
theorem mp_59 : Cond.code yX6_init cX6_init 1 none ∈ bW := bW_at 207 (by decide +kernel) (by decide +kernel)
theorem mp_60 : Cond.instanceMethod yX6_init ∈ bW := bW_at 206 (by decide +kernel) (by decide +kernel)
theorem mp_61 : Cond.fieldLink RX8 59 "OneWays$Town" "streets" "LOneWays$Streets;" ∈ bW := bW_at 273 (by decide +kernel) (by decide +kernel)
theorem mp_62 : Cond.fieldLink RX8 63 "OneWays$Town" "firstEnd" "[I" ∈ bW := bW_at 276 (by decide +kernel) (by decide +kernel)
theorem mp_63 : Cond.fieldLink RX8 66 "OneWays$Town" "ends" "[I" ∈ bW := bW_at 278 (by decide +kernel) (by decide +kernel)
theorem mp_64 : Cond.fieldLink RX8 69 "OneWays$Town" "apart" "[I" ∈ bW := bW_at 280 (by decide +kernel) (by decide +kernel)
theorem mp_65 : Cond.fieldLink RX8 72 "OneWays$Town" "bridges" "I" ∈ bW := bW_at 283 (by decide +kernel) (by decide +kernel)
theorem mp_66 : Cond.code yX8_init cX8_init 1 none ∈ bW := bW_at 171 (by decide +kernel) (by decide +kernel)
theorem mp_67 : Cond.instanceMethod yX8_init ∈ bW := bW_at 170 (by decide +kernel) (by decide +kernel)
theorem mp_68 : Cond.fieldLink RX9 21 "OneWays$TownReader" "draft" "LOneWays$Town;" ∈ bW := bW_at 324 (by decide +kernel) (by decide +kernel)
theorem mp_69 : Cond.fieldLink RX9 25 "OneWays$TownReader" "fault" "I" ∈ bW := bW_at 326 (by decide +kernel) (by decide +kernel)
theorem mp_70 : Cond.fieldLink RX9 29 "OneWays$TownReader" "place" "I" ∈ bW := bW_at 328 (by decide +kernel) (by decide +kernel)
theorem mp_71 : Cond.code yX9_init cX9_init 1 none ∈ bW := bW_at 136 (by decide +kernel) (by decide +kernel)
theorem mp_72 : Cond.instanceMethod yX9_init ∈ bW := bW_at 135 (by decide +kernel) (by decide +kernel)
theorem mp_73 : Cond.fieldLink RX11 20 "OneWays" "reader" "LOneWays$TownReader;" ∈ bW := bW_at 502 (by decide +kernel) (by decide +kernel)
theorem mp_74 : Cond.classLink RX11 24 RX5 ∈ bW := bW_at 339 (by decide +kernel) (by decide +kernel)
theorem mp_75 : Cond.instantiable RX5 3 ∈ bW := bW_at 340 (by decide +kernel) (by decide +kernel)
theorem mp_76 : Cond.initialized RX5 ∈ bW := bW_at 109 (by decide +kernel) (by decide +kernel)
theorem mp_77 : Cond.methodLink RX5 3 objectInit ∈ bW := bW_at 344 (by decide +kernel) (by decide +kernel)
theorem mp_78 : Cond.classLink RX5 9 RX8 ∈ bW := bW_at 345 (by decide +kernel) (by decide +kernel)
theorem mp_79 : Cond.fieldLink RX5 12 "OneWays$State" "town" "LOneWays$Town;" ∈ bW := bW_at 349 (by decide +kernel) (by decide +kernel)
theorem mp_80 : Cond.classLink RX5 18 "[[I" ∈ bW := bW_at 347 (by decide +kernel) (by decide +kernel)
theorem mp_81 : Cond.fieldLink RX5 20 "OneWays$State" "ways" "[[I" ∈ bW := bW_at 351 (by decide +kernel) (by decide +kernel)
theorem mp_82 : Cond.fieldLink RX5 23 "OneWays$State" "isKept" "Z" ∈ bW := bW_at 353 (by decide +kernel) (by decide +kernel)
theorem mp_83 : Cond.code yX5_init cX5_init 1 none ∈ bW := bW_at 343 (by decide +kernel) (by decide +kernel)
theorem mp_84 : Cond.instanceMethod yX5_init ∈ bW := bW_at 342 (by decide +kernel) (by decide +kernel)
theorem mp_85 : Cond.fieldLink RX11 27 "OneWays" "now" "LOneWays$State;" ∈ bW := bW_at 503 (by decide +kernel) (by decide +kernel)
theorem mp_86 : Cond.classLink RX11 24 "OneWays$State" ∈ bW := bW_at 339 (by decide +kernel) (by decide +kernel)
theorem mp_87 : Cond.fieldLink RX11 31 "OneWays" "images" "[LOneWays$State;" ∈ bW := bW_at 504 (by decide +kernel) (by decide +kernel)
theorem mp_88 : Cond.classLink RX11 35 "OneWays$Slot" ∈ bW := bW_at 363 (by decide +kernel) (by decide +kernel)
theorem mp_89 : Cond.fieldLink RX11 37 "OneWays" "slots" "[LOneWays$Slot;" ∈ bW := bW_at 505 (by decide +kernel) (by decide +kernel)
theorem mp_90 : Cond.classLink RX11 41 RX2 ∈ bW := bW_at 365 (by decide +kernel) (by decide +kernel)
theorem mp_91 : Cond.instantiable RX2 6 ∈ bW := bW_at 366 (by decide +kernel) (by decide +kernel)
theorem mp_92 : Cond.initialized RX2 ∈ bW := bW_at 110 (by decide +kernel) (by decide +kernel)
theorem mp_93 : Cond.methodLink RX2 3 objectInit ∈ bW := bW_at 370 (by decide +kernel) (by decide +kernel)
theorem mp_94 : Cond.fieldLink RX2 9 "OneWays$Paths" "toGo" "[I" ∈ bW := bW_at 371 (by decide +kernel) (by decide +kernel)
theorem mp_95 : Cond.fieldLink RX2 15 "OneWays$Paths" "all" "[I" ∈ bW := bW_at 372 (by decide +kernel) (by decide +kernel)
theorem mp_96 : Cond.fieldLink RX2 18 "OneWays$Paths" "carried" "[I" ∈ bW := bW_at 374 (by decide +kernel) (by decide +kernel)
theorem mp_97 : Cond.fieldLink RX2 21 "OneWays$Paths" "leaving" "[I" ∈ bW := bW_at 376 (by decide +kernel) (by decide +kernel)
theorem mp_98 : Cond.fieldLink RX2 24 "OneWays$Paths" "coming" "[I" ∈ bW := bW_at 377 (by decide +kernel) (by decide +kernel)
theorem mp_99 : Cond.fieldLink RX2 27 "OneWays$Paths" "allBoth" "[I" ∈ bW := bW_at 378 (by decide +kernel) (by decide +kernel)
theorem mp_100 : Cond.code yX2_init cX2_init 1 none ∈ bW := bW_at 369 (by decide +kernel) (by decide +kernel)
theorem mp_101 : Cond.instanceMethod yX2_init ∈ bW := bW_at 368 (by decide +kernel) (by decide +kernel)
theorem mp_102 : Cond.fieldLink RX11 44 "OneWays" "paths" "LOneWays$Paths;" ∈ bW := bW_at 506 (by decide +kernel) (by decide +kernel)
theorem mp_103 : Cond.classLink RX11 48 RX0 ∈ bW := bW_at 392 (by decide +kernel) (by decide +kernel)
theorem mp_104 : Cond.instantiable RX0 2 ∈ bW := bW_at 393 (by decide +kernel) (by decide +kernel)
theorem mp_105 : Cond.initialized RX0 ∈ bW := bW_at 111 (by decide +kernel) (by decide +kernel)
theorem mp_106 : Cond.methodLink RX0 3 objectInit ∈ bW := bW_at 397 (by decide +kernel) (by decide +kernel)
theorem mp_107 : Cond.fieldLink RX0 9 "OneWays$Endings" "openOnes" "[I" ∈ bW := bW_at 399 (by decide +kernel) (by decide +kernel)
theorem mp_108 : Cond.fieldLink RX0 15 "OneWays$Endings" "paths" "LOneWays$Paths;" ∈ bW := bW_at 398 (by decide +kernel) (by decide +kernel)
theorem mp_109 : Cond.code yX0_init cX0_init 2 none ∈ bW := bW_at 396 (by decide +kernel) (by decide +kernel)
theorem mp_110 : Cond.methodLink RX11 50 yX0_init ∈ bW := bW_at 394 (by decide +kernel) (by decide +kernel)
theorem mp_111 : Cond.instanceMethod yX0_init ∈ bW := bW_at 395 (by decide +kernel) (by decide +kernel)
theorem mp_112 : Cond.fieldLink RX11 53 "OneWays" "endings" "LOneWays$Endings;" ∈ bW := bW_at 507 (by decide +kernel) (by decide +kernel)
theorem mp_113 : Cond.classLink RX11 57 RX10 ∈ bW := bW_at 405 (by decide +kernel) (by decide +kernel)
theorem mp_114 : Cond.instantiable RX10 1 ∈ bW := bW_at 406 (by decide +kernel) (by decide +kernel)
theorem mp_115 : Cond.initialized RX10 ∈ bW := bW_at 112 (by decide +kernel) (by decide +kernel)
theorem mp_116 : Cond.methodLink RX10 3 objectInit ∈ bW := bW_at 410 (by decide +kernel) (by decide +kernel)
theorem mp_117 : Cond.fieldLink RX10 9 "OneWays$Turnings" "paths" "LOneWays$Paths;" ∈ bW := bW_at 411 (by decide +kernel) (by decide +kernel)
theorem mp_118 : Cond.code yX10_init cX10_init 2 none ∈ bW := bW_at 409 (by decide +kernel) (by decide +kernel)
theorem mp_119 : Cond.methodLink RX11 59 yX10_init ∈ bW := bW_at 407 (by decide +kernel) (by decide +kernel)
theorem mp_120 : Cond.instanceMethod yX10_init ∈ bW := bW_at 408 (by decide +kernel) (by decide +kernel)
theorem mp_121 : Cond.fieldLink RX11 60 "OneWays" "turnings" "LOneWays$Turnings;" ∈ bW := bW_at 508 (by decide +kernel) (by decide +kernel)
theorem mp_122 : Cond.classLink RX11 64 RX3 ∈ bW := bW_at 415 (by decide +kernel) (by decide +kernel)
theorem mp_123 : Cond.instantiable RX3 5 ∈ bW := bW_at 416 (by decide +kernel) (by decide +kernel)
theorem mp_124 : Cond.initialized RX3 ∈ bW := bW_at 113 (by decide +kernel) (by decide +kernel)
theorem mp_125 : Cond.methodLink RX3 3 objectInit ∈ bW := bW_at 420 (by decide +kernel) (by decide +kernel)
theorem mp_126 : Cond.fieldLink RX3 9 "OneWays$Purse" "payable" "[I" ∈ bW := bW_at 422 (by decide +kernel) (by decide +kernel)
theorem mp_127 : Cond.fieldLink RX3 15 "OneWays$Purse" "ownWay" "[I" ∈ bW := bW_at 423 (by decide +kernel) (by decide +kernel)
theorem mp_128 : Cond.fieldLink RX3 18 "OneWays$Purse" "prices" "[I" ∈ bW := bW_at 424 (by decide +kernel) (by decide +kernel)
theorem mp_129 : Cond.fieldLink RX3 21 "OneWays$Purse" "sums" "[I" ∈ bW := bW_at 425 (by decide +kernel) (by decide +kernel)
theorem mp_130 : Cond.fieldLink RX3 24 "OneWays$Purse" "paths" "LOneWays$Paths;" ∈ bW := bW_at 421 (by decide +kernel) (by decide +kernel)
theorem mp_131 : Cond.code yX3_init cX3_init 2 none ∈ bW := bW_at 419 (by decide +kernel) (by decide +kernel)
theorem mp_132 : Cond.methodLink RX11 66 yX3_init ∈ bW := bW_at 417 (by decide +kernel) (by decide +kernel)
theorem mp_133 : Cond.instanceMethod yX3_init ∈ bW := bW_at 418 (by decide +kernel) (by decide +kernel)
theorem mp_134 : Cond.fieldLink RX11 67 "OneWays" "purse" "LOneWays$Purse;" ∈ bW := bW_at 509 (by decide +kernel) (by decide +kernel)
theorem mp_135 : Cond.fieldLink RX11 71 "OneWays" "judged" "[I" ∈ bW := bW_at 510 (by decide +kernel) (by decide +kernel)
theorem mp_136 : Cond.fieldLink RX11 75 "OneWays" "pairFrom" "I" ∈ bW := bW_at 511 (by decide +kernel) (by decide +kernel)
theorem mp_137 : Cond.fieldLink RX11 78 "OneWays" "pairTo" "I" ∈ bW := bW_at 512 (by decide +kernel) (by decide +kernel)
theorem mp_138 : Cond.fieldLink RX11 81 "OneWays" "spareFrom" "I" ∈ bW := bW_at 513 (by decide +kernel) (by decide +kernel)
theorem mp_139 : Cond.fieldLink RX11 84 "OneWays" "spareTo" "I" ∈ bW := bW_at 514 (by decide +kernel) (by decide +kernel)
theorem mp_140 : Cond.classLink RX11 35 RX4 ∈ bW := bW_at 363 (by decide +kernel) (by decide +kernel)
theorem mp_141 : Cond.instantiable RX4 3 ∈ bW := bW_at 437 (by decide +kernel) (by decide +kernel)
theorem mp_142 : Cond.initialized RX4 ∈ bW := bW_at 114 (by decide +kernel) (by decide +kernel)
theorem mp_143 : Cond.methodLink RX4 3 objectInit ∈ bW := bW_at 441 (by decide +kernel) (by decide +kernel)
theorem mp_144 : Cond.fieldLink RX4 9 "OneWays$Slot" "width" "I" ∈ bW := bW_at 442 (by decide +kernel) (by decide +kernel)
theorem mp_145 : Cond.fieldLink RX4 15 "OneWays$Slot" "size" "I" ∈ bW := bW_at 444 (by decide +kernel) (by decide +kernel)
theorem mp_146 : Cond.arrayClass .long ∈ bW := bW_at 455 (by decide +kernel) (by decide +kernel)
theorem mp_147 : Cond.fieldLink RX4 18 "OneWays$Slot" "numbers" "[J" ∈ bW := bW_at 446 (by decide +kernel) (by decide +kernel)
theorem mp_148 : Cond.code yX4_init cX4_init 1 none ∈ bW := bW_at 440 (by decide +kernel) (by decide +kernel)
theorem mp_149 : Cond.instanceMethod yX4_init ∈ bW := bW_at 439 (by decide +kernel) (by decide +kernel)
theorem mp_150 : Cond.fieldLink RX11 88 "OneWays$State" "town" "LOneWays$Town;" ∈ bW := bW_at 350 (by decide +kernel) (by decide +kernel)
theorem mp_151 : Cond.code yX8_listEnds cX8_listEnds 4 none ∈ bW := bW_at 463 (by decide +kernel) (by decide +kernel)
theorem mp_152 : Cond.methodLink RX2 30 yX8_listEnds ∈ bW := bW_at 460 (by decide +kernel) (by decide +kernel)
theorem mp_153 : Cond.instanceMethod yX8_listEnds ∈ bW := bW_at 461 (by decide +kernel) (by decide +kernel)
theorem mp_154 : Cond.selects RX8 yX8_listEnds yX8_listEnds ∈ bW := bW_at 462 (by decide +kernel) (by decide +kernel)
theorem mp_155 : Cond.fieldLink RX2 35 "OneWays$Town" "apart" "[I" ∈ bW := bW_at 281 (by decide +kernel) (by decide +kernel)
theorem mp_156 : Cond.fieldLink RX2 73 "OneWays$Town" "corners" "I" ∈ bW := bW_at 232 (by decide +kernel) (by decide +kernel)
theorem mp_157 : Cond.constant RX2 76 1000000 ∈ bW := bW_at 472 (by decide +kernel) (by decide +kernel)
theorem mp_158 : Cond.code yJ7_fill_53178 cJ7_fill_53178 4 none ∈ bW := bW_at 475 (by decide +kernel) (by decide +kernel)
theorem mp_159 : Cond.methodLink RX2 61 yJ7_fill_53178 ∈ bW := bW_at 473 (by decide +kernel) (by decide +kernel)
theorem mp_160 : Cond.static yJ7_fill_53178 ∈ bW := bW_at 474 (by decide +kernel) (by decide +kernel)
theorem mp_161 : Cond.initialized RJ7 ∈ bW := bW_at 115 (by decide +kernel) (by decide +kernel)
theorem mp_162 : Cond.code yX2_nearestOf cX2_nearestOf 6 (some .int) ∈ bW := bW_at 479 (by decide +kernel) (by decide +kernel)
theorem mp_163 : Cond.methodLink RX2 77 yX2_nearestOf ∈ bW := bW_at 476 (by decide +kernel) (by decide +kernel)
theorem mp_164 : Cond.instanceMethod yX2_nearestOf ∈ bW := bW_at 478 (by decide +kernel) (by decide +kernel)
theorem mp_165 : Cond.selects RX2 yX2_nearestOf yX2_nearestOf ∈ bW := bW_at 0 (by decide +kernel) (by decide +kernel)
theorem mp_166 : Cond.fieldLink RX2 81 "OneWays$Town" "firstEnd" "[I" ∈ bW := bW_at 277 (by decide +kernel) (by decide +kernel)
theorem mp_167 : Cond.code yX2_goToward cX2_goToward 12 none ∈ bW := bW_at 471 (by decide +kernel) (by decide +kernel)
theorem mp_168 : Cond.methodLink RX2 98 yX2_goToward ∈ bW := bW_at 468 (by decide +kernel) (by decide +kernel)
theorem mp_169 : Cond.instanceMethod yX2_goToward ∈ bW := bW_at 469 (by decide +kernel) (by decide +kernel)
theorem mp_170 : Cond.selects RX2 yX2_goToward yX2_goToward ∈ bW := bW_at 470 (by decide +kernel) (by decide +kernel)
theorem mp_171 : Cond.code yX2_measureAll cX2_measureAll 6 none ∈ bW := bW_at 467 (by decide +kernel) (by decide +kernel)
theorem mp_172 : Cond.methodLink RX2 38 yX2_measureAll ∈ bW := bW_at 464 (by decide +kernel) (by decide +kernel)
theorem mp_173 : Cond.instanceMethod yX2_measureAll ∈ bW := bW_at 465 (by decide +kernel) (by decide +kernel)
theorem mp_174 : Cond.selects RX2 yX2_measureAll yX2_measureAll ∈ bW := bW_at 466 (by decide +kernel) (by decide +kernel)
theorem mp_175 : Cond.fieldLink RX2 42 "OneWays$Town" "bridges" "I" ∈ bW := bW_at 285 (by decide +kernel) (by decide +kernel)
theorem mp_176 : Cond.fieldLink RX2 46 "OneWays$Town" "alleys" "I" ∈ bW := bW_at 236 (by decide +kernel) (by decide +kernel)
theorem mp_177 : Cond.code yX2_settle cX2_settle 3 none ∈ bW := bW_at 459 (by decide +kernel) (by decide +kernel)
theorem mp_178 : Cond.methodLink RX11 92 yX2_settle ∈ bW := bW_at 456 (by decide +kernel) (by decide +kernel)
theorem mp_179 : Cond.instanceMethod yX2_settle ∈ bW := bW_at 457 (by decide +kernel) (by decide +kernel)
theorem mp_180 : Cond.selects RX2 yX2_settle yX2_settle ∈ bW := bW_at 458 (by decide +kernel) (by decide +kernel)
theorem mp_181 : Cond.methodLink RX12 7 objectInit ∈ bW := bW_at 1300 (by decide +kernel) (by decide +kernel)
theorem mp_182 : Cond.fieldLink RX12 13 "OneWaysModel" "world" "[I" ∈ bW := bW_at 1304 (by decide +kernel) (by decide +kernel)
theorem mp_183 : Cond.fieldLink RX12 17 "OneWaysModel" "images" "[I" ∈ bW := bW_at 1305 (by decide +kernel) (by decide +kernel)
theorem mp_184 : Cond.arrayClass .boolean ∈ bW := bW_at 1418 (by decide +kernel) (by decide +kernel)
theorem mp_185 : Cond.fieldLink RX12 20 "OneWaysModel" "hasImage" "[Z" ∈ bW := bW_at 1306 (by decide +kernel) (by decide +kernel)
theorem mp_186 : Cond.fieldLink RX12 24 "OneWaysModel" "tape" "[B" ∈ bW := bW_at 1307 (by decide +kernel) (by decide +kernel)
theorem mp_187 : Cond.fieldLink RX12 28 "OneWaysModel" "five" "[I" ∈ bW := bW_at 1309 (by decide +kernel) (by decide +kernel)
theorem mp_188 : Cond.fieldLink RX12 31 "OneWaysModel" "faultPlace" "I" ∈ bW := bW_at 1316 (by decide +kernel) (by decide +kernel)
theorem mp_189 : Cond.fieldLink RX12 34 "OneWaysModel" "fresh" "[I" ∈ bW := bW_at 1317 (by decide +kernel) (by decide +kernel)
theorem mp_190 : Cond.fieldLink RX12 37 "OneWaysModel" "isOfStreet" "[Z" ∈ bW := bW_at 1318 (by decide +kernel) (by decide +kernel)
theorem mp_191 : Cond.fieldLink RX12 40 "OneWaysModel" "now" "[I" ∈ bW := bW_at 1319 (by decide +kernel) (by decide +kernel)
theorem mp_192 : Cond.fieldLink RX12 43 "OneWaysModel" "far" "[I" ∈ bW := bW_at 1320 (by decide +kernel) (by decide +kernel)
theorem mp_193 : Cond.fieldLink RX12 46 "OneWaysModel" "farBoth" "[I" ∈ bW := bW_at 1321 (by decide +kernel) (by decide +kernel)
theorem mp_194 : Cond.fieldLink RX12 49 "OneWaysModel" "isReached" "[Z" ∈ bW := bW_at 1322 (by decide +kernel) (by decide +kernel)
theorem mp_195 : Cond.fieldLink RX12 52 "OneWaysModel" "open" "[I" ∈ bW := bW_at 1323 (by decide +kernel) (by decide +kernel)
theorem mp_196 : Cond.fieldLink RX12 55 "OneWaysModel" "kept" "[I" ∈ bW := bW_at 1324 (by decide +kernel) (by decide +kernel)
theorem mp_197 : Cond.fieldLink RX12 58 "OneWaysModel" "ring" "[I" ∈ bW := bW_at 1325 (by decide +kernel) (by decide +kernel)
theorem mp_198 : Cond.fieldLink RX12 61 "OneWaysModel" "worstPair" "[I" ∈ bW := bW_at 1327 (by decide +kernel) (by decide +kernel)
theorem mp_199 : Cond.fieldLink RX12 64 "OneWaysModel" "dear" "[I" ∈ bW := bW_at 1329 (by decide +kernel) (by decide +kernel)
theorem mp_200 : Cond.fieldLink RX12 67 "OneWaysModel" "priceOf" "[I" ∈ bW := bW_at 1331 (by decide +kernel) (by decide +kernel)
theorem mp_201 : Cond.fieldLink RX12 70 "OneWaysModel" "sumOf" "[I" ∈ bW := bW_at 1332 (by decide +kernel) (by decide +kernel)
theorem mp_202 : Cond.fieldLink RX12 73 "OneWaysModel" "fireAt" "[I" ∈ bW := bW_at 1333 (by decide +kernel) (by decide +kernel)
theorem mp_203 : Cond.fieldLink RX12 76 "OneWaysModel" "sparePair" "[I" ∈ bW := bW_at 1335 (by decide +kernel) (by decide +kernel)
theorem mp_204 : Cond.fieldLink RX12 79 "OneWaysModel" "many" "[I" ∈ bW := bW_at 1337 (by decide +kernel) (by decide +kernel)
theorem mp_205 : Cond.fieldLink RX12 82 "OneWaysModel" "width" "[I" ∈ bW := bW_at 1338 (by decide +kernel) (by decide +kernel)
theorem mp_206 : Cond.fieldLink RX12 85 "OneWaysModel" "numbers" "[J" ∈ bW := bW_at 1339 (by decide +kernel) (by decide +kernel)
theorem mp_207 : Cond.fieldLink RX12 89 "OneWaysModel" "moved" "[J" ∈ bW := bW_at 1340 (by decide +kernel) (by decide +kernel)
theorem mp_208 : Cond.code yX12_plain cX12_plain 2 none ∈ bW := bW_at 1303 (by decide +kernel) (by decide +kernel)
theorem mp_209 : Cond.methodLink RX12 92 yX12_plain ∈ bW := bW_at 1301 (by decide +kernel) (by decide +kernel)
theorem mp_210 : Cond.static yX12_plain ∈ bW := bW_at 1302 (by decide +kernel) (by decide +kernel)
theorem mp_211 : Cond.initialized RX12 ∈ bW := bW_at 116 (by decide +kernel) (by decide +kernel)
theorem mp_212 : Cond.classLink RL 7 RX11 ∈ bW := bW_at 124 (by decide +kernel) (by decide +kernel)
theorem mp_213 : Cond.instantiable RX11 15 ∈ bW := bW_at 125 (by decide +kernel) (by decide +kernel)
theorem mp_214 : Cond.initialized RX11 ∈ bW := bW_at 103 (by decide +kernel) (by decide +kernel)
theorem mp_215 : Cond.code yX11_init cX11_init 2 none ∈ bW := bW_at 128 (by decide +kernel) (by decide +kernel)
theorem mp_216 : Cond.methodLink RL 9 yX11_init ∈ bW := bW_at 126 (by decide +kernel) (by decide +kernel)
theorem mp_217 : Cond.instanceMethod yX11_init ∈ bW := bW_at 127 (by decide +kernel) (by decide +kernel)
theorem mp_218 : Cond.classLink RL 10 RX12 ∈ bW := bW_at 1295 (by decide +kernel) (by decide +kernel)
theorem mp_219 : Cond.instantiable RX12 38 ∈ bW := bW_at 1296 (by decide +kernel) (by decide +kernel)
theorem mp_220 : Cond.code yX12_init cX12_init 1 none ∈ bW := bW_at 1299 (by decide +kernel) (by decide +kernel)
theorem mp_221 : Cond.methodLink RL 12 yX12_init ∈ bW := bW_at 1297 (by decide +kernel) (by decide +kernel)
theorem mp_222 : Cond.instanceMethod yX12_init ∈ bW := bW_at 1298 (by decide +kernel) (by decide +kernel)
