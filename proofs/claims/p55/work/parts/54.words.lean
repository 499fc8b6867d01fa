theorem dX12_see_0 : decode cX12_see 0 = .ok (.iload_n 1, 1) := by decide +kernel
theorem dX12_see_1 : decode cX12_see 1 = .ok (.aload_n 0, 1) := by decide +kernel
theorem dX12_see_2 : decode cX12_see 2 = .ok (.getfield 115, 3) := by decide +kernel
theorem dX12_see_5 : decode cX12_see 5 = .ok (.if_icmp .ge 16, 3) := by decide +kernel
theorem dX12_see_21 : decode cX12_see 21 = .ok (.iconst (-1), 1) := by decide +kernel
theorem dX12_see_22 : decode cX12_see 22 = .ok (.ireturn, 1) := by decide +kernel
theorem dX12_see_8 : decode cX12_see 8 = .ok (.aload_n 0, 1) := by decide +kernel
theorem dX12_see_9 : decode cX12_see 9 = .ok (.getfield 24, 3) := by decide +kernel
theorem dX12_see_12 : decode cX12_see 12 = .ok (.iload_n 1, 1) := by decide +kernel
theorem dX12_see_13 : decode cX12_see 13 = .ok (.baload, 1) := by decide +kernel
theorem dX12_see_14 : decode cX12_see 14 = .ok (.sipush 255, 3) := by decide +kernel
theorem dX12_see_17 : decode cX12_see 17 = .ok (.iand, 1) := by decide +kernel
theorem dX12_see_18 : decode cX12_see 18 = .ok (.goto 4, 3) := by decide +kernel
theorem dX12_step_0 : decode cX12_step 0 = .ok (.aload_n 0, 1) := by decide +kernel
theorem dX12_step_1 : decode cX12_step 1 = .ok (.aload_n 0, 1) := by decide +kernel
theorem dX12_step_2 : decode cX12_step 2 = .ok (.getfield 118, 3) := by decide +kernel
theorem dX12_step_5 : decode cX12_step 5 = .ok (.invokevirtual 121, 3) := by decide +kernel
theorem dX12_step_8 : decode cX12_step 8 = .ok (.bipush 32, 2) := by decide +kernel
theorem dX12_step_10 : decode cX12_step 10 = .ok (.if_icmp .eq 16, 3) := by decide +kernel
theorem dX12_step_26 : decode cX12_step 26 = .ok (.aload_n 0, 1) := by decide +kernel
theorem dX12_step_27 : decode cX12_step 27 = .ok (.dup, 1) := by decide +kernel
theorem dX12_step_28 : decode cX12_step 28 = .ok (.getfield 118, 3) := by decide +kernel
theorem dX12_step_31 : decode cX12_step 31 = .ok (.iconst 1, 1) := by decide +kernel
theorem dX12_step_32 : decode cX12_step 32 = .ok (.iadd, 1) := by decide +kernel
theorem dX12_step_33 : decode cX12_step 33 = .ok (.putfield 118, 3) := by decide +kernel
theorem dX12_step_36 : decode cX12_step 36 = .ok (.goto (-36), 3) := by decide +kernel
theorem dX12_step_13 : decode cX12_step 13 = .ok (.aload_n 0, 1) := by decide +kernel
theorem dX12_step_14 : decode cX12_step 14 = .ok (.aload_n 0, 1) := by decide +kernel
theorem dX12_step_15 : decode cX12_step 15 = .ok (.getfield 118, 3) := by decide +kernel
theorem dX12_step_18 : decode cX12_step 18 = .ok (.invokevirtual 121, 3) := by decide +kernel
theorem dX12_step_21 : decode cX12_step 21 = .ok (.bipush 10, 2) := by decide +kernel
theorem dX12_step_23 : decode cX12_step 23 = .ok (.if_icmp .ne 16, 3) := by decide +kernel
theorem dX12_step_39 : decode cX12_step 39 = .ok (.aload_n 0, 1) := by decide +kernel
theorem dX12_step_40 : decode cX12_step 40 = .ok (.aload_n 0, 1) := by decide +kernel
theorem dX12_step_41 : decode cX12_step 41 = .ok (.getfield 118, 3) := by decide +kernel
theorem dX12_step_44 : decode cX12_step 44 = .ok (.putfield 125, 3) := by decide +kernel
theorem dX12_step_47 : decode cX12_step 47 = .ok (.aload_n 0, 1) := by decide +kernel
theorem dX12_step_48 : decode cX12_step 48 = .ok (.aload_n 0, 1) := by decide +kernel
theorem dX12_step_49 : decode cX12_step 49 = .ok (.getfield 118, 3) := by decide +kernel
theorem dX12_step_52 : decode cX12_step 52 = .ok (.invokevirtual 121, 3) := by decide +kernel
theorem dX12_step_55 : decode cX12_step 55 = .ok (.istore_n 1, 1) := by decide +kernel
theorem dX12_step_56 : decode cX12_step 56 = .ok (.iload_n 1, 1) := by decide +kernel
theorem dX12_step_57 : decode cX12_step 57 = .ok (.iconst (-1), 1) := by decide +kernel
theorem dX12_step_58 : decode cX12_step 58 = .ok (.if_icmp .ne 11, 3) := by decide +kernel
theorem dX12_step_69 : decode cX12_step 69 = .ok (.iload_n 1, 1) := by decide +kernel
theorem dX12_step_70 : decode cX12_step 70 = .ok (.i2l, 1) := by decide +kernel
theorem dX12_step_71 : decode cX12_step 71 = .ok (.ldc2_w 131, 3) := by decide +kernel
theorem dX12_step_74 : decode cX12_step 74 = .ok (.ldc2_w 133, 3) := by decide +kernel
theorem dX12_step_77 : decode cX12_step 77 = .ok (.invokestatic 98, 3) := by decide +kernel
theorem dX12_step_80 : decode cX12_step 80 = .ok (.ifCond .eq 45, 3) := by decide +kernel
theorem dX12_step_125 : decode cX12_step 125 = .ok (.iload_n 1, 1) := by decide +kernel
theorem dX12_step_126 : decode cX12_step 126 = .ok (.i2l, 1) := by decide +kernel
theorem dX12_step_127 : decode cX12_step 127 = .ok (.ldc2_w 135, 3) := by decide +kernel
theorem dX12_step_130 : decode cX12_step 130 = .ok (.ldc2_w 137, 3) := by decide +kernel
theorem dX12_step_133 : decode cX12_step 133 = .ok (.invokestatic 98, 3) := by decide +kernel
theorem dX12_step_136 : decode cX12_step 136 = .ok (.ifCond .eq 78, 3) := by decide +kernel
theorem dX12_step_214 : decode cX12_step 214 = .ok (.aload_n 0, 1) := by decide +kernel
theorem dX12_step_215 : decode cX12_step 215 = .ok (.iload_n 1, 1) := by decide +kernel
theorem dX12_step_216 : decode cX12_step 216 = .ok (.bipush 59, 2) := by decide +kernel
theorem dX12_step_218 : decode cX12_step 218 = .ok (.if_icmp .ne 7, 3) := by decide +kernel
theorem dX12_step_225 : decode cX12_step 225 = .ok (.iconst 4, 1) := by decide +kernel
theorem dX12_step_226 : decode cX12_step 226 = .ok (.putfield 128, 3) := by decide +kernel
theorem dX12_step_229 : decode cX12_step 229 = .ok (.aload_n 0, 1) := by decide +kernel
theorem dX12_step_230 : decode cX12_step 230 = .ok (.dup, 1) := by decide +kernel
theorem dX12_step_231 : decode cX12_step 231 = .ok (.getfield 118, 3) := by decide +kernel
theorem dX12_step_234 : decode cX12_step 234 = .ok (.iconst 1, 1) := by decide +kernel
theorem dX12_step_235 : decode cX12_step 235 = .ok (.iadd, 1) := by decide +kernel
theorem dX12_step_236 : decode cX12_step 236 = .ok (.putfield 118, 3) := by decide +kernel
theorem dX12_step_239 : decode cX12_step 239 = .ok (.return_, 1) := by decide +kernel
theorem dX12_step_221 : decode cX12_step 221 = .ok (.iconst 3, 1) := by decide +kernel
theorem dX12_step_222 : decode cX12_step 222 = .ok (.goto 4, 3) := by decide +kernel
theorem dX12_step_139 : decode cX12_step 139 = .ok (.aload_n 0, 1) := by decide +kernel
theorem dX12_step_140 : decode cX12_step 140 = .ok (.iconst 0, 1) := by decide +kernel
theorem dX12_step_141 : decode cX12_step 141 = .ok (.putfield 139, 3) := by decide +kernel
theorem dX12_step_144 : decode cX12_step 144 = .ok (.aload_n 0, 1) := by decide +kernel
theorem dX12_step_145 : decode cX12_step 145 = .ok (.aload_n 0, 1) := by decide +kernel
theorem dX12_step_146 : decode cX12_step 146 = .ok (.getfield 118, 3) := by decide +kernel
theorem dX12_step_149 : decode cX12_step 149 = .ok (.invokevirtual 121, 3) := by decide +kernel
theorem dX12_step_152 : decode cX12_step 152 = .ok (.i2l, 1) := by decide +kernel
theorem dX12_step_153 : decode cX12_step 153 = .ok (.ldc2_w 135, 3) := by decide +kernel
theorem dX12_step_156 : decode cX12_step 156 = .ok (.ldc2_w 137, 3) := by decide +kernel
theorem dX12_step_159 : decode cX12_step 159 = .ok (.invokestatic 98, 3) := by decide +kernel
theorem dX12_step_162 : decode cX12_step 162 = .ok (.ifCond .eq 44, 3) := by decide +kernel
theorem dX12_step_165 : decode cX12_step 165 = .ok (.aload_n 0, 1) := by decide +kernel
theorem dX12_step_166 : decode cX12_step 166 = .ok (.ldc 142, 2) := by decide +kernel
theorem dX12_step_168 : decode cX12_step 168 = .ok (.bipush 10, 2) := by decide +kernel
theorem dX12_step_170 : decode cX12_step 170 = .ok (.aload_n 0, 1) := by decide +kernel
theorem dX12_step_171 : decode cX12_step 171 = .ok (.getfield 139, 3) := by decide +kernel
theorem dX12_step_174 : decode cX12_step 174 = .ok (.imul, 1) := by decide +kernel
theorem dX12_step_175 : decode cX12_step 175 = .ok (.aload_n 0, 1) := by decide +kernel
theorem dX12_step_176 : decode cX12_step 176 = .ok (.aload_n 0, 1) := by decide +kernel
theorem dX12_step_177 : decode cX12_step 177 = .ok (.getfield 118, 3) := by decide +kernel
theorem dX12_step_180 : decode cX12_step 180 = .ok (.invokevirtual 121, 3) := by decide +kernel
theorem dX12_step_183 : decode cX12_step 183 = .ok (.iadd, 1) := by decide +kernel
theorem dX12_step_184 : decode cX12_step 184 = .ok (.bipush 48, 2) := by decide +kernel
theorem dX12_step_186 : decode cX12_step 186 = .ok (.isub, 1) := by decide +kernel
theorem dX12_step_187 : decode cX12_step 187 = .ok (.invokestatic 143, 3) := by decide +kernel
theorem dX12_step_190 : decode cX12_step 190 = .ok (.putfield 139, 3) := by decide +kernel
theorem dX12_step_193 : decode cX12_step 193 = .ok (.aload_n 0, 1) := by decide +kernel
theorem dX12_step_194 : decode cX12_step 194 = .ok (.dup, 1) := by decide +kernel
theorem dX12_step_195 : decode cX12_step 195 = .ok (.getfield 118, 3) := by decide +kernel
theorem dX12_step_198 : decode cX12_step 198 = .ok (.iconst 1, 1) := by decide +kernel
theorem dX12_step_199 : decode cX12_step 199 = .ok (.iadd, 1) := by decide +kernel
theorem dX12_step_200 : decode cX12_step 200 = .ok (.putfield 118, 3) := by decide +kernel
theorem dX12_step_203 : decode cX12_step 203 = .ok (.goto (-59), 3) := by decide +kernel
theorem dX12_step_206 : decode cX12_step 206 = .ok (.aload_n 0, 1) := by decide +kernel
theorem dX12_step_207 : decode cX12_step 207 = .ok (.iconst 2, 1) := by decide +kernel
theorem dX12_step_208 : decode cX12_step 208 = .ok (.putfield 128, 3) := by decide +kernel
theorem dX12_step_211 : decode cX12_step 211 = .ok (.goto 28, 3) := by decide +kernel
theorem dX12_step_83 : decode cX12_step 83 = .ok (.aload_n 0, 1) := by decide +kernel
theorem dX12_step_84 : decode cX12_step 84 = .ok (.aload_n 0, 1) := by decide +kernel
theorem dX12_step_85 : decode cX12_step 85 = .ok (.getfield 118, 3) := by decide +kernel
theorem dX12_step_88 : decode cX12_step 88 = .ok (.invokevirtual 121, 3) := by decide +kernel
theorem dX12_step_91 : decode cX12_step 91 = .ok (.i2l, 1) := by decide +kernel
theorem dX12_step_92 : decode cX12_step 92 = .ok (.ldc2_w 131, 3) := by decide +kernel
theorem dX12_step_95 : decode cX12_step 95 = .ok (.ldc2_w 133, 3) := by decide +kernel
theorem dX12_step_98 : decode cX12_step 98 = .ok (.invokestatic 98, 3) := by decide +kernel
theorem dX12_step_101 : decode cX12_step 101 = .ok (.ifCond .eq 16, 3) := by decide +kernel
theorem dX12_step_104 : decode cX12_step 104 = .ok (.aload_n 0, 1) := by decide +kernel
theorem dX12_step_105 : decode cX12_step 105 = .ok (.dup, 1) := by decide +kernel
theorem dX12_step_106 : decode cX12_step 106 = .ok (.getfield 118, 3) := by decide +kernel
theorem dX12_step_109 : decode cX12_step 109 = .ok (.iconst 1, 1) := by decide +kernel
theorem dX12_step_110 : decode cX12_step 110 = .ok (.iadd, 1) := by decide +kernel
theorem dX12_step_111 : decode cX12_step 111 = .ok (.putfield 118, 3) := by decide +kernel
theorem dX12_step_114 : decode cX12_step 114 = .ok (.goto (-31), 3) := by decide +kernel
theorem dX12_step_117 : decode cX12_step 117 = .ok (.aload_n 0, 1) := by decide +kernel
theorem dX12_step_118 : decode cX12_step 118 = .ok (.iconst 1, 1) := by decide +kernel
theorem dX12_step_119 : decode cX12_step 119 = .ok (.putfield 128, 3) := by decide +kernel
theorem dX12_step_122 : decode cX12_step 122 = .ok (.goto 117, 3) := by decide +kernel
theorem dX12_step_61 : decode cX12_step 61 = .ok (.aload_n 0, 1) := by decide +kernel
theorem dX12_step_62 : decode cX12_step 62 = .ok (.iconst 0, 1) := by decide +kernel
theorem dX12_step_63 : decode cX12_step 63 = .ok (.putfield 128, 3) := by decide +kernel
theorem dX12_step_66 : decode cX12_step 66 = .ok (.goto 173, 3) := by decide +kernel
theorem dX12_good_0 : decode cX12_good 0 = .ok (.aload_n 0, 1) := by decide +kernel
theorem dX12_good_1 : decode cX12_good 1 = .ok (.getfield 149, 3) := by decide +kernel
theorem dX12_good_4 : decode cX12_good 4 = .ok (.ifCond .ne 7, 3) := by decide +kernel
theorem dX12_good_11 : decode cX12_good 11 = .ok (.iconst 0, 1) := by decide +kernel
theorem dX12_good_12 : decode cX12_good 12 = .ok (.ireturn, 1) := by decide +kernel
theorem dX12_good_7 : decode cX12_good 7 = .ok (.iconst 1, 1) := by decide +kernel
theorem dX12_good_8 : decode cX12_good 8 = .ok (.goto 4, 3) := by decide +kernel
theorem dX12_is_36 : decode cX12_is 36 = .ok (.istore_n 2, 1) := by decide +kernel
theorem dX12_is_37 : decode cX12_is 37 = .ok (.iconst 0, 1) := by decide +kernel
theorem dX12_is_38 : decode cX12_is 38 = .ok (.istore_n 3, 1) := by decide +kernel
theorem dX12_is_39 : decode cX12_is 39 = .ok (.iload_n 3, 1) := by decide +kernel
theorem dX12_is_40 : decode cX12_is 40 = .ok (.aload_n 1, 1) := by decide +kernel
theorem dX12_is_41 : decode cX12_is 41 = .ok (.invokevirtual 156, 3) := by decide +kernel
theorem dX12_is_44 : decode cX12_is 44 = .ok (.if_icmp .ge 38, 3) := by decide +kernel
theorem dX12_is_47 : decode cX12_is 47 = .ok (.iload_n 2, 1) := by decide +kernel
theorem dX12_is_48 : decode cX12_is 48 = .ok (.ifCond .eq 34, 3) := by decide +kernel
theorem dX12_is_51 : decode cX12_is 51 = .ok (.aload_n 0, 1) := by decide +kernel
theorem dX12_is_52 : decode cX12_is 52 = .ok (.getfield 24, 3) := by decide +kernel
theorem dX12_is_55 : decode cX12_is 55 = .ok (.aload_n 0, 1) := by decide +kernel
theorem dX12_is_56 : decode cX12_is 56 = .ok (.getfield 125, 3) := by decide +kernel
theorem dX12_is_59 : decode cX12_is 59 = .ok (.iload_n 3, 1) := by decide +kernel
theorem dX12_is_60 : decode cX12_is 60 = .ok (.iadd, 1) := by decide +kernel
theorem dX12_is_61 : decode cX12_is 61 = .ok (.baload, 1) := by decide +kernel
theorem dX12_is_62 : decode cX12_is 62 = .ok (.aload_n 1, 1) := by decide +kernel
theorem dX12_is_63 : decode cX12_is 63 = .ok (.iload_n 3, 1) := by decide +kernel
theorem dX12_is_64 : decode cX12_is 64 = .ok (.invokevirtual 161, 3) := by decide +kernel
theorem dX12_is_67 : decode cX12_is 67 = .ok (.if_icmp .ne 7, 3) := by decide +kernel
theorem dX12_is_74 : decode cX12_is 74 = .ok (.iconst 0, 1) := by decide +kernel
theorem dX12_is_75 : decode cX12_is 75 = .ok (.istore_n 2, 1) := by decide +kernel
theorem dX12_is_76 : decode cX12_is 76 = .ok (.iinc 3 1, 3) := by decide +kernel
theorem dX12_is_79 : decode cX12_is 79 = .ok (.goto (-40), 3) := by decide +kernel
theorem dX12_is_70 : decode cX12_is 70 = .ok (.iconst 1, 1) := by decide +kernel
theorem dX12_is_71 : decode cX12_is 71 = .ok (.goto 4, 3) := by decide +kernel
theorem dX12_is_82 : decode cX12_is 82 = .ok (.iload_n 2, 1) := by decide +kernel
theorem dX12_is_83 : decode cX12_is 83 = .ok (.ireturn, 1) := by decide +kernel
theorem dX12_is_0 : decode cX12_is 0 = .ok (.aload_n 0, 1) := by decide +kernel
theorem dX12_is_1 : decode cX12_is 1 = .ok (.invokevirtual 152, 3) := by decide +kernel
theorem dX12_is_4 : decode cX12_is 4 = .ok (.ifCond .eq 31, 3) := by decide +kernel
theorem dX12_is_35 : decode cX12_is 35 = .ok (.iconst 0, 1) := by decide +kernel
theorem dX12_is_7 : decode cX12_is 7 = .ok (.aload_n 0, 1) := by decide +kernel
theorem dX12_is_8 : decode cX12_is 8 = .ok (.getfield 128, 3) := by decide +kernel
theorem dX12_is_11 : decode cX12_is 11 = .ok (.iconst 1, 1) := by decide +kernel
theorem dX12_is_12 : decode cX12_is 12 = .ok (.if_icmp .ne 23, 3) := by decide +kernel
theorem dX12_is_15 : decode cX12_is 15 = .ok (.aload_n 0, 1) := by decide +kernel
theorem dX12_is_16 : decode cX12_is 16 = .ok (.getfield 118, 3) := by decide +kernel
theorem dX12_is_19 : decode cX12_is 19 = .ok (.aload_n 0, 1) := by decide +kernel
theorem dX12_is_20 : decode cX12_is 20 = .ok (.getfield 125, 3) := by decide +kernel
theorem dX12_is_23 : decode cX12_is 23 = .ok (.isub, 1) := by decide +kernel
theorem dX12_is_24 : decode cX12_is 24 = .ok (.aload_n 1, 1) := by decide +kernel
theorem dX12_is_25 : decode cX12_is 25 = .ok (.invokevirtual 156, 3) := by decide +kernel
theorem dX12_is_28 : decode cX12_is 28 = .ok (.if_icmp .ne 7, 3) := by decide +kernel
theorem dX12_is_31 : decode cX12_is 31 = .ok (.iconst 1, 1) := by decide +kernel
theorem dX12_is_32 : decode cX12_is 32 = .ok (.goto 4, 3) := by decide +kernel
theorem dX12_wrong_0 : decode cX12_wrong 0 = .ok (.aload_n 0, 1) := by decide +kernel
theorem dX12_wrong_1 : decode cX12_wrong 1 = .ok (.invokevirtual 152, 3) := by decide +kernel
theorem dX12_wrong_4 : decode cX12_wrong 4 = .ok (.ifCond .ne 4, 3) := by decide +kernel
theorem dX12_wrong_7 : decode cX12_wrong 7 = .ok (.return_, 1) := by decide +kernel
theorem dX12_wrong_8 : decode cX12_wrong 8 = .ok (.aload_n 0, 1) := by decide +kernel
theorem dX12_wrong_9 : decode cX12_wrong 9 = .ok (.iload_n 1, 1) := by decide +kernel
theorem dX12_wrong_10 : decode cX12_wrong 10 = .ok (.putfield 149, 3) := by decide +kernel
theorem dX12_wrong_13 : decode cX12_wrong 13 = .ok (.aload_n 0, 1) := by decide +kernel
theorem dX12_wrong_14 : decode cX12_wrong 14 = .ok (.aload_n 0, 1) := by decide +kernel
theorem dX12_wrong_15 : decode cX12_wrong 15 = .ok (.getfield 125, 3) := by decide +kernel
theorem dX12_wrong_18 : decode cX12_wrong 18 = .ok (.putfield 31, 3) := by decide +kernel
theorem dX12_wrong_21 : decode cX12_wrong 21 = .ok (.return_, 1) := by decide +kernel
theorem dX12_takes_0 : decode cX12_takes 0 = .ok (.aload_n 0, 1) := by decide +kernel
theorem dX12_takes_1 : decode cX12_takes 1 = .ok (.aload_n 1, 1) := by decide +kernel
theorem dX12_takes_2 : decode cX12_takes 2 = .ok (.invokevirtual 165, 3) := by decide +kernel
theorem dX12_takes_5 : decode cX12_takes 5 = .ok (.istore_n 2, 1) := by decide +kernel
theorem dX12_takes_6 : decode cX12_takes 6 = .ok (.iload_n 2, 1) := by decide +kernel
theorem dX12_takes_7 : decode cX12_takes 7 = .ok (.ifCond .eq 7, 3) := by decide +kernel
theorem dX12_takes_14 : decode cX12_takes 14 = .ok (.iload_n 2, 1) := by decide +kernel
theorem dX12_takes_15 : decode cX12_takes 15 = .ok (.ireturn, 1) := by decide +kernel
theorem dX12_takes_10 : decode cX12_takes 10 = .ok (.aload_n 0, 1) := by decide +kernel
theorem dX12_takes_11 : decode cX12_takes 11 = .ok (.invokevirtual 169, 3) := by decide +kernel
theorem dX12_number_0 : decode cX12_number 0 = .ok (.aload_n 0, 1) := by decide +kernel
theorem dX12_number_1 : decode cX12_number 1 = .ok (.invokevirtual 152, 3) := by decide +kernel
theorem dX12_number_4 : decode cX12_number 4 = .ok (.ifCond .eq 16, 3) := by decide +kernel
theorem dX12_number_20 : decode cX12_number 20 = .ok (.aload_n 0, 1) := by decide +kernel
theorem dX12_number_21 : decode cX12_number 21 = .ok (.invokevirtual 152, 3) := by decide +kernel
theorem dX12_number_24 : decode cX12_number 24 = .ok (.ifCond .eq 23, 3) := by decide +kernel
theorem dX12_number_47 : decode cX12_number 47 = .ok (.aload_n 0, 1) := by decide +kernel
theorem dX12_number_48 : decode cX12_number 48 = .ok (.invokevirtual 152, 3) := by decide +kernel
theorem dX12_number_51 : decode cX12_number 51 = .ok (.ifCond .ne 5, 3) := by decide +kernel
theorem dX12_number_54 : decode cX12_number 54 = .ok (.iconst 0, 1) := by decide +kernel
theorem dX12_number_55 : decode cX12_number 55 = .ok (.ireturn, 1) := by decide +kernel
theorem dX12_number_7 : decode cX12_number 7 = .ok (.aload_n 0, 1) := by decide +kernel
theorem dX12_number_8 : decode cX12_number 8 = .ok (.getfield 128, 3) := by decide +kernel
theorem dX12_number_11 : decode cX12_number 11 = .ok (.iconst 2, 1) := by decide +kernel
theorem dX12_number_12 : decode cX12_number 12 = .ok (.if_icmp .eq 8, 3) := by decide +kernel
theorem dX12_number_27 : decode cX12_number 27 = .ok (.aload_n 0, 1) := by decide +kernel
theorem dX12_number_28 : decode cX12_number 28 = .ok (.getfield 139, 3) := by decide +kernel
theorem dX12_number_31 : decode cX12_number 31 = .ok (.i2l, 1) := by decide +kernel
theorem dX12_number_32 : decode cX12_number 32 = .ok (.iload_n 1, 1) := by decide +kernel
theorem dX12_number_33 : decode cX12_number 33 = .ok (.i2l, 1) := by decide +kernel
theorem dX12_number_34 : decode cX12_number 34 = .ok (.iload_n 2, 1) := by decide +kernel
theorem dX12_number_35 : decode cX12_number 35 = .ok (.i2l, 1) := by decide +kernel
theorem dX12_number_36 : decode cX12_number 36 = .ok (.invokestatic 98, 3) := by decide +kernel
theorem dX12_number_39 : decode cX12_number 39 = .ok (.ifCond .ne 8, 3) := by decide +kernel
theorem dX12_number_42 : decode cX12_number 42 = .ok (.aload_n 0, 1) := by decide +kernel
theorem dX12_number_43 : decode cX12_number 43 = .ok (.iconst 2, 1) := by decide +kernel
theorem dX12_number_44 : decode cX12_number 44 = .ok (.invokevirtual 175, 3) := by decide +kernel
theorem dX12_number_56 : decode cX12_number 56 = .ok (.aload_n 0, 1) := by decide +kernel
theorem dX12_number_57 : decode cX12_number 57 = .ok (.getfield 139, 3) := by decide +kernel
theorem dX12_number_60 : decode cX12_number 60 = .ok (.istore_n 3, 1) := by decide +kernel
theorem dX12_number_61 : decode cX12_number 61 = .ok (.aload_n 0, 1) := by decide +kernel
theorem dX12_number_62 : decode cX12_number 62 = .ok (.invokevirtual 169, 3) := by decide +kernel
theorem dX12_number_65 : decode cX12_number 65 = .ok (.iload_n 3, 1) := by decide +kernel
theorem dX12_number_66 : decode cX12_number 66 = .ok (.ireturn, 1) := by decide +kernel
theorem dX12_number_15 : decode cX12_number 15 = .ok (.aload_n 0, 1) := by decide +kernel
theorem dX12_number_16 : decode cX12_number 16 = .ok (.iconst 1, 1) := by decide +kernel
theorem dX12_number_17 : decode cX12_number 17 = .ok (.invokevirtual 175, 3) := by decide +kernel
theorem dX12_other_0 : decode cX12_other 0 = .ok (.aload_n 0, 1) := by decide +kernel
theorem dX12_other_1 : decode cX12_other 1 = .ok (.invokevirtual 152, 3) := by decide +kernel
theorem dX12_other_4 : decode cX12_other 4 = .ok (.ifCond .eq 24, 3) := by decide +kernel
theorem dX12_other_28 : decode cX12_other 28 = .ok (.aload_n 0, 1) := by decide +kernel
theorem dX12_other_29 : decode cX12_other 29 = .ok (.iconst 0, 1) := by decide +kernel
theorem dX12_other_30 : decode cX12_other 30 = .ok (.aload_n 0, 1) := by decide +kernel
theorem dX12_other_31 : decode cX12_other 31 = .ok (.getfield 34, 3) := by decide +kernel
theorem dX12_other_34 : decode cX12_other 34 = .ok (.iconst 1, 1) := by decide +kernel
theorem dX12_other_35 : decode cX12_other 35 = .ok (.iaload, 1) := by decide +kernel
theorem dX12_other_36 : decode cX12_other 36 = .ok (.iconst 1, 1) := by decide +kernel
theorem dX12_other_37 : decode cX12_other 37 = .ok (.isub, 1) := by decide +kernel
theorem dX12_other_38 : decode cX12_other 38 = .ok (.invokevirtual 183, 3) := by decide +kernel
theorem dX12_other_41 : decode cX12_other 41 = .ok (.ireturn, 1) := by decide +kernel
theorem dX12_other_7 : decode cX12_other 7 = .ok (.aload_n 0, 1) := by decide +kernel
theorem dX12_other_8 : decode cX12_other 8 = .ok (.getfield 128, 3) := by decide +kernel
theorem dX12_other_11 : decode cX12_other 11 = .ok (.iconst 2, 1) := by decide +kernel
theorem dX12_other_12 : decode cX12_other 12 = .ok (.if_icmp .ne 16, 3) := by decide +kernel
theorem dX12_other_15 : decode cX12_other 15 = .ok (.aload_n 0, 1) := by decide +kernel
theorem dX12_other_16 : decode cX12_other 16 = .ok (.getfield 139, 3) := by decide +kernel
theorem dX12_other_19 : decode cX12_other 19 = .ok (.iload_n 1, 1) := by decide +kernel
theorem dX12_other_20 : decode cX12_other 20 = .ok (.if_icmp .ne 8, 3) := by decide +kernel
theorem dX12_other_23 : decode cX12_other 23 = .ok (.aload_n 0, 1) := by decide +kernel
theorem dX12_other_24 : decode cX12_other 24 = .ok (.iconst 2, 1) := by decide +kernel
theorem dX12_other_25 : decode cX12_other 25 = .ok (.invokevirtual 175, 3) := by decide +kernel
theorem dX12_needs_0 : decode cX12_needs 0 = .ok (.aload_n 0, 1) := by decide +kernel
theorem dX12_needs_1 : decode cX12_needs 1 = .ok (.aload_n 1, 1) := by decide +kernel
theorem dX12_needs_2 : decode cX12_needs 2 = .ok (.invokevirtual 172, 3) := by decide +kernel
theorem dX12_needs_5 : decode cX12_needs 5 = .ok (.ifCond .ne 8, 3) := by decide +kernel
theorem dX12_needs_13 : decode cX12_needs 13 = .ok (.return_, 1) := by decide +kernel
theorem dX12_needs_8 : decode cX12_needs 8 = .ok (.aload_n 0, 1) := by decide +kernel
theorem dX12_needs_9 : decode cX12_needs 9 = .ok (.iconst 1, 1) := by decide +kernel
theorem dX12_needs_10 : decode cX12_needs 10 = .ok (.invokevirtual 175, 3) := by decide +kernel
theorem dX12_told_0 : decode cX12_told 0 = .ok (.aload_n 0, 1) := by decide +kernel
theorem dX12_told_1 : decode cX12_told 1 = .ok (.aload_n 1, 1) := by decide +kernel
theorem dX12_told_2 : decode cX12_told 2 = .ok (.invokevirtual 179, 3) := by decide +kernel
theorem dX12_told_5 : decode cX12_told 5 = .ok (.aload_n 0, 1) := by decide +kernel
theorem dX12_told_6 : decode cX12_told 6 = .ok (.iload_n 2, 1) := by decide +kernel
theorem dX12_told_7 : decode cX12_told 7 = .ok (.iload_n 3, 1) := by decide +kernel
theorem dX12_told_8 : decode cX12_told 8 = .ok (.invokevirtual 183, 3) := by decide +kernel
theorem dX12_told_11 : decode cX12_told 11 = .ok (.ireturn, 1) := by decide +kernel
theorem dX12_readStreet_0 : decode cX12_readStreet 0 = .ok (.sipush 206, 3) := by decide +kernel
theorem dX12_readStreet_3 : decode cX12_readStreet 3 = .ok (.bipush 7, 2) := by decide +kernel
theorem dX12_readStreet_5 : decode cX12_readStreet 5 = .ok (.aload_n 0, 1) := by decide +kernel
theorem dX12_readStreet_6 : decode cX12_readStreet 6 = .ok (.getfield 34, 3) := by decide +kernel
theorem dX12_readStreet_9 : decode cX12_readStreet 9 = .ok (.iconst 5, 1) := by decide +kernel
theorem dX12_readStreet_10 : decode cX12_readStreet 10 = .ok (.iaload, 1) := by decide +kernel
theorem dX12_readStreet_11 : decode cX12_readStreet 11 = .ok (.imul, 1) := by decide +kernel
theorem dX12_readStreet_12 : decode cX12_readStreet 12 = .ok (.iadd, 1) := by decide +kernel
theorem dX12_readStreet_13 : decode cX12_readStreet 13 = .ok (.istore_n 1, 1) := by decide +kernel
theorem dX12_readStreet_14 : decode cX12_readStreet 14 = .ok (.iconst 0, 1) := by decide +kernel
theorem dX12_readStreet_15 : decode cX12_readStreet 15 = .ok (.istore_n 2, 1) := by decide +kernel
theorem dX12_readStreet_16 : decode cX12_readStreet 16 = .ok (.iconst 1, 1) := by decide +kernel
theorem dX12_readStreet_17 : decode cX12_readStreet 17 = .ok (.istore_n 3, 1) := by decide +kernel
theorem dX12_readStreet_18 : decode cX12_readStreet 18 = .ok (.iload_n 3, 1) := by decide +kernel
theorem dX12_readStreet_19 : decode cX12_readStreet 19 = .ok (.ifCond .eq 127, 3) := by decide +kernel
theorem dX12_readStreet_22 : decode cX12_readStreet 22 = .ok (.aload_n 0, 1) := by decide +kernel
theorem dX12_readStreet_23 : decode cX12_readStreet 23 = .ok (.invokevirtual 152, 3) := by decide +kernel
theorem dX12_readStreet_26 : decode cX12_readStreet 26 = .ok (.ifCond .eq 120, 3) := by decide +kernel
theorem dX12_readStreet_86 : decode cX12_readStreet 86 = .ok (.aload_n 0, 1) := by decide +kernel
theorem dX12_readStreet_87 : decode cX12_readStreet 87 = .ok (.iconst 0, 1) := by decide +kernel
theorem dX12_readStreet_88 : decode cX12_readStreet 88 = .ok (.bipush 27, 2) := by decide +kernel
theorem dX12_readStreet_90 : decode cX12_readStreet 90 = .ok (.invokevirtual 183, 3) := by decide +kernel
theorem dX12_readStreet_93 : decode cX12_readStreet 93 = .ok (.istore 4, 2) := by decide +kernel
theorem dX12_readStreet_95 : decode cX12_readStreet 95 = .ok (.aload_n 0, 1) := by decide +kernel
theorem dX12_readStreet_96 : decode cX12_readStreet 96 = .ok (.invokevirtual 152, 3) := by decide +kernel
theorem dX12_readStreet_99 : decode cX12_readStreet 99 = .ok (.ifCond .ne 4, 3) := by decide +kernel
theorem dX12_readStreet_102 : decode cX12_readStreet 102 = .ok (.return_, 1) := by decide +kernel
theorem dX12_readStreet_103 : decode cX12_readStreet 103 = .ok (.aload_n 0, 1) := by decide +kernel
theorem dX12_readStreet_104 : decode cX12_readStreet 104 = .ok (.getfield 37, 3) := by decide +kernel
theorem dX12_readStreet_107 : decode cX12_readStreet 107 = .ok (.iload 4, 2) := by decide +kernel
theorem dX12_readStreet_109 : decode cX12_readStreet 109 = .ok (.iconst 1, 1) := by decide +kernel
theorem dX12_readStreet_110 : decode cX12_readStreet 110 = .ok (.bastore, 1) := by decide +kernel
theorem dX12_readStreet_111 : decode cX12_readStreet 111 = .ok (.iinc 2 1, 3) := by decide +kernel
theorem dX12_readStreet_114 : decode cX12_readStreet 114 = .ok (.aload_n 0, 1) := by decide +kernel
theorem dX12_readStreet_115 : decode cX12_readStreet 115 = .ok (.getfield 34, 3) := by decide +kernel
theorem dX12_readStreet_118 : decode cX12_readStreet 118 = .ok (.iload_n 1, 1) := by decide +kernel
theorem dX12_readStreet_119 : decode cX12_readStreet 119 = .ok (.iload_n 2, 1) := by decide +kernel
theorem dX12_readStreet_120 : decode cX12_readStreet 120 = .ok (.iadd, 1) := by decide +kernel
theorem dX12_readStreet_121 : decode cX12_readStreet 121 = .ok (.iload 4, 2) := by decide +kernel
theorem dX12_readStreet_123 : decode cX12_readStreet 123 = .ok (.iastore, 1) := by decide +kernel
theorem dX12_readStreet_142 : decode cX12_readStreet 142 = .ok (.istore_n 3, 1) := by decide +kernel
theorem dX12_readStreet_143 : decode cX12_readStreet 143 = .ok (.goto (-125), 3) := by decide +kernel
theorem dX12_readStreet_124 : decode cX12_readStreet 124 = .ok (.iload_n 2, 1) := by decide +kernel
theorem dX12_readStreet_125 : decode cX12_readStreet 125 = .ok (.iconst 2, 1) := by decide +kernel
theorem dX12_readStreet_126 : decode cX12_readStreet 126 = .ok (.if_icmp .lt 11, 3) := by decide +kernel
theorem dX12_readStreet_137 : decode cX12_readStreet 137 = .ok (.iconst 1, 1) := by decide +kernel
theorem dX12_readStreet_138 : decode cX12_readStreet 138 = .ok (.goto 4, 3) := by decide +kernel
theorem dX12_readStreet_129 : decode cX12_readStreet 129 = .ok (.aload_n 0, 1) := by decide +kernel
theorem dX12_readStreet_130 : decode cX12_readStreet 130 = .ok (.getfield 128, 3) := by decide +kernel
theorem dX12_readStreet_133 : decode cX12_readStreet 133 = .ok (.iconst 2, 1) := by decide +kernel
theorem dX12_readStreet_134 : decode cX12_readStreet 134 = .ok (.if_icmp .ne 7, 3) := by decide +kernel
theorem dX12_readStreet_141 : decode cX12_readStreet 141 = .ok (.iconst 0, 1) := by decide +kernel
theorem dX12_readStreet_67 : decode cX12_readStreet 67 = .ok (.aload_n 0, 1) := by decide +kernel
theorem dX12_readStreet_68 : decode cX12_readStreet 68 = .ok (.getfield 128, 3) := by decide +kernel
theorem dX12_readStreet_71 : decode cX12_readStreet 71 = .ok (.iconst 2, 1) := by decide +kernel
theorem dX12_readStreet_72 : decode cX12_readStreet 72 = .ok (.if_icmp .ne 14, 3) := by decide +kernel
theorem dX12_readStreet_75 : decode cX12_readStreet 75 = .ok (.iload_n 2, 1) := by decide +kernel
theorem dX12_readStreet_76 : decode cX12_readStreet 76 = .ok (.bipush 6, 2) := by decide +kernel
theorem dX12_readStreet_78 : decode cX12_readStreet 78 = .ok (.if_icmp .ne 8, 3) := by decide +kernel
theorem dX12_readStreet_81 : decode cX12_readStreet 81 = .ok (.aload_n 0, 1) := by decide +kernel
theorem dX12_readStreet_82 : decode cX12_readStreet 82 = .ok (.iconst 3, 1) := by decide +kernel
theorem dX12_readStreet_83 : decode cX12_readStreet 83 = .ok (.invokevirtual 175, 3) := by decide +kernel
theorem dX12_readStreet_29 : decode cX12_readStreet 29 = .ok (.aload_n 0, 1) := by decide +kernel
theorem dX12_readStreet_30 : decode cX12_readStreet 30 = .ok (.getfield 128, 3) := by decide +kernel
theorem dX12_readStreet_33 : decode cX12_readStreet 33 = .ok (.iconst 2, 1) := by decide +kernel
theorem dX12_readStreet_34 : decode cX12_readStreet 34 = .ok (.if_icmp .ne 33, 3) := by decide +kernel
theorem dX12_readStreet_37 : decode cX12_readStreet 37 = .ok (.aload_n 0, 1) := by decide +kernel
theorem dX12_readStreet_38 : decode cX12_readStreet 38 = .ok (.getfield 139, 3) := by decide +kernel
theorem dX12_readStreet_41 : decode cX12_readStreet 41 = .ok (.aload_n 0, 1) := by decide +kernel
theorem dX12_readStreet_42 : decode cX12_readStreet 42 = .ok (.getfield 34, 3) := by decide +kernel
theorem dX12_readStreet_45 : decode cX12_readStreet 45 = .ok (.iconst 2, 1) := by decide +kernel
theorem dX12_readStreet_46 : decode cX12_readStreet 46 = .ok (.iaload, 1) := by decide +kernel
theorem dX12_readStreet_47 : decode cX12_readStreet 47 = .ok (.if_icmp .ge 15, 3) := by decide +kernel
theorem dX12_readStreet_62 : decode cX12_readStreet 62 = .ok (.aload_n 0, 1) := by decide +kernel
theorem dX12_readStreet_63 : decode cX12_readStreet 63 = .ok (.iconst 2, 1) := by decide +kernel
theorem dX12_readStreet_64 : decode cX12_readStreet 64 = .ok (.invokevirtual 175, 3) := by decide +kernel
theorem dX12_readStreet_50 : decode cX12_readStreet 50 = .ok (.aload_n 0, 1) := by decide +kernel
theorem dX12_readStreet_51 : decode cX12_readStreet 51 = .ok (.getfield 37, 3) := by decide +kernel
theorem dX12_readStreet_54 : decode cX12_readStreet 54 = .ok (.aload_n 0, 1) := by decide +kernel
theorem dX12_readStreet_55 : decode cX12_readStreet 55 = .ok (.getfield 139, 3) := by decide +kernel
theorem dX12_readStreet_58 : decode cX12_readStreet 58 = .ok (.baload, 1) := by decide +kernel
theorem dX12_readStreet_59 : decode cX12_readStreet 59 = .ok (.ifCond .eq 8, 3) := by decide +kernel
theorem dX12_readStreet_146 : decode cX12_readStreet 146 = .ok (.aload_n 0, 1) := by decide +kernel
theorem dX12_readStreet_147 : decode cX12_readStreet 147 = .ok (.getfield 34, 3) := by decide +kernel
theorem dX12_readStreet_150 : decode cX12_readStreet 150 = .ok (.iload_n 1, 1) := by decide +kernel
theorem dX12_readStreet_151 : decode cX12_readStreet 151 = .ok (.iload_n 2, 1) := by decide +kernel
theorem dX12_readStreet_152 : decode cX12_readStreet 152 = .ok (.iastore, 1) := by decide +kernel
theorem dX12_readStreet_153 : decode cX12_readStreet 153 = .ok (.aload_n 0, 1) := by decide +kernel
theorem dX12_readStreet_154 : decode cX12_readStreet 154 = .ok (.getfield 34, 3) := by decide +kernel
theorem dX12_readStreet_157 : decode cX12_readStreet 157 = .ok (.iconst 5, 1) := by decide +kernel
theorem dX12_readStreet_158 : decode cX12_readStreet 158 = .ok (.dup2, 1) := by decide +kernel
theorem dX12_readStreet_159 : decode cX12_readStreet 159 = .ok (.iaload, 1) := by decide +kernel
theorem dX12_readStreet_160 : decode cX12_readStreet 160 = .ok (.iconst 1, 1) := by decide +kernel
theorem dX12_readStreet_161 : decode cX12_readStreet 161 = .ok (.iadd, 1) := by decide +kernel
theorem dX12_readStreet_162 : decode cX12_readStreet 162 = .ok (.iastore, 1) := by decide +kernel
theorem dX12_readStreet_163 : decode cX12_readStreet 163 = .ok (.return_, 1) := by decide +kernel
theorem dX12_adds_0 : decode cX12_adds 0 = .ok (.bipush 8, 2) := by decide +kernel
theorem dX12_adds_2 : decode cX12_adds 2 = .ok (.bipush 6, 2) := by decide +kernel
theorem dX12_adds_4 : decode cX12_adds 4 = .ok (.aload_n 0, 1) := by decide +kernel
theorem dX12_adds_5 : decode cX12_adds 5 = .ok (.getfield 34, 3) := by decide +kernel
theorem dX12_adds_8 : decode cX12_adds 8 = .ok (.iconst 2, 1) := by decide +kernel
theorem dX12_adds_9 : decode cX12_adds 9 = .ok (.iaload, 1) := by decide +kernel
theorem dX12_adds_10 : decode cX12_adds 10 = .ok (.imul, 1) := by decide +kernel
theorem dX12_adds_11 : decode cX12_adds 11 = .ok (.iadd, 1) := by decide +kernel
theorem dX12_adds_12 : decode cX12_adds 12 = .ok (.istore 7, 2) := by decide +kernel
theorem dX12_adds_14 : decode cX12_adds 14 = .ok (.aload_n 0, 1) := by decide +kernel
theorem dX12_adds_15 : decode cX12_adds 15 = .ok (.getfield 34, 3) := by decide +kernel
theorem dX12_adds_18 : decode cX12_adds 18 = .ok (.iload 7, 2) := by decide +kernel
theorem dX12_adds_20 : decode cX12_adds 20 = .ok (.iload_n 1, 1) := by decide +kernel
theorem dX12_adds_21 : decode cX12_adds 21 = .ok (.iastore, 1) := by decide +kernel
theorem dX12_adds_22 : decode cX12_adds 22 = .ok (.aload_n 0, 1) := by decide +kernel
theorem dX12_adds_23 : decode cX12_adds 23 = .ok (.getfield 34, 3) := by decide +kernel
theorem dX12_adds_26 : decode cX12_adds 26 = .ok (.iload 7, 2) := by decide +kernel
theorem dX12_adds_28 : decode cX12_adds 28 = .ok (.iconst 1, 1) := by decide +kernel
theorem dX12_adds_29 : decode cX12_adds 29 = .ok (.iadd, 1) := by decide +kernel
theorem dX12_adds_30 : decode cX12_adds 30 = .ok (.iload_n 2, 1) := by decide +kernel
theorem dX12_adds_31 : decode cX12_adds 31 = .ok (.iastore, 1) := by decide +kernel
theorem dX12_adds_32 : decode cX12_adds 32 = .ok (.aload_n 0, 1) := by decide +kernel
theorem dX12_adds_33 : decode cX12_adds 33 = .ok (.getfield 34, 3) := by decide +kernel
theorem dX12_adds_36 : decode cX12_adds 36 = .ok (.iload 7, 2) := by decide +kernel
theorem dX12_adds_38 : decode cX12_adds 38 = .ok (.iconst 2, 1) := by decide +kernel
theorem dX12_adds_39 : decode cX12_adds 39 = .ok (.iadd, 1) := by decide +kernel
theorem dX12_adds_40 : decode cX12_adds 40 = .ok (.iload_n 3, 1) := by decide +kernel
theorem dX12_adds_41 : decode cX12_adds 41 = .ok (.iastore, 1) := by decide +kernel
theorem dX12_adds_42 : decode cX12_adds 42 = .ok (.aload_n 0, 1) := by decide +kernel
theorem dX12_adds_43 : decode cX12_adds 43 = .ok (.getfield 34, 3) := by decide +kernel
theorem dX12_adds_46 : decode cX12_adds 46 = .ok (.iload 7, 2) := by decide +kernel
theorem dX12_adds_48 : decode cX12_adds 48 = .ok (.iconst 3, 1) := by decide +kernel
theorem dX12_adds_49 : decode cX12_adds 49 = .ok (.iadd, 1) := by decide +kernel
theorem dX12_adds_50 : decode cX12_adds 50 = .ok (.iload 4, 2) := by decide +kernel
theorem dX12_adds_52 : decode cX12_adds 52 = .ok (.iastore, 1) := by decide +kernel
theorem dX12_adds_53 : decode cX12_adds 53 = .ok (.aload_n 0, 1) := by decide +kernel
theorem dX12_adds_54 : decode cX12_adds 54 = .ok (.getfield 34, 3) := by decide +kernel
theorem dX12_adds_57 : decode cX12_adds 57 = .ok (.iload 7, 2) := by decide +kernel
theorem dX12_adds_59 : decode cX12_adds 59 = .ok (.iconst 4, 1) := by decide +kernel
theorem dX12_adds_60 : decode cX12_adds 60 = .ok (.iadd, 1) := by decide +kernel
theorem dX12_adds_71 : decode cX12_adds 71 = .ok (.iastore, 1) := by decide +kernel
theorem dX12_adds_72 : decode cX12_adds 72 = .ok (.aload_n 0, 1) := by decide +kernel
theorem dX12_adds_73 : decode cX12_adds 73 = .ok (.getfield 34, 3) := by decide +kernel
theorem dX12_adds_76 : decode cX12_adds 76 = .ok (.iload 7, 2) := by decide +kernel
theorem dX12_adds_78 : decode cX12_adds 78 = .ok (.iconst 5, 1) := by decide +kernel
theorem dX12_adds_79 : decode cX12_adds 79 = .ok (.iadd, 1) := by decide +kernel
theorem dX12_adds_90 : decode cX12_adds 90 = .ok (.iastore, 1) := by decide +kernel
theorem dX12_adds_91 : decode cX12_adds 91 = .ok (.aload_n 0, 1) := by decide +kernel
theorem dX12_adds_92 : decode cX12_adds 92 = .ok (.getfield 34, 3) := by decide +kernel
theorem dX12_adds_95 : decode cX12_adds 95 = .ok (.iconst 2, 1) := by decide +kernel
theorem dX12_adds_96 : decode cX12_adds 96 = .ok (.dup2, 1) := by decide +kernel
theorem dX12_adds_97 : decode cX12_adds 97 = .ok (.iaload, 1) := by decide +kernel
theorem dX12_adds_98 : decode cX12_adds 98 = .ok (.iconst 1, 1) := by decide +kernel
theorem dX12_adds_99 : decode cX12_adds 99 = .ok (.iadd, 1) := by decide +kernel
theorem dX12_adds_100 : decode cX12_adds 100 = .ok (.iastore, 1) := by decide +kernel
theorem dX12_adds_101 : decode cX12_adds 101 = .ok (.return_, 1) := by decide +kernel
theorem dX12_adds_80 : decode cX12_adds 80 = .ok (.iload 6, 2) := by decide +kernel
theorem dX12_adds_82 : decode cX12_adds 82 = .ok (.ifCond .eq 7, 3) := by decide +kernel
theorem dX12_adds_89 : decode cX12_adds 89 = .ok (.iconst 0, 1) := by decide +kernel
theorem dX12_adds_85 : decode cX12_adds 85 = .ok (.iconst 1, 1) := by decide +kernel
theorem dX12_adds_86 : decode cX12_adds 86 = .ok (.goto 4, 3) := by decide +kernel
theorem dX12_adds_61 : decode cX12_adds 61 = .ok (.iload 5, 2) := by decide +kernel
theorem dX12_adds_63 : decode cX12_adds 63 = .ok (.ifCond .eq 7, 3) := by decide +kernel
theorem dX12_adds_70 : decode cX12_adds 70 = .ok (.iconst 0, 1) := by decide +kernel
theorem dX12_adds_66 : decode cX12_adds 66 = .ok (.iconst 1, 1) := by decide +kernel
theorem dX12_adds_67 : decode cX12_adds 67 = .ok (.goto 4, 3) := by decide +kernel
theorem dX12_readAlley_0 : decode cX12_readAlley 0 = .ok (.aload_n 0, 1) := by decide +kernel
theorem dX12_readAlley_1 : decode cX12_readAlley 1 = .ok (.iconst 0, 1) := by decide +kernel
theorem dX12_readAlley_2 : decode cX12_readAlley 2 = .ok (.aload_n 0, 1) := by decide +kernel
theorem dX12_readAlley_3 : decode cX12_readAlley 3 = .ok (.getfield 34, 3) := by decide +kernel
theorem dX12_readAlley_6 : decode cX12_readAlley 6 = .ok (.iconst 1, 1) := by decide +kernel
theorem dX12_readAlley_7 : decode cX12_readAlley 7 = .ok (.iaload, 1) := by decide +kernel
theorem dX12_readAlley_8 : decode cX12_readAlley 8 = .ok (.iconst 1, 1) := by decide +kernel
theorem dX12_readAlley_9 : decode cX12_readAlley 9 = .ok (.isub, 1) := by decide +kernel
theorem dX12_readAlley_10 : decode cX12_readAlley 10 = .ok (.invokevirtual 183, 3) := by decide +kernel
theorem dX12_readAlley_13 : decode cX12_readAlley 13 = .ok (.istore_n 1, 1) := by decide +kernel
theorem dX12_readAlley_14 : decode cX12_readAlley 14 = .ok (.aload_n 0, 1) := by decide +kernel
theorem dX12_readAlley_15 : decode cX12_readAlley 15 = .ok (.iload_n 1, 1) := by decide +kernel
theorem dX12_readAlley_16 : decode cX12_readAlley 16 = .ok (.invokevirtual 197, 3) := by decide +kernel
theorem dX12_readAlley_19 : decode cX12_readAlley 19 = .ok (.istore_n 2, 1) := by decide +kernel
theorem dX12_readAlley_20 : decode cX12_readAlley 20 = .ok (.aload_n 0, 1) := by decide +kernel
theorem dX12_readAlley_21 : decode cX12_readAlley 21 = .ok (.ldc 192, 2) := by decide +kernel
theorem dX12_readAlley_23 : decode cX12_readAlley 23 = .ok (.iconst 1, 1) := by decide +kernel
theorem dX12_readAlley_24 : decode cX12_readAlley 24 = .ok (.bipush 60, 2) := by decide +kernel
theorem dX12_readAlley_26 : decode cX12_readAlley 26 = .ok (.invokevirtual 188, 3) := by decide +kernel
theorem dX12_readAlley_29 : decode cX12_readAlley 29 = .ok (.istore_n 3, 1) := by decide +kernel
theorem dX12_readAlley_51 : decode cX12_readAlley 51 = .ok (.istore 4, 2) := by decide +kernel
theorem dX12_readAlley_53 : decode cX12_readAlley 53 = .ok (.aload_n 0, 1) := by decide +kernel
theorem dX12_readAlley_54 : decode cX12_readAlley 54 = .ok (.ldc 202, 2) := by decide +kernel
theorem dX12_readAlley_56 : decode cX12_readAlley 56 = .ok (.invokevirtual 172, 3) := by decide +kernel
theorem dX12_readAlley_59 : decode cX12_readAlley 59 = .ok (.istore 5, 2) := by decide +kernel
theorem dX12_readAlley_61 : decode cX12_readAlley 61 = .ok (.aload_n 0, 1) := by decide +kernel
theorem dX12_readAlley_62 : decode cX12_readAlley 62 = .ok (.ldc 203, 2) := by decide +kernel
theorem dX12_readAlley_64 : decode cX12_readAlley 64 = .ok (.invokevirtual 172, 3) := by decide +kernel
theorem dX12_readAlley_67 : decode cX12_readAlley 67 = .ok (.istore 6, 2) := by decide +kernel
theorem dX12_readAlley_69 : decode cX12_readAlley 69 = .ok (.aload_n 0, 1) := by decide +kernel
theorem dX12_readAlley_70 : decode cX12_readAlley 70 = .ok (.invokevirtual 152, 3) := by decide +kernel
theorem dX12_readAlley_73 : decode cX12_readAlley 73 = .ok (.ifCond .eq 16, 3) := by decide +kernel
theorem dX12_readAlley_89 : decode cX12_readAlley 89 = .ok (.return_, 1) := by decide +kernel
theorem dX12_readAlley_76 : decode cX12_readAlley 76 = .ok (.aload_n 0, 1) := by decide +kernel
theorem dX12_readAlley_77 : decode cX12_readAlley 77 = .ok (.iload_n 1, 1) := by decide +kernel
theorem dX12_readAlley_78 : decode cX12_readAlley 78 = .ok (.iload_n 2, 1) := by decide +kernel
theorem dX12_readAlley_79 : decode cX12_readAlley 79 = .ok (.iload_n 3, 1) := by decide +kernel
theorem dX12_readAlley_80 : decode cX12_readAlley 80 = .ok (.iload 4, 2) := by decide +kernel
theorem dX12_readAlley_82 : decode cX12_readAlley 82 = .ok (.iload 5, 2) := by decide +kernel
theorem dX12_readAlley_84 : decode cX12_readAlley 84 = .ok (.iload 6, 2) := by decide +kernel
theorem dX12_readAlley_86 : decode cX12_readAlley 86 = .ok (.invokevirtual 193, 3) := by decide +kernel
theorem dX12_readAlley_30 : decode cX12_readAlley 30 = .ok (.aload_n 0, 1) := by decide +kernel
theorem dX12_readAlley_31 : decode cX12_readAlley 31 = .ok (.ldc 200, 2) := by decide +kernel
theorem dX12_readAlley_33 : decode cX12_readAlley 33 = .ok (.invokevirtual 172, 3) := by decide +kernel
theorem dX12_readAlley_36 : decode cX12_readAlley 36 = .ok (.ifCond .eq 14, 3) := by decide +kernel
theorem dX12_readAlley_50 : decode cX12_readAlley 50 = .ok (.iconst (-1), 1) := by decide +kernel
theorem dX12_readAlley_39 : decode cX12_readAlley 39 = .ok (.aload_n 0, 1) := by decide +kernel
theorem dX12_readAlley_40 : decode cX12_readAlley 40 = .ok (.iconst 0, 1) := by decide +kernel
theorem dX12_readAlley_41 : decode cX12_readAlley 41 = .ok (.sipush 999, 3) := by decide +kernel
theorem dX12_readAlley_44 : decode cX12_readAlley 44 = .ok (.invokevirtual 183, 3) := by decide +kernel
theorem dX12_readAlley_47 : decode cX12_readAlley 47 = .ok (.goto 4, 3) := by decide +kernel
theorem dX12_readGrid_0 : decode cX12_readGrid 0 = .ok (.aload_n 0, 1) := by decide +kernel
theorem dX12_readGrid_1 : decode cX12_readGrid 1 = .ok (.iconst 2, 1) := by decide +kernel
theorem dX12_readGrid_2 : decode cX12_readGrid 2 = .ok (.iconst 4, 1) := by decide +kernel
theorem dX12_readGrid_3 : decode cX12_readGrid 3 = .ok (.invokevirtual 183, 3) := by decide +kernel
theorem dX12_readGrid_6 : decode cX12_readGrid 6 = .ok (.istore_n 1, 1) := by decide +kernel
theorem dX12_readGrid_7 : decode cX12_readGrid 7 = .ok (.aload_n 0, 1) := by decide +kernel
theorem dX12_readGrid_8 : decode cX12_readGrid 8 = .ok (.ldc 186, 2) := by decide +kernel
theorem dX12_readGrid_10 : decode cX12_readGrid 10 = .ok (.iconst 2, 1) := by decide +kernel
theorem dX12_readGrid_11 : decode cX12_readGrid 11 = .ok (.iconst 4, 1) := by decide +kernel
theorem dX12_readGrid_12 : decode cX12_readGrid 12 = .ok (.invokevirtual 188, 3) := by decide +kernel
theorem dX12_readGrid_15 : decode cX12_readGrid 15 = .ok (.istore_n 2, 1) := by decide +kernel
theorem dX12_readGrid_16 : decode cX12_readGrid 16 = .ok (.aload_n 0, 1) := by decide +kernel
theorem dX12_readGrid_17 : decode cX12_readGrid 17 = .ok (.ldc 192, 2) := by decide +kernel
theorem dX12_readGrid_19 : decode cX12_readGrid 19 = .ok (.iconst 1, 1) := by decide +kernel
theorem dX12_readGrid_20 : decode cX12_readGrid 20 = .ok (.bipush 60, 2) := by decide +kernel
theorem dX12_readGrid_22 : decode cX12_readGrid 22 = .ok (.invokevirtual 188, 3) := by decide +kernel
theorem dX12_readGrid_25 : decode cX12_readGrid 25 = .ok (.istore_n 3, 1) := by decide +kernel
theorem dX12_readGrid_26 : decode cX12_readGrid 26 = .ok (.aload_n 0, 1) := by decide +kernel
theorem dX12_readGrid_27 : decode cX12_readGrid 27 = .ok (.invokevirtual 152, 3) := by decide +kernel
theorem dX12_readGrid_30 : decode cX12_readGrid 30 = .ok (.ifCond .ne 4, 3) := by decide +kernel
theorem dX12_readGrid_33 : decode cX12_readGrid 33 = .ok (.return_, 1) := by decide +kernel
theorem dX12_readGrid_34 : decode cX12_readGrid 34 = .ok (.aload_n 0, 1) := by decide +kernel
theorem dX12_readGrid_35 : decode cX12_readGrid 35 = .ok (.getfield 34, 3) := by decide +kernel
theorem dX12_readGrid_38 : decode cX12_readGrid 38 = .ok (.bipush 6, 2) := by decide +kernel
theorem dX12_readGrid_40 : decode cX12_readGrid 40 = .ok (.iload_n 1, 1) := by decide +kernel
theorem dX12_readGrid_41 : decode cX12_readGrid 41 = .ok (.iastore, 1) := by decide +kernel
theorem dX12_readGrid_42 : decode cX12_readGrid 42 = .ok (.aload_n 0, 1) := by decide +kernel
theorem dX12_readGrid_43 : decode cX12_readGrid 43 = .ok (.getfield 34, 3) := by decide +kernel
theorem dX12_readGrid_46 : decode cX12_readGrid 46 = .ok (.bipush 7, 2) := by decide +kernel
theorem dX12_readGrid_48 : decode cX12_readGrid 48 = .ok (.iload_n 2, 1) := by decide +kernel
theorem dX12_readGrid_49 : decode cX12_readGrid 49 = .ok (.iastore, 1) := by decide +kernel
theorem dX12_readGrid_50 : decode cX12_readGrid 50 = .ok (.aload_n 0, 1) := by decide +kernel
theorem dX12_readGrid_51 : decode cX12_readGrid 51 = .ok (.getfield 34, 3) := by decide +kernel
theorem dX12_readGrid_54 : decode cX12_readGrid 54 = .ok (.iconst 1, 1) := by decide +kernel
theorem dX12_readGrid_55 : decode cX12_readGrid 55 = .ok (.iload_n 1, 1) := by decide +kernel
theorem dX12_readGrid_56 : decode cX12_readGrid 56 = .ok (.iload_n 2, 1) := by decide +kernel
theorem dX12_readGrid_57 : decode cX12_readGrid 57 = .ok (.imul, 1) := by decide +kernel
theorem dX12_readGrid_58 : decode cX12_readGrid 58 = .ok (.iastore, 1) := by decide +kernel
theorem dX12_readGrid_59 : decode cX12_readGrid 59 = .ok (.iconst 0, 1) := by decide +kernel
theorem dX12_readGrid_60 : decode cX12_readGrid 60 = .ok (.istore 4, 2) := by decide +kernel
theorem dX12_readGrid_62 : decode cX12_readGrid 62 = .ok (.iload 4, 2) := by decide +kernel
theorem dX12_readGrid_64 : decode cX12_readGrid 64 = .ok (.iload_n 2, 1) := by decide +kernel
theorem dX12_readGrid_65 : decode cX12_readGrid 65 = .ok (.if_icmp .ge 50, 3) := by decide +kernel
theorem dX12_readGrid_68 : decode cX12_readGrid 68 = .ok (.iconst 0, 1) := by decide +kernel
theorem dX12_readGrid_69 : decode cX12_readGrid 69 = .ok (.istore 5, 2) := by decide +kernel
theorem dX12_readGrid_71 : decode cX12_readGrid 71 = .ok (.iload 5, 2) := by decide +kernel
theorem dX12_readGrid_73 : decode cX12_readGrid 73 = .ok (.iconst 1, 1) := by decide +kernel
theorem dX12_readGrid_74 : decode cX12_readGrid 74 = .ok (.iadd, 1) := by decide +kernel
theorem dX12_readGrid_75 : decode cX12_readGrid 75 = .ok (.iload_n 1, 1) := by decide +kernel
theorem dX12_readGrid_76 : decode cX12_readGrid 76 = .ok (.if_icmp .ge 33, 3) := by decide +kernel
theorem dX12_readGrid_79 : decode cX12_readGrid 79 = .ok (.aload_n 0, 1) := by decide +kernel
theorem dX12_readGrid_80 : decode cX12_readGrid 80 = .ok (.iload_n 1, 1) := by decide +kernel
theorem dX12_readGrid_81 : decode cX12_readGrid 81 = .ok (.iload 4, 2) := by decide +kernel
theorem dX12_readGrid_83 : decode cX12_readGrid 83 = .ok (.imul, 1) := by decide +kernel
theorem dX12_readGrid_84 : decode cX12_readGrid 84 = .ok (.iload 5, 2) := by decide +kernel
theorem dX12_readGrid_86 : decode cX12_readGrid 86 = .ok (.iadd, 1) := by decide +kernel
theorem dX12_readGrid_87 : decode cX12_readGrid 87 = .ok (.iload_n 1, 1) := by decide +kernel
theorem dX12_readGrid_88 : decode cX12_readGrid 88 = .ok (.iload 4, 2) := by decide +kernel
theorem dX12_readGrid_90 : decode cX12_readGrid 90 = .ok (.imul, 1) := by decide +kernel
theorem dX12_readGrid_91 : decode cX12_readGrid 91 = .ok (.iload 5, 2) := by decide +kernel
theorem dX12_readGrid_93 : decode cX12_readGrid 93 = .ok (.iadd, 1) := by decide +kernel
theorem dX12_readGrid_94 : decode cX12_readGrid 94 = .ok (.iconst 1, 1) := by decide +kernel
theorem dX12_readGrid_95 : decode cX12_readGrid 95 = .ok (.iadd, 1) := by decide +kernel
theorem dX12_readGrid_96 : decode cX12_readGrid 96 = .ok (.iload_n 3, 1) := by decide +kernel
theorem dX12_readGrid_97 : decode cX12_readGrid 97 = .ok (.iconst (-1), 1) := by decide +kernel
theorem dX12_readGrid_98 : decode cX12_readGrid 98 = .ok (.iconst 0, 1) := by decide +kernel
theorem dX12_readGrid_99 : decode cX12_readGrid 99 = .ok (.iconst 0, 1) := by decide +kernel
theorem dX12_readGrid_100 : decode cX12_readGrid 100 = .ok (.invokevirtual 193, 3) := by decide +kernel
theorem dX12_readGrid_103 : decode cX12_readGrid 103 = .ok (.iinc 5 1, 3) := by decide +kernel
theorem dX12_readGrid_106 : decode cX12_readGrid 106 = .ok (.goto (-35), 3) := by decide +kernel
theorem dX12_readGrid_109 : decode cX12_readGrid 109 = .ok (.iinc 4 1, 3) := by decide +kernel
theorem dX12_readGrid_112 : decode cX12_readGrid 112 = .ok (.goto (-50), 3) := by decide +kernel
theorem dX12_readGrid_115 : decode cX12_readGrid 115 = .ok (.iconst 0, 1) := by decide +kernel
theorem dX12_readGrid_116 : decode cX12_readGrid 116 = .ok (.istore 4, 2) := by decide +kernel
theorem dX12_readGrid_118 : decode cX12_readGrid 118 = .ok (.iload 4, 2) := by decide +kernel
theorem dX12_readGrid_120 : decode cX12_readGrid 120 = .ok (.iload_n 1, 1) := by decide +kernel
theorem dX12_readGrid_121 : decode cX12_readGrid 121 = .ok (.if_icmp .ge 50, 3) := by decide +kernel
theorem dX12_readGrid_124 : decode cX12_readGrid 124 = .ok (.iconst 0, 1) := by decide +kernel
theorem dX12_readGrid_125 : decode cX12_readGrid 125 = .ok (.istore 5, 2) := by decide +kernel
theorem dX12_readGrid_127 : decode cX12_readGrid 127 = .ok (.iload 5, 2) := by decide +kernel
theorem dX12_readGrid_129 : decode cX12_readGrid 129 = .ok (.iconst 1, 1) := by decide +kernel
theorem dX12_readGrid_130 : decode cX12_readGrid 130 = .ok (.iadd, 1) := by decide +kernel
theorem dX12_readGrid_131 : decode cX12_readGrid 131 = .ok (.iload_n 2, 1) := by decide +kernel
theorem dX12_readGrid_132 : decode cX12_readGrid 132 = .ok (.if_icmp .ge 33, 3) := by decide +kernel
theorem dX12_readGrid_135 : decode cX12_readGrid 135 = .ok (.aload_n 0, 1) := by decide +kernel
theorem dX12_readGrid_136 : decode cX12_readGrid 136 = .ok (.iload_n 1, 1) := by decide +kernel
theorem dX12_readGrid_137 : decode cX12_readGrid 137 = .ok (.iload 5, 2) := by decide +kernel
theorem dX12_readGrid_139 : decode cX12_readGrid 139 = .ok (.imul, 1) := by decide +kernel
theorem dX12_readGrid_140 : decode cX12_readGrid 140 = .ok (.iload 4, 2) := by decide +kernel
theorem dX12_readGrid_142 : decode cX12_readGrid 142 = .ok (.iadd, 1) := by decide +kernel
theorem dX12_readGrid_143 : decode cX12_readGrid 143 = .ok (.iload_n 1, 1) := by decide +kernel
theorem dX12_readGrid_144 : decode cX12_readGrid 144 = .ok (.iload 5, 2) := by decide +kernel
theorem dX12_readGrid_146 : decode cX12_readGrid 146 = .ok (.imul, 1) := by decide +kernel
theorem dX12_readGrid_147 : decode cX12_readGrid 147 = .ok (.iload_n 1, 1) := by decide +kernel
theorem dX12_readGrid_148 : decode cX12_readGrid 148 = .ok (.iadd, 1) := by decide +kernel
theorem dX12_readGrid_149 : decode cX12_readGrid 149 = .ok (.iload 4, 2) := by decide +kernel
theorem dX12_readGrid_151 : decode cX12_readGrid 151 = .ok (.iadd, 1) := by decide +kernel
theorem dX12_readGrid_152 : decode cX12_readGrid 152 = .ok (.iload_n 3, 1) := by decide +kernel
theorem dX12_readGrid_153 : decode cX12_readGrid 153 = .ok (.iconst (-1), 1) := by decide +kernel
theorem dX12_readGrid_154 : decode cX12_readGrid 154 = .ok (.iconst 0, 1) := by decide +kernel
theorem dX12_readGrid_155 : decode cX12_readGrid 155 = .ok (.iconst 0, 1) := by decide +kernel
theorem dX12_readGrid_156 : decode cX12_readGrid 156 = .ok (.invokevirtual 193, 3) := by decide +kernel
theorem dX12_readGrid_159 : decode cX12_readGrid 159 = .ok (.iinc 5 1, 3) := by decide +kernel
theorem dX12_readGrid_162 : decode cX12_readGrid 162 = .ok (.goto (-35), 3) := by decide +kernel
theorem dX12_readGrid_165 : decode cX12_readGrid 165 = .ok (.iinc 4 1, 3) := by decide +kernel
theorem dX12_readGrid_168 : decode cX12_readGrid 168 = .ok (.goto (-50), 3) := by decide +kernel
theorem dX12_readGrid_171 : decode cX12_readGrid 171 = .ok (.return_, 1) := by decide +kernel
theorem dX12_readLine_14 : decode cX12_readLine 14 = .ok (.istore_n 1, 1) := by decide +kernel
theorem dX12_readLine_78 : decode cX12_readLine 78 = .ok (.istore_n 2, 1) := by decide +kernel
theorem dX12_readLine_163 : decode cX12_readLine 163 = .ok (.istore_n 3, 1) := by decide +kernel
theorem dX12_readLine_185 : decode cX12_readLine 185 = .ok (.aload_n 0, 1) := by decide +kernel
theorem dX12_readLine_186 : decode cX12_readLine 186 = .ok (.invokevirtual 152, 3) := by decide +kernel
theorem dX12_readLine_189 : decode cX12_readLine 189 = .ok (.ifCond .ne 4, 3) := by decide +kernel
theorem dX12_readLine_192 : decode cX12_readLine 192 = .ok (.return_, 1) := by decide +kernel
theorem dX12_readLine_193 : decode cX12_readLine 193 = .ok (.aload_n 0, 1) := by decide +kernel
theorem dX12_readLine_194 : decode cX12_readLine 194 = .ok (.getfield 34, 3) := by decide +kernel
theorem dX12_readLine_197 : decode cX12_readLine 197 = .ok (.iconst 0, 1) := by decide +kernel
theorem dX12_readLine_198 : decode cX12_readLine 198 = .ok (.dup2, 1) := by decide +kernel
theorem dX12_readLine_199 : decode cX12_readLine 199 = .ok (.iaload, 1) := by decide +kernel
theorem dX12_readLine_200 : decode cX12_readLine 200 = .ok (.iconst 1, 1) := by decide +kernel
theorem dX12_readLine_201 : decode cX12_readLine 201 = .ok (.iadd, 1) := by decide +kernel
theorem dX12_readLine_202 : decode cX12_readLine 202 = .ok (.iastore, 1) := by decide +kernel
theorem dX12_readLine_393 : decode cX12_readLine 393 = .ok (.aload_n 0, 1) := by decide +kernel
theorem dX12_readLine_394 : decode cX12_readLine 394 = .ok (.getfield 128, 3) := by decide +kernel
theorem dX12_readLine_397 : decode cX12_readLine 397 = .ok (.iconst 3, 1) := by decide +kernel
theorem dX12_readLine_398 : decode cX12_readLine 398 = .ok (.if_icmp .eq 8, 3) := by decide +kernel
theorem dX12_readLine_406 : decode cX12_readLine 406 = .ok (.aload_n 0, 1) := by decide +kernel
theorem dX12_readLine_407 : decode cX12_readLine 407 = .ok (.invokevirtual 152, 3) := by decide +kernel
theorem dX12_readLine_410 : decode cX12_readLine 410 = .ok (.ifCond .eq 7, 3) := by decide +kernel
theorem dX12_readLine_417 : decode cX12_readLine 417 = .ok (.return_, 1) := by decide +kernel
theorem dX12_readLine_413 : decode cX12_readLine 413 = .ok (.aload_n 0, 1) := by decide +kernel
theorem dX12_readLine_414 : decode cX12_readLine 414 = .ok (.invokevirtual 169, 3) := by decide +kernel
theorem dX12_readLine_401 : decode cX12_readLine 401 = .ok (.aload_n 0, 1) := by decide +kernel
theorem dX12_readLine_402 : decode cX12_readLine 402 = .ok (.iconst 1, 1) := by decide +kernel
theorem dX12_readLine_403 : decode cX12_readLine 403 = .ok (.invokevirtual 175, 3) := by decide +kernel
theorem dX12_readLine_203 : decode cX12_readLine 203 = .ok (.aload_n 0, 1) := by decide +kernel
theorem dX12_readLine_204 : decode cX12_readLine 204 = .ok (.ldc 213, 2) := by decide +kernel
theorem dX12_readLine_206 : decode cX12_readLine 206 = .ok (.invokevirtual 172, 3) := by decide +kernel
theorem dX12_readLine_209 : decode cX12_readLine 209 = .ok (.ifCond .eq 19, 3) := by decide +kernel
theorem dX12_readLine_228 : decode cX12_readLine 228 = .ok (.aload_n 0, 1) := by decide +kernel
theorem dX12_readLine_229 : decode cX12_readLine 229 = .ok (.ldc 214, 2) := by decide +kernel
theorem dX12_readLine_231 : decode cX12_readLine 231 = .ok (.invokevirtual 172, 3) := by decide +kernel
theorem dX12_readLine_234 : decode cX12_readLine 234 = .ok (.ifCond .eq 10, 3) := by decide +kernel
theorem dX12_readLine_244 : decode cX12_readLine 244 = .ok (.aload_n 0, 1) := by decide +kernel
theorem dX12_readLine_245 : decode cX12_readLine 245 = .ok (.ldc 205, 2) := by decide +kernel
theorem dX12_readLine_247 : decode cX12_readLine 247 = .ok (.invokevirtual 172, 3) := by decide +kernel
theorem dX12_readLine_250 : decode cX12_readLine 250 = .ok (.ifCond .eq 10, 3) := by decide +kernel
theorem dX12_readLine_260 : decode cX12_readLine 260 = .ok (.aload_n 0, 1) := by decide +kernel
theorem dX12_readLine_261 : decode cX12_readLine 261 = .ok (.ldc 207, 2) := by decide +kernel
theorem dX12_readLine_263 : decode cX12_readLine 263 = .ok (.invokevirtual 172, 3) := by decide +kernel
theorem dX12_readLine_266 : decode cX12_readLine 266 = .ok (.ifCond .eq 10, 3) := by decide +kernel
theorem dX12_readLine_276 : decode cX12_readLine 276 = .ok (.aload_n 0, 1) := by decide +kernel
theorem dX12_readLine_277 : decode cX12_readLine 277 = .ok (.ldc 209, 2) := by decide +kernel
theorem dX12_readLine_279 : decode cX12_readLine 279 = .ok (.invokevirtual 172, 3) := by decide +kernel
theorem dX12_readLine_282 : decode cX12_readLine 282 = .ok (.ifCond .eq 88, 3) := by decide +kernel
theorem dX12_readLine_370 : decode cX12_readLine 370 = .ok (.aload_n 0, 1) := by decide +kernel
theorem dX12_readLine_371 : decode cX12_readLine 371 = .ok (.invokevirtual 169, 3) := by decide +kernel
theorem dX12_readLine_374 : decode cX12_readLine 374 = .ok (.aload_n 0, 1) := by decide +kernel
theorem dX12_readLine_375 : decode cX12_readLine 375 = .ok (.getfield 34, 3) := by decide +kernel
theorem dX12_readLine_378 : decode cX12_readLine 378 = .ok (.iconst 4, 1) := by decide +kernel
theorem dX12_readLine_379 : decode cX12_readLine 379 = .ok (.aload_n 0, 1) := by decide +kernel
theorem dX12_readLine_380 : decode cX12_readLine 380 = .ok (.iconst 0, 1) := by decide +kernel
theorem dX12_readLine_381 : decode cX12_readLine 381 = .ok (.aload_n 0, 1) := by decide +kernel
theorem dX12_readLine_382 : decode cX12_readLine 382 = .ok (.getfield 34, 3) := by decide +kernel
theorem dX12_readLine_385 : decode cX12_readLine 385 = .ok (.iconst 1, 1) := by decide +kernel
theorem dX12_readLine_386 : decode cX12_readLine 386 = .ok (.iaload, 1) := by decide +kernel
theorem dX12_readLine_387 : decode cX12_readLine 387 = .ok (.iconst 1, 1) := by decide +kernel
theorem dX12_readLine_388 : decode cX12_readLine 388 = .ok (.isub, 1) := by decide +kernel
theorem dX12_readLine_389 : decode cX12_readLine 389 = .ok (.invokevirtual 183, 3) := by decide +kernel
theorem dX12_readLine_392 : decode cX12_readLine 392 = .ok (.iastore, 1) := by decide +kernel
theorem dX12_readLine_285 : decode cX12_readLine 285 = .ok (.sipush 176, 3) := by decide +kernel
theorem dX12_readLine_288 : decode cX12_readLine 288 = .ok (.iconst 3, 1) := by decide +kernel
theorem dX12_readLine_289 : decode cX12_readLine 289 = .ok (.aload_n 0, 1) := by decide +kernel
theorem dX12_readLine_290 : decode cX12_readLine 290 = .ok (.getfield 34, 3) := by decide +kernel
theorem dX12_readLine_293 : decode cX12_readLine 293 = .ok (.iconst 3, 1) := by decide +kernel
theorem dX12_readLine_294 : decode cX12_readLine 294 = .ok (.iaload, 1) := by decide +kernel
theorem dX12_readLine_295 : decode cX12_readLine 295 = .ok (.imul, 1) := by decide +kernel
theorem dX12_readLine_296 : decode cX12_readLine 296 = .ok (.iadd, 1) := by decide +kernel
theorem dX12_readLine_297 : decode cX12_readLine 297 = .ok (.istore 4, 2) := by decide +kernel
theorem dX12_readLine_299 : decode cX12_readLine 299 = .ok (.aload_n 0, 1) := by decide +kernel
theorem dX12_readLine_300 : decode cX12_readLine 300 = .ok (.getfield 34, 3) := by decide +kernel
theorem dX12_readLine_303 : decode cX12_readLine 303 = .ok (.iload 4, 2) := by decide +kernel
theorem dX12_readLine_305 : decode cX12_readLine 305 = .ok (.aload_n 0, 1) := by decide +kernel
theorem dX12_readLine_306 : decode cX12_readLine 306 = .ok (.iconst 0, 1) := by decide +kernel
theorem dX12_readLine_307 : decode cX12_readLine 307 = .ok (.aload_n 0, 1) := by decide +kernel
theorem dX12_readLine_308 : decode cX12_readLine 308 = .ok (.getfield 34, 3) := by decide +kernel
theorem dX12_readLine_311 : decode cX12_readLine 311 = .ok (.iconst 1, 1) := by decide +kernel
theorem dX12_readLine_312 : decode cX12_readLine 312 = .ok (.iaload, 1) := by decide +kernel
theorem dX12_readLine_313 : decode cX12_readLine 313 = .ok (.iconst 1, 1) := by decide +kernel
theorem dX12_readLine_314 : decode cX12_readLine 314 = .ok (.isub, 1) := by decide +kernel
theorem dX12_readLine_315 : decode cX12_readLine 315 = .ok (.invokevirtual 183, 3) := by decide +kernel
theorem dX12_readLine_318 : decode cX12_readLine 318 = .ok (.iastore, 1) := by decide +kernel
theorem dX12_readLine_319 : decode cX12_readLine 319 = .ok (.aload_n 0, 1) := by decide +kernel
theorem dX12_readLine_320 : decode cX12_readLine 320 = .ok (.getfield 34, 3) := by decide +kernel
theorem dX12_readLine_323 : decode cX12_readLine 323 = .ok (.iload 4, 2) := by decide +kernel
theorem dX12_readLine_325 : decode cX12_readLine 325 = .ok (.iconst 1, 1) := by decide +kernel
theorem dX12_readLine_326 : decode cX12_readLine 326 = .ok (.iadd, 1) := by decide +kernel
theorem dX12_readLine_327 : decode cX12_readLine 327 = .ok (.aload_n 0, 1) := by decide +kernel
theorem dX12_readLine_328 : decode cX12_readLine 328 = .ok (.aload_n 0, 1) := by decide +kernel
theorem dX12_readLine_329 : decode cX12_readLine 329 = .ok (.getfield 34, 3) := by decide +kernel
theorem dX12_readLine_332 : decode cX12_readLine 332 = .ok (.iload 4, 2) := by decide +kernel
theorem dX12_readLine_334 : decode cX12_readLine 334 = .ok (.iaload, 1) := by decide +kernel
theorem dX12_readLine_335 : decode cX12_readLine 335 = .ok (.invokevirtual 197, 3) := by decide +kernel
theorem dX12_readLine_338 : decode cX12_readLine 338 = .ok (.iastore, 1) := by decide +kernel
theorem dX12_readLine_339 : decode cX12_readLine 339 = .ok (.aload_n 0, 1) := by decide +kernel
theorem dX12_readLine_340 : decode cX12_readLine 340 = .ok (.getfield 34, 3) := by decide +kernel
theorem dX12_readLine_343 : decode cX12_readLine 343 = .ok (.iload 4, 2) := by decide +kernel
theorem dX12_readLine_345 : decode cX12_readLine 345 = .ok (.iconst 2, 1) := by decide +kernel
theorem dX12_readLine_346 : decode cX12_readLine 346 = .ok (.iadd, 1) := by decide +kernel
theorem dX12_readLine_347 : decode cX12_readLine 347 = .ok (.aload_n 0, 1) := by decide +kernel
theorem dX12_readLine_348 : decode cX12_readLine 348 = .ok (.ldc 225, 2) := by decide +kernel
theorem dX12_readLine_350 : decode cX12_readLine 350 = .ok (.iconst 1, 1) := by decide +kernel
theorem dX12_readLine_351 : decode cX12_readLine 351 = .ok (.bipush 99, 2) := by decide +kernel
theorem dX12_readLine_353 : decode cX12_readLine 353 = .ok (.invokevirtual 188, 3) := by decide +kernel
theorem dX12_readLine_356 : decode cX12_readLine 356 = .ok (.iastore, 1) := by decide +kernel
theorem dX12_readLine_357 : decode cX12_readLine 357 = .ok (.aload_n 0, 1) := by decide +kernel
theorem dX12_readLine_358 : decode cX12_readLine 358 = .ok (.getfield 34, 3) := by decide +kernel
theorem dX12_readLine_361 : decode cX12_readLine 361 = .ok (.iconst 3, 1) := by decide +kernel
theorem dX12_readLine_362 : decode cX12_readLine 362 = .ok (.dup2, 1) := by decide +kernel
theorem dX12_readLine_363 : decode cX12_readLine 363 = .ok (.iaload, 1) := by decide +kernel
theorem dX12_readLine_364 : decode cX12_readLine 364 = .ok (.iconst 1, 1) := by decide +kernel
theorem dX12_readLine_365 : decode cX12_readLine 365 = .ok (.iadd, 1) := by decide +kernel
theorem dX12_readLine_366 : decode cX12_readLine 366 = .ok (.iastore, 1) := by decide +kernel
theorem dX12_readLine_367 : decode cX12_readLine 367 = .ok (.goto 26, 3) := by decide +kernel
theorem dX12_readLine_269 : decode cX12_readLine 269 = .ok (.aload_n 0, 1) := by decide +kernel
theorem dX12_readLine_270 : decode cX12_readLine 270 = .ok (.invokevirtual 222, 3) := by decide +kernel
theorem dX12_readLine_273 : decode cX12_readLine 273 = .ok (.goto 120, 3) := by decide +kernel
theorem dX12_readLine_253 : decode cX12_readLine 253 = .ok (.aload_n 0, 1) := by decide +kernel
theorem dX12_readLine_254 : decode cX12_readLine 254 = .ok (.invokevirtual 219, 3) := by decide +kernel
theorem dX12_readLine_257 : decode cX12_readLine 257 = .ok (.goto 136, 3) := by decide +kernel
theorem dX12_readLine_237 : decode cX12_readLine 237 = .ok (.aload_n 0, 1) := by decide +kernel
theorem dX12_readLine_238 : decode cX12_readLine 238 = .ok (.invokevirtual 216, 3) := by decide +kernel
theorem dX12_readLine_241 : decode cX12_readLine 241 = .ok (.goto 152, 3) := by decide +kernel
theorem dX12_readLine_212 : decode cX12_readLine 212 = .ok (.aload_n 0, 1) := by decide +kernel
theorem dX12_readLine_213 : decode cX12_readLine 213 = .ok (.getfield 34, 3) := by decide +kernel
theorem dX12_readLine_216 : decode cX12_readLine 216 = .ok (.iconst 1, 1) := by decide +kernel
theorem dX12_readLine_217 : decode cX12_readLine 217 = .ok (.aload_n 0, 1) := by decide +kernel
theorem dX12_readLine_218 : decode cX12_readLine 218 = .ok (.iconst 2, 1) := by decide +kernel
theorem dX12_readLine_219 : decode cX12_readLine 219 = .ok (.bipush 16, 2) := by decide +kernel
theorem dX12_readLine_221 : decode cX12_readLine 221 = .ok (.invokevirtual 183, 3) := by decide +kernel
theorem dX12_readLine_224 : decode cX12_readLine 224 = .ok (.iastore, 1) := by decide +kernel
theorem dX12_readLine_225 : decode cX12_readLine 225 = .ok (.goto 168, 3) := by decide +kernel
theorem dX12_readLine_164 : decode cX12_readLine 164 = .ok (.iload_n 2, 1) := by decide +kernel
theorem dX12_readLine_165 : decode cX12_readLine 165 = .ok (.ifCond .ne 11, 3) := by decide +kernel
theorem dX12_readLine_176 : decode cX12_readLine 176 = .ok (.iload_n 3, 1) := by decide +kernel
theorem dX12_readLine_177 : decode cX12_readLine 177 = .ok (.ifCond .eq 8, 3) := by decide +kernel
theorem dX12_readLine_180 : decode cX12_readLine 180 = .ok (.aload_n 0, 1) := by decide +kernel
theorem dX12_readLine_181 : decode cX12_readLine 181 = .ok (.iconst 3, 1) := by decide +kernel
theorem dX12_readLine_182 : decode cX12_readLine 182 = .ok (.invokevirtual 175, 3) := by decide +kernel
theorem dX12_readLine_168 : decode cX12_readLine 168 = .ok (.aload_n 0, 1) := by decide +kernel
theorem dX12_readLine_169 : decode cX12_readLine 169 = .ok (.iconst 1, 1) := by decide +kernel
theorem dX12_readLine_170 : decode cX12_readLine 170 = .ok (.invokevirtual 175, 3) := by decide +kernel
theorem dX12_readLine_173 : decode cX12_readLine 173 = .ok (.goto 12, 3) := by decide +kernel
theorem dX12_readLine_79 : decode cX12_readLine 79 = .ok (.aload_n 0, 1) := by decide +kernel
theorem dX12_readLine_80 : decode cX12_readLine 80 = .ok (.ldc 205, 2) := by decide +kernel
theorem dX12_readLine_82 : decode cX12_readLine 82 = .ok (.invokevirtual 165, 3) := by decide +kernel
theorem dX12_readLine_85 : decode cX12_readLine 85 = .ok (.ifCond .eq 14, 3) := by decide +kernel
theorem dX12_readLine_99 : decode cX12_readLine 99 = .ok (.aload_n 0, 1) := by decide +kernel
theorem dX12_readLine_100 : decode cX12_readLine 100 = .ok (.ldc 207, 2) := by decide +kernel
theorem dX12_readLine_102 : decode cX12_readLine 102 = .ok (.invokevirtual 165, 3) := by decide +kernel
theorem dX12_readLine_105 : decode cX12_readLine 105 = .ok (.ifCond .eq 14, 3) := by decide +kernel
theorem dX12_readLine_119 : decode cX12_readLine 119 = .ok (.aload_n 0, 1) := by decide +kernel
theorem dX12_readLine_120 : decode cX12_readLine 120 = .ok (.ldc 209, 2) := by decide +kernel
theorem dX12_readLine_122 : decode cX12_readLine 122 = .ok (.invokevirtual 165, 3) := by decide +kernel
theorem dX12_readLine_125 : decode cX12_readLine 125 = .ok (.ifCond .eq 14, 3) := by decide +kernel
theorem dX12_readLine_139 : decode cX12_readLine 139 = .ok (.aload_n 0, 1) := by decide +kernel
theorem dX12_readLine_140 : decode cX12_readLine 140 = .ok (.ldc 211, 2) := by decide +kernel
theorem dX12_readLine_142 : decode cX12_readLine 142 = .ok (.invokevirtual 165, 3) := by decide +kernel
theorem dX12_readLine_145 : decode cX12_readLine 145 = .ok (.ifCond .eq 17, 3) := by decide +kernel
theorem dX12_readLine_162 : decode cX12_readLine 162 = .ok (.iconst 0, 1) := by decide +kernel
theorem dX12_readLine_148 : decode cX12_readLine 148 = .ok (.aload_n 0, 1) := by decide +kernel
theorem dX12_readLine_149 : decode cX12_readLine 149 = .ok (.getfield 34, 3) := by decide +kernel
theorem dX12_readLine_152 : decode cX12_readLine 152 = .ok (.iconst 4, 1) := by decide +kernel
theorem dX12_readLine_153 : decode cX12_readLine 153 = .ok (.iaload, 1) := by decide +kernel
theorem dX12_readLine_154 : decode cX12_readLine 154 = .ok (.iconst (-1), 1) := by decide +kernel
theorem dX12_readLine_155 : decode cX12_readLine 155 = .ok (.if_icmp .eq 7, 3) := by decide +kernel
theorem dX12_readLine_158 : decode cX12_readLine 158 = .ok (.iconst 1, 1) := by decide +kernel
theorem dX12_readLine_159 : decode cX12_readLine 159 = .ok (.goto 4, 3) := by decide +kernel
theorem dX12_readLine_128 : decode cX12_readLine 128 = .ok (.aload_n 0, 1) := by decide +kernel
theorem dX12_readLine_129 : decode cX12_readLine 129 = .ok (.getfield 34, 3) := by decide +kernel
theorem dX12_readLine_132 : decode cX12_readLine 132 = .ok (.iconst 3, 1) := by decide +kernel
theorem dX12_readLine_133 : decode cX12_readLine 133 = .ok (.iaload, 1) := by decide +kernel
theorem dX12_readLine_134 : decode cX12_readLine 134 = .ok (.bipush 10, 2) := by decide +kernel
theorem dX12_readLine_136 : decode cX12_readLine 136 = .ok (.if_icmp .eq 22, 3) := by decide +kernel
theorem dX12_readLine_108 : decode cX12_readLine 108 = .ok (.aload_n 0, 1) := by decide +kernel
theorem dX12_readLine_109 : decode cX12_readLine 109 = .ok (.getfield 34, 3) := by decide +kernel
theorem dX12_readLine_112 : decode cX12_readLine 112 = .ok (.iconst 5, 1) := by decide +kernel
theorem dX12_readLine_113 : decode cX12_readLine 113 = .ok (.iaload, 1) := by decide +kernel
theorem dX12_readLine_114 : decode cX12_readLine 114 = .ok (.bipush 6, 2) := by decide +kernel
theorem dX12_readLine_116 : decode cX12_readLine 116 = .ok (.if_icmp .eq 42, 3) := by decide +kernel
theorem dX12_readLine_88 : decode cX12_readLine 88 = .ok (.aload_n 0, 1) := by decide +kernel
theorem dX12_readLine_89 : decode cX12_readLine 89 = .ok (.getfield 34, 3) := by decide +kernel
theorem dX12_readLine_92 : decode cX12_readLine 92 = .ok (.iconst 2, 1) := by decide +kernel
theorem dX12_readLine_93 : decode cX12_readLine 93 = .ok (.iaload, 1) := by decide +kernel
theorem dX12_readLine_94 : decode cX12_readLine 94 = .ok (.bipush 28, 2) := by decide +kernel
theorem dX12_readLine_96 : decode cX12_readLine 96 = .ok (.if_icmp .eq 62, 3) := by decide +kernel
theorem dX12_readLine_15 : decode cX12_readLine 15 = .ok (.aload_n 0, 1) := by decide +kernel
theorem dX12_readLine_16 : decode cX12_readLine 16 = .ok (.ldc 205, 2) := by decide +kernel
theorem dX12_readLine_18 : decode cX12_readLine 18 = .ok (.invokevirtual 165, 3) := by decide +kernel
theorem dX12_readLine_21 : decode cX12_readLine 21 = .ok (.ifCond .ne 52, 3) := by decide +kernel
theorem dX12_readLine_73 : decode cX12_readLine 73 = .ok (.iconst 1, 1) := by decide +kernel
theorem dX12_readLine_74 : decode cX12_readLine 74 = .ok (.goto 4, 3) := by decide +kernel
theorem dX12_readLine_24 : decode cX12_readLine 24 = .ok (.aload_n 0, 1) := by decide +kernel
theorem dX12_readLine_25 : decode cX12_readLine 25 = .ok (.ldc 207, 2) := by decide +kernel
theorem dX12_readLine_27 : decode cX12_readLine 27 = .ok (.invokevirtual 165, 3) := by decide +kernel
theorem dX12_readLine_30 : decode cX12_readLine 30 = .ok (.ifCond .ne 43, 3) := by decide +kernel
theorem dX12_readLine_33 : decode cX12_readLine 33 = .ok (.aload_n 0, 1) := by decide +kernel
theorem dX12_readLine_34 : decode cX12_readLine 34 = .ok (.ldc 209, 2) := by decide +kernel
theorem dX12_readLine_36 : decode cX12_readLine 36 = .ok (.invokevirtual 165, 3) := by decide +kernel
theorem dX12_readLine_39 : decode cX12_readLine 39 = .ok (.ifCond .ne 34, 3) := by decide +kernel
theorem dX12_readLine_42 : decode cX12_readLine 42 = .ok (.aload_n 0, 1) := by decide +kernel
theorem dX12_readLine_43 : decode cX12_readLine 43 = .ok (.ldc 211, 2) := by decide +kernel
theorem dX12_readLine_45 : decode cX12_readLine 45 = .ok (.invokevirtual 165, 3) := by decide +kernel
theorem dX12_readLine_48 : decode cX12_readLine 48 = .ok (.ifCond .ne 25, 3) := by decide +kernel
theorem dX12_readLine_51 : decode cX12_readLine 51 = .ok (.iload_n 1, 1) := by decide +kernel
theorem dX12_readLine_52 : decode cX12_readLine 52 = .ok (.ifCond .eq 25, 3) := by decide +kernel
theorem dX12_readLine_77 : decode cX12_readLine 77 = .ok (.iconst 0, 1) := by decide +kernel
theorem dX12_readLine_55 : decode cX12_readLine 55 = .ok (.aload_n 0, 1) := by decide +kernel
theorem dX12_readLine_56 : decode cX12_readLine 56 = .ok (.ldc 213, 2) := by decide +kernel
theorem dX12_readLine_58 : decode cX12_readLine 58 = .ok (.invokevirtual 165, 3) := by decide +kernel
theorem dX12_readLine_61 : decode cX12_readLine 61 = .ok (.ifCond .ne 12, 3) := by decide +kernel
theorem dX12_readLine_64 : decode cX12_readLine 64 = .ok (.aload_n 0, 1) := by decide +kernel
theorem dX12_readLine_65 : decode cX12_readLine 65 = .ok (.ldc 214, 2) := by decide +kernel
theorem dX12_readLine_67 : decode cX12_readLine 67 = .ok (.invokevirtual 165, 3) := by decide +kernel
theorem dX12_readLine_70 : decode cX12_readLine 70 = .ok (.ifCond .eq 7, 3) := by decide +kernel
theorem dX12_readLine_0 : decode cX12_readLine 0 = .ok (.aload_n 0, 1) := by decide +kernel
theorem dX12_readLine_1 : decode cX12_readLine 1 = .ok (.getfield 34, 3) := by decide +kernel
theorem dX12_readLine_4 : decode cX12_readLine 4 = .ok (.iconst 0, 1) := by decide +kernel
theorem dX12_readLine_5 : decode cX12_readLine 5 = .ok (.iaload, 1) := by decide +kernel
theorem dX12_readLine_6 : decode cX12_readLine 6 = .ok (.ifCond .ne 7, 3) := by decide +kernel
theorem dX12_readLine_13 : decode cX12_readLine 13 = .ok (.iconst 0, 1) := by decide +kernel
theorem dX12_readLine_9 : decode cX12_readLine 9 = .ok (.iconst 1, 1) := by decide +kernel
theorem dX12_readLine_10 : decode cX12_readLine 10 = .ok (.goto 4, 3) := by decide +kernel
theorem dX12_text_0 : decode cX12_text 0 = .ok (.aload_n 0, 1) := by decide +kernel
theorem dX12_text_1 : decode cX12_text 1 = .ok (.aload_n 0, 1) := by decide +kernel
theorem dX12_text_2 : decode cX12_text 2 = .ok (.getfield 112, 3) := by decide +kernel
theorem dX12_text_5 : decode cX12_text 5 = .ok (.putfield 115, 3) := by decide +kernel
theorem dX12_text_8 : decode cX12_text 8 = .ok (.aload_n 0, 1) := by decide +kernel
theorem dX12_text_9 : decode cX12_text 9 = .ok (.iconst 0, 1) := by decide +kernel
theorem dX12_text_10 : decode cX12_text 10 = .ok (.putfield 112, 3) := by decide +kernel
theorem dX12_text_13 : decode cX12_text 13 = .ok (.aload_n 0, 1) := by decide +kernel
theorem dX12_text_14 : decode cX12_text 14 = .ok (.iconst 0, 1) := by decide +kernel
theorem dX12_text_15 : decode cX12_text 15 = .ok (.putfield 118, 3) := by decide +kernel
theorem dX12_text_18 : decode cX12_text 18 = .ok (.aload_n 0, 1) := by decide +kernel
theorem dX12_text_19 : decode cX12_text 19 = .ok (.iconst 0, 1) := by decide +kernel
theorem dX12_text_20 : decode cX12_text 20 = .ok (.putfield 149, 3) := by decide +kernel
theorem dX12_text_23 : decode cX12_text 23 = .ok (.aload_n 0, 1) := by decide +kernel
theorem dX12_text_24 : decode cX12_text 24 = .ok (.iconst (-1), 1) := by decide +kernel
theorem dX12_text_25 : decode cX12_text 25 = .ok (.putfield 31, 3) := by decide +kernel
theorem dX12_text_28 : decode cX12_text 28 = .ok (.aload_n 0, 1) := by decide +kernel
theorem dX12_text_29 : decode cX12_text 29 = .ok (.getfield 34, 3) := by decide +kernel
theorem dX12_text_32 : decode cX12_text 32 = .ok (.invokestatic 92, 3) := by decide +kernel
theorem dX12_text_35 : decode cX12_text 35 = .ok (.iconst 0, 1) := by decide +kernel
theorem dX12_text_36 : decode cX12_text 36 = .ok (.istore_n 1, 1) := by decide +kernel
theorem dX12_text_37 : decode cX12_text 37 = .ok (.iload_n 1, 1) := by decide +kernel
theorem dX12_text_38 : decode cX12_text 38 = .ok (.bipush 28, 2) := by decide +kernel
theorem dX12_text_40 : decode cX12_text 40 = .ok (.if_icmp .ge 16, 3) := by decide +kernel
theorem dX12_text_43 : decode cX12_text 43 = .ok (.aload_n 0, 1) := by decide +kernel
theorem dX12_text_44 : decode cX12_text 44 = .ok (.getfield 37, 3) := by decide +kernel
theorem dX12_text_47 : decode cX12_text 47 = .ok (.iload_n 1, 1) := by decide +kernel
theorem dX12_text_48 : decode cX12_text 48 = .ok (.iconst 0, 1) := by decide +kernel
theorem dX12_text_49 : decode cX12_text 49 = .ok (.bastore, 1) := by decide +kernel
theorem dX12_text_50 : decode cX12_text 50 = .ok (.iinc 1 1, 3) := by decide +kernel
theorem dX12_text_53 : decode cX12_text 53 = .ok (.goto (-16), 3) := by decide +kernel
theorem dX12_text_56 : decode cX12_text 56 = .ok (.aload_n 0, 1) := by decide +kernel
theorem dX12_text_57 : decode cX12_text 57 = .ok (.invokevirtual 169, 3) := by decide +kernel
theorem dX12_text_60 : decode cX12_text 60 = .ok (.aload_n 0, 1) := by decide +kernel
theorem dX12_text_61 : decode cX12_text 61 = .ok (.invokevirtual 152, 3) := by decide +kernel
theorem dX12_text_64 : decode cX12_text 64 = .ok (.ifCond .eq 17, 3) := by decide +kernel
theorem dX12_text_67 : decode cX12_text 67 = .ok (.aload_n 0, 1) := by decide +kernel
theorem dX12_text_68 : decode cX12_text 68 = .ok (.getfield 128, 3) := by decide +kernel
theorem dX12_text_71 : decode cX12_text 71 = .ok (.ifCond .eq 10, 3) := by decide +kernel
theorem dX12_text_74 : decode cX12_text 74 = .ok (.aload_n 0, 1) := by decide +kernel
theorem dX12_text_75 : decode cX12_text 75 = .ok (.invokevirtual 227, 3) := by decide +kernel
theorem dX12_text_78 : decode cX12_text 78 = .ok (.goto (-18), 3) := by decide +kernel
theorem dX12_text_81 : decode cX12_text 81 = .ok (.aload_n 0, 1) := by decide +kernel
theorem dX12_text_82 : decode cX12_text 82 = .ok (.invokevirtual 152, 3) := by decide +kernel
theorem dX12_text_85 : decode cX12_text 85 = .ok (.ifCond .ne 6, 3) := by decide +kernel
theorem dX12_text_88 : decode cX12_text 88 = .ok (.bipush (-4), 2) := by decide +kernel
theorem dX12_text_90 : decode cX12_text 90 = .ok (.ireturn, 1) := by decide +kernel
theorem dX12_text_91 : decode cX12_text 91 = .ok (.iconst 0, 1) := by decide +kernel
theorem dX12_text_92 : decode cX12_text 92 = .ok (.istore_n 1, 1) := by decide +kernel
theorem dX12_text_93 : decode cX12_text 93 = .ok (.iload_n 1, 1) := by decide +kernel
theorem dX12_text_94 : decode cX12_text 94 = .ok (.sipush 304, 3) := by decide +kernel
theorem dX12_text_97 : decode cX12_text 97 = .ok (.if_icmp .ge 21, 3) := by decide +kernel
theorem dX12_text_100 : decode cX12_text 100 = .ok (.aload_n 0, 1) := by decide +kernel
theorem dX12_text_101 : decode cX12_text 101 = .ok (.getfield 13, 3) := by decide +kernel
theorem dX12_text_104 : decode cX12_text 104 = .ok (.iload_n 1, 1) := by decide +kernel
theorem dX12_text_105 : decode cX12_text 105 = .ok (.aload_n 0, 1) := by decide +kernel
theorem dX12_text_106 : decode cX12_text 106 = .ok (.getfield 34, 3) := by decide +kernel
theorem dX12_text_109 : decode cX12_text 109 = .ok (.iload_n 1, 1) := by decide +kernel
theorem dX12_text_110 : decode cX12_text 110 = .ok (.iaload, 1) := by decide +kernel
theorem dX12_text_111 : decode cX12_text 111 = .ok (.iastore, 1) := by decide +kernel
theorem dX12_text_112 : decode cX12_text 112 = .ok (.iinc 1 1, 3) := by decide +kernel
theorem dX12_text_115 : decode cX12_text 115 = .ok (.goto (-22), 3) := by decide +kernel
theorem dX12_text_118 : decode cX12_text 118 = .ok (.iconst 0, 1) := by decide +kernel
theorem dX12_text_119 : decode cX12_text 119 = .ok (.istore_n 1, 1) := by decide +kernel
theorem dX12_text_120 : decode cX12_text 120 = .ok (.iload_n 1, 1) := by decide +kernel
theorem dX12_text_121 : decode cX12_text 121 = .ok (.iconst 2, 1) := by decide +kernel
theorem dX12_text_122 : decode cX12_text 122 = .ok (.if_icmp .ge 55, 3) := by decide +kernel
theorem dX12_text_125 : decode cX12_text 125 = .ok (.iconst 0, 1) := by decide +kernel
theorem dX12_text_126 : decode cX12_text 126 = .ok (.istore_n 2, 1) := by decide +kernel
theorem dX12_text_127 : decode cX12_text 127 = .ok (.iload_n 2, 1) := by decide +kernel
theorem dX12_text_128 : decode cX12_text 128 = .ok (.aload_n 0, 1) := by decide +kernel
theorem dX12_text_129 : decode cX12_text 129 = .ok (.invokevirtual 102, 3) := by decide +kernel
theorem dX12_text_132 : decode cX12_text 132 = .ok (.if_icmp .ge 39, 3) := by decide +kernel
theorem dX12_text_135 : decode cX12_text 135 = .ok (.aload_n 0, 1) := by decide +kernel
theorem dX12_text_136 : decode cX12_text 136 = .ok (.getfield 13, 3) := by decide +kernel
theorem dX12_text_139 : decode cX12_text 139 = .ok (.sipush 248, 3) := by decide +kernel
theorem dX12_text_142 : decode cX12_text 142 = .ok (.bipush 28, 2) := by decide +kernel
theorem dX12_text_144 : decode cX12_text 144 = .ok (.iload_n 1, 1) := by decide +kernel
theorem dX12_text_145 : decode cX12_text 145 = .ok (.imul, 1) := by decide +kernel
theorem dX12_text_146 : decode cX12_text 146 = .ok (.iadd, 1) := by decide +kernel
theorem dX12_text_147 : decode cX12_text 147 = .ok (.iload_n 2, 1) := by decide +kernel
theorem dX12_text_148 : decode cX12_text 148 = .ok (.iadd, 1) := by decide +kernel
theorem dX12_text_149 : decode cX12_text 149 = .ok (.aload_n 0, 1) := by decide +kernel
theorem dX12_text_150 : decode cX12_text 150 = .ok (.iload_n 2, 1) := by decide +kernel
theorem dX12_text_151 : decode cX12_text 151 = .ok (.iconst 4, 1) := by decide +kernel
theorem dX12_text_152 : decode cX12_text 152 = .ok (.invokevirtual 230, 3) := by decide +kernel
theorem dX12_text_155 : decode cX12_text 155 = .ok (.iconst 1, 1) := by decide +kernel
theorem dX12_text_156 : decode cX12_text 156 = .ok (.if_icmp .ne 7, 3) := by decide +kernel
theorem dX12_text_163 : decode cX12_text 163 = .ok (.iconst 0, 1) := by decide +kernel
theorem dX12_text_164 : decode cX12_text 164 = .ok (.iastore, 1) := by decide +kernel
theorem dX12_text_165 : decode cX12_text 165 = .ok (.iinc 2 1, 3) := by decide +kernel
theorem dX12_text_168 : decode cX12_text 168 = .ok (.goto (-41), 3) := by decide +kernel
theorem dX12_text_159 : decode cX12_text 159 = .ok (.iconst 1, 1) := by decide +kernel
theorem dX12_text_160 : decode cX12_text 160 = .ok (.goto 4, 3) := by decide +kernel
theorem dX12_text_171 : decode cX12_text 171 = .ok (.iinc 1 1, 3) := by decide +kernel
theorem dX12_text_174 : decode cX12_text 174 = .ok (.goto (-54), 3) := by decide +kernel
theorem dX12_text_177 : decode cX12_text 177 = .ok (.aload_n 0, 1) := by decide +kernel
theorem dX12_text_178 : decode cX12_text 178 = .ok (.getfield 13, 3) := by decide +kernel
theorem dX12_text_181 : decode cX12_text 181 = .ok (.iconst 0, 1) := by decide +kernel
theorem dX12_text_182 : decode cX12_text 182 = .ok (.iaload, 1) := by decide +kernel
theorem dX12_text_183 : decode cX12_text 183 = .ok (.ireturn, 1) := by decide +kernel
theorem mw_939 : Cond.fieldLink RX12 115 "OneWaysModel" "size" "I" ∈ bW := bW_at 1310 (by decide +kernel) (by decide +kernel)
theorem mw_940 : Cond.fieldLink RX12 118 "OneWaysModel" "at" "I" ∈ bW := bW_at 1311 (by decide +kernel) (by decide +kernel)
theorem mw_941 : Cond.code yX12_see cX12_see 2 (some .int) ∈ bW := bW_at 1454 (by decide +kernel) (by decide +kernel)
theorem mw_942 : Cond.methodLink RX12 121 yX12_see ∈ bW := bW_at 1451 (by decide +kernel) (by decide +kernel)
theorem mw_943 : Cond.instanceMethod yX12_see ∈ bW := bW_at 1453 (by decide +kernel) (by decide +kernel)
theorem mw_944 : Cond.selects RX12 yX12_see yX12_see ∈ bW := bW_at 44 (by decide +kernel) (by decide +kernel)
theorem mw_945 : Cond.fieldLink RX12 125 "OneWaysModel" "from" "I" ∈ bW := bW_at 1312 (by decide +kernel) (by decide +kernel)
theorem mw_946 : Cond.constantLong RX12 131 97 ∈ bW := bW_at 1455 (by decide +kernel) (by decide +kernel)
theorem mw_947 : Cond.constantLong RX12 133 122 ∈ bW := bW_at 1456 (by decide +kernel) (by decide +kernel)
theorem mw_948 : Cond.constantLong RX12 135 48 ∈ bW := bW_at 1457 (by decide +kernel) (by decide +kernel)
theorem mw_949 : Cond.constantLong RX12 137 57 ∈ bW := bW_at 1458 (by decide +kernel) (by decide +kernel)
theorem mw_950 : Cond.fieldLink RX12 128 "OneWaysModel" "token" "I" ∈ bW := bW_at 1313 (by decide +kernel) (by decide +kernel)
theorem mw_951 : Cond.fieldLink RX12 139 "OneWaysModel" "value" "I" ∈ bW := bW_at 1314 (by decide +kernel) (by decide +kernel)
theorem mw_952 : Cond.constant RX12 142 99999 ∈ bW := bW_at 1459 (by decide +kernel) (by decide +kernel)
theorem mw_953 : Cond.methodLink RX12 156 yJ0_length_8abf5 ∈ bW := bW_at 1474 (by decide +kernel) (by decide +kernel)
theorem mw_954 : Cond.methodLink RX12 161 yJ0_charAt_5068e ∈ bW := bW_at 1475 (by decide +kernel) (by decide +kernel)
theorem mw_955 : Cond.code yX12_good cX12_good 1 (some .boolean) ∈ bW := bW_at 1464 (by decide +kernel) (by decide +kernel)
theorem mw_956 : Cond.methodLink RX12 152 yX12_good ∈ bW := bW_at 1461 (by decide +kernel) (by decide +kernel)
theorem mw_957 : Cond.instanceMethod yX12_good ∈ bW := bW_at 1463 (by decide +kernel) (by decide +kernel)
theorem mw_958 : Cond.selects RX12 yX12_good yX12_good ∈ bW := bW_at 45 (by decide +kernel) (by decide +kernel)
theorem mw_959 : Cond.code yX12_is cX12_is 4 (some .boolean) ∈ bW := bW_at 1473 (by decide +kernel) (by decide +kernel)
theorem mw_960 : Cond.methodLink RX12 165 yX12_is ∈ bW := bW_at 1470 (by decide +kernel) (by decide +kernel)
theorem mw_961 : Cond.instanceMethod yX12_is ∈ bW := bW_at 1472 (by decide +kernel) (by decide +kernel)
theorem mw_962 : Cond.selects RX12 yX12_is yX12_is ∈ bW := bW_at 47 (by decide +kernel) (by decide +kernel)
theorem mw_963 : Cond.code yX12_step cX12_step 2 none ∈ bW := bW_at 1450 (by decide +kernel) (by decide +kernel)
theorem mw_964 : Cond.methodLink RX12 169 yX12_step ∈ bW := bW_at 1447 (by decide +kernel) (by decide +kernel)
theorem mw_965 : Cond.instanceMethod yX12_step ∈ bW := bW_at 1449 (by decide +kernel) (by decide +kernel)
theorem mw_966 : Cond.selects RX12 yX12_step yX12_step ∈ bW := bW_at 43 (by decide +kernel) (by decide +kernel)
theorem mw_967 : Cond.code yX12_wrong cX12_wrong 2 none ∈ bW := bW_at 1484 (by decide +kernel) (by decide +kernel)
theorem mw_968 : Cond.methodLink RX12 175 yX12_wrong ∈ bW := bW_at 1481 (by decide +kernel) (by decide +kernel)
theorem mw_969 : Cond.instanceMethod yX12_wrong ∈ bW := bW_at 1483 (by decide +kernel) (by decide +kernel)
theorem mw_970 : Cond.selects RX12 yX12_wrong yX12_wrong ∈ bW := bW_at 48 (by decide +kernel) (by decide +kernel)
theorem mw_971 : Cond.fieldLink RX12 34 "OneWaysModel" "fresh" "[I" ∈ bW := bW_at 1317 (by decide +kernel) (by decide +kernel)
theorem mw_972 : Cond.code yX12_number cX12_number 4 (some .int) ∈ bW := bW_at 1492 (by decide +kernel) (by decide +kernel)
theorem mw_973 : Cond.methodLink RX12 183 yX12_number ∈ bW := bW_at 1489 (by decide +kernel) (by decide +kernel)
theorem mw_974 : Cond.instanceMethod yX12_number ∈ bW := bW_at 1491 (by decide +kernel) (by decide +kernel)
theorem mw_975 : Cond.selects RX12 yX12_number yX12_number ∈ bW := bW_at 50 (by decide +kernel) (by decide +kernel)
theorem mw_976 : Cond.code yX12_takes cX12_takes 3 (some .boolean) ∈ bW := bW_at 1488 (by decide +kernel) (by decide +kernel)
theorem mw_977 : Cond.methodLink RX12 172 yX12_takes ∈ bW := bW_at 1485 (by decide +kernel) (by decide +kernel)
theorem mw_978 : Cond.instanceMethod yX12_takes ∈ bW := bW_at 1487 (by decide +kernel) (by decide +kernel)
theorem mw_979 : Cond.selects RX12 yX12_takes yX12_takes ∈ bW := bW_at 49 (by decide +kernel) (by decide +kernel)
theorem mw_980 : Cond.code yX12_needs cX12_needs 2 none ∈ bW := bW_at 1505 (by decide +kernel) (by decide +kernel)
theorem mw_981 : Cond.methodLink RX12 179 yX12_needs ∈ bW := bW_at 1502 (by decide +kernel) (by decide +kernel)
theorem mw_982 : Cond.instanceMethod yX12_needs ∈ bW := bW_at 1504 (by decide +kernel) (by decide +kernel)
theorem mw_983 : Cond.selects RX12 yX12_needs yX12_needs ∈ bW := bW_at 53 (by decide +kernel) (by decide +kernel)
theorem mw_984 : Cond.fieldLink RX12 37 "OneWaysModel" "isOfStreet" "[Z" ∈ bW := bW_at 1318 (by decide +kernel) (by decide +kernel)
theorem mw_985 : Cond.code yX12_other cX12_other 2 (some .int) ∈ bW := bW_at 1518 (by decide +kernel) (by decide +kernel)
theorem mw_986 : Cond.methodLink RX12 197 yX12_other ∈ bW := bW_at 1515 (by decide +kernel) (by decide +kernel)
theorem mw_987 : Cond.instanceMethod yX12_other ∈ bW := bW_at 1517 (by decide +kernel) (by decide +kernel)
theorem mw_988 : Cond.selects RX12 yX12_other yX12_other ∈ bW := bW_at 56 (by decide +kernel) (by decide +kernel)
theorem mw_989 : Cond.code yX12_told cX12_told 4 (some .int) ∈ bW := bW_at 1501 (by decide +kernel) (by decide +kernel)
theorem mw_990 : Cond.methodLink RX12 188 yX12_told ∈ bW := bW_at 1498 (by decide +kernel) (by decide +kernel)
theorem mw_991 : Cond.instanceMethod yX12_told ∈ bW := bW_at 1500 (by decide +kernel) (by decide +kernel)
theorem mw_992 : Cond.selects RX12 yX12_told yX12_told ∈ bW := bW_at 52 (by decide +kernel) (by decide +kernel)
theorem mw_993 : Cond.code yX12_adds cX12_adds 8 none ∈ bW := bW_at 1510 (by decide +kernel) (by decide +kernel)
theorem mw_994 : Cond.methodLink RX12 193 yX12_adds ∈ bW := bW_at 1507 (by decide +kernel) (by decide +kernel)
theorem mw_995 : Cond.instanceMethod yX12_adds ∈ bW := bW_at 1509 (by decide +kernel) (by decide +kernel)
theorem mw_996 : Cond.selects RX12 yX12_adds yX12_adds ∈ bW := bW_at 54 (by decide +kernel) (by decide +kernel)
theorem mw_997 : Cond.code yX12_readStreet cX12_readStreet 5 none ∈ bW := bW_at 1525 (by decide +kernel) (by decide +kernel)
theorem mw_998 : Cond.methodLink RX12 222 yX12_readStreet ∈ bW := bW_at 1522 (by decide +kernel) (by decide +kernel)
theorem mw_999 : Cond.instanceMethod yX12_readStreet ∈ bW := bW_at 1524 (by decide +kernel) (by decide +kernel)
theorem mw_1000 : Cond.selects RX12 yX12_readStreet yX12_readStreet ∈ bW := bW_at 57 (by decide +kernel) (by decide +kernel)
theorem mw_1001 : Cond.code yX12_readAlley cX12_readAlley 7 none ∈ bW := bW_at 1514 (by decide +kernel) (by decide +kernel)
theorem mw_1002 : Cond.methodLink RX12 219 yX12_readAlley ∈ bW := bW_at 1511 (by decide +kernel) (by decide +kernel)
theorem mw_1003 : Cond.instanceMethod yX12_readAlley ∈ bW := bW_at 1513 (by decide +kernel) (by decide +kernel)
theorem mw_1004 : Cond.selects RX12 yX12_readAlley yX12_readAlley ∈ bW := bW_at 55 (by decide +kernel) (by decide +kernel)
theorem mw_1005 : Cond.code yX12_readGrid cX12_readGrid 6 none ∈ bW := bW_at 1496 (by decide +kernel) (by decide +kernel)
theorem mw_1006 : Cond.methodLink RX12 216 yX12_readGrid ∈ bW := bW_at 1493 (by decide +kernel) (by decide +kernel)
theorem mw_1007 : Cond.instanceMethod yX12_readGrid ∈ bW := bW_at 1495 (by decide +kernel) (by decide +kernel)
theorem mw_1008 : Cond.selects RX12 yX12_readGrid yX12_readGrid ∈ bW := bW_at 51 (by decide +kernel) (by decide +kernel)
theorem mw_1009 : Cond.code yX12_plain cX12_plain 2 none ∈ bW := bW_at 1303 (by decide +kernel) (by decide +kernel)
theorem mw_1010 : Cond.methodLink RX12 92 yX12_plain ∈ bW := bW_at 1301 (by decide +kernel) (by decide +kernel)
theorem mw_1011 : Cond.static yX12_plain ∈ bW := bW_at 1302 (by decide +kernel) (by decide +kernel)
theorem mw_1012 : Cond.code yX12_readLine cX12_readLine 5 none ∈ bW := bW_at 1468 (by decide +kernel) (by decide +kernel)
theorem mw_1013 : Cond.methodLink RX12 227 yX12_readLine ∈ bW := bW_at 1465 (by decide +kernel) (by decide +kernel)
theorem mw_1014 : Cond.instanceMethod yX12_readLine ∈ bW := bW_at 1467 (by decide +kernel) (by decide +kernel)
theorem mw_1015 : Cond.selects RX12 yX12_readLine yX12_readLine ∈ bW := bW_at 46 (by decide +kernel) (by decide +kernel)
