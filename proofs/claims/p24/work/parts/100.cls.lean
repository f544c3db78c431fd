theorem dJ6_bitCount_0f7a4_0 : decode cJ6_bitCount_0f7a4 0 = .ok (.iload_n 0, 1) := by decide +kernel
theorem dJ6_bitCount_0f7a4_1 : decode cJ6_bitCount_0f7a4 1 = .ok (.iload_n 0, 1) := by decide +kernel
theorem dJ6_bitCount_0f7a4_10 : decode cJ6_bitCount_0f7a4 10 = .ok (.iload_n 0, 1) := by decide +kernel
theorem dJ6_bitCount_0f7a4_11 : decode cJ6_bitCount_0f7a4 11 = .ok (.ldc_w 266, 3) := by decide +kernel
theorem dJ6_bitCount_0f7a4_14 : decode cJ6_bitCount_0f7a4 14 = .ok (.iand, 1) := by decide +kernel
theorem dJ6_bitCount_0f7a4_15 : decode cJ6_bitCount_0f7a4 15 = .ok (.iload_n 0, 1) := by decide +kernel
theorem dJ6_bitCount_0f7a4_16 : decode cJ6_bitCount_0f7a4 16 = .ok (.iconst 2, 1) := by decide +kernel
theorem dJ6_bitCount_0f7a4_17 : decode cJ6_bitCount_0f7a4 17 = .ok (.iushr, 1) := by decide +kernel
theorem dJ6_bitCount_0f7a4_18 : decode cJ6_bitCount_0f7a4 18 = .ok (.ldc_w 266, 3) := by decide +kernel
theorem dJ6_bitCount_0f7a4_2 : decode cJ6_bitCount_0f7a4 2 = .ok (.iconst 1, 1) := by decide +kernel
theorem dJ6_bitCount_0f7a4_21 : decode cJ6_bitCount_0f7a4 21 = .ok (.iand, 1) := by decide +kernel
theorem dJ6_bitCount_0f7a4_22 : decode cJ6_bitCount_0f7a4 22 = .ok (.iadd, 1) := by decide +kernel
theorem dJ6_bitCount_0f7a4_23 : decode cJ6_bitCount_0f7a4 23 = .ok (.istore_n 0, 1) := by decide +kernel
theorem dJ6_bitCount_0f7a4_24 : decode cJ6_bitCount_0f7a4 24 = .ok (.iload_n 0, 1) := by decide +kernel
theorem dJ6_bitCount_0f7a4_25 : decode cJ6_bitCount_0f7a4 25 = .ok (.iload_n 0, 1) := by decide +kernel
theorem dJ6_bitCount_0f7a4_26 : decode cJ6_bitCount_0f7a4 26 = .ok (.iconst 4, 1) := by decide +kernel
theorem dJ6_bitCount_0f7a4_27 : decode cJ6_bitCount_0f7a4 27 = .ok (.iushr, 1) := by decide +kernel
theorem dJ6_bitCount_0f7a4_28 : decode cJ6_bitCount_0f7a4 28 = .ok (.iadd, 1) := by decide +kernel
theorem dJ6_bitCount_0f7a4_29 : decode cJ6_bitCount_0f7a4 29 = .ok (.ldc_w 267, 3) := by decide +kernel
theorem dJ6_bitCount_0f7a4_3 : decode cJ6_bitCount_0f7a4 3 = .ok (.iushr, 1) := by decide +kernel
theorem dJ6_bitCount_0f7a4_32 : decode cJ6_bitCount_0f7a4 32 = .ok (.iand, 1) := by decide +kernel
theorem dJ6_bitCount_0f7a4_33 : decode cJ6_bitCount_0f7a4 33 = .ok (.istore_n 0, 1) := by decide +kernel
theorem dJ6_bitCount_0f7a4_34 : decode cJ6_bitCount_0f7a4 34 = .ok (.iload_n 0, 1) := by decide +kernel
theorem dJ6_bitCount_0f7a4_35 : decode cJ6_bitCount_0f7a4 35 = .ok (.iload_n 0, 1) := by decide +kernel
theorem dJ6_bitCount_0f7a4_36 : decode cJ6_bitCount_0f7a4 36 = .ok (.bipush 8, 2) := by decide +kernel
theorem dJ6_bitCount_0f7a4_38 : decode cJ6_bitCount_0f7a4 38 = .ok (.iushr, 1) := by decide +kernel
theorem dJ6_bitCount_0f7a4_39 : decode cJ6_bitCount_0f7a4 39 = .ok (.iadd, 1) := by decide +kernel
theorem dJ6_bitCount_0f7a4_4 : decode cJ6_bitCount_0f7a4 4 = .ok (.ldc_w 265, 3) := by decide +kernel
theorem dJ6_bitCount_0f7a4_40 : decode cJ6_bitCount_0f7a4 40 = .ok (.istore_n 0, 1) := by decide +kernel
theorem dJ6_bitCount_0f7a4_41 : decode cJ6_bitCount_0f7a4 41 = .ok (.iload_n 0, 1) := by decide +kernel
theorem dJ6_bitCount_0f7a4_42 : decode cJ6_bitCount_0f7a4 42 = .ok (.iload_n 0, 1) := by decide +kernel
theorem dJ6_bitCount_0f7a4_43 : decode cJ6_bitCount_0f7a4 43 = .ok (.bipush 16, 2) := by decide +kernel
theorem dJ6_bitCount_0f7a4_45 : decode cJ6_bitCount_0f7a4 45 = .ok (.iushr, 1) := by decide +kernel
theorem dJ6_bitCount_0f7a4_46 : decode cJ6_bitCount_0f7a4 46 = .ok (.iadd, 1) := by decide +kernel
theorem dJ6_bitCount_0f7a4_47 : decode cJ6_bitCount_0f7a4 47 = .ok (.istore_n 0, 1) := by decide +kernel
theorem dJ6_bitCount_0f7a4_48 : decode cJ6_bitCount_0f7a4 48 = .ok (.iload_n 0, 1) := by decide +kernel
theorem dJ6_bitCount_0f7a4_49 : decode cJ6_bitCount_0f7a4 49 = .ok (.bipush 63, 2) := by decide +kernel
theorem dJ6_bitCount_0f7a4_51 : decode cJ6_bitCount_0f7a4 51 = .ok (.iand, 1) := by decide +kernel
theorem dJ6_bitCount_0f7a4_52 : decode cJ6_bitCount_0f7a4 52 = .ok (.ireturn, 1) := by decide +kernel
theorem dJ6_bitCount_0f7a4_7 : decode cJ6_bitCount_0f7a4 7 = .ok (.iand, 1) := by decide +kernel
theorem dJ6_bitCount_0f7a4_8 : decode cJ6_bitCount_0f7a4 8 = .ok (.isub, 1) := by decide +kernel
theorem dJ6_bitCount_0f7a4_9 : decode cJ6_bitCount_0f7a4 9 = .ok (.istore_n 0, 1) := by decide +kernel
theorem dX10_give_0 : decode cX10_give 0 = .ok (.iconst 0, 1) := by decide +kernel
theorem dX10_give_1 : decode cX10_give 1 = .ok (.istore_n 2, 1) := by decide +kernel
theorem dX10_give_10 : decode cX10_give 10 = .ok (.if_icmp .ge 166, 3) := by decide +kernel
theorem dX10_give_100 : decode cX10_give 100 = .ok (.sipush 20033, 3) := by decide +kernel
theorem dX10_give_103 : decode cX10_give 103 = .ok (.if_icmp .ne 19, 3) := by decide +kernel
theorem dX10_give_106 : decode cX10_give 106 = .ok (.iload 5, 2) := by decide +kernel
theorem dX10_give_108 : decode cX10_give 108 = .ok (.ifCond .ne 7, 3) := by decide +kernel
theorem dX10_give_111 : decode cX10_give 111 = .ok (.iconst 1, 1) := by decide +kernel
theorem dX10_give_112 : decode cX10_give 112 = .ok (.goto 4, 3) := by decide +kernel
theorem dX10_give_115 : decode cX10_give 115 = .ok (.iconst 0, 1) := by decide +kernel
theorem dX10_give_116 : decode cX10_give 116 = .ok (.invokestatic 91, 3) := by decide +kernel
theorem dX10_give_119 : decode cX10_give 119 = .ok (.goto 6, 3) := by decide +kernel
theorem dX10_give_122 : decode cX10_give 122 = .ok (.iload 5, 2) := by decide +kernel
theorem dX10_give_124 : decode cX10_give 124 = .ok (.ineg, 1) := by decide +kernel
theorem dX10_give_125 : decode cX10_give 125 = .ok (.iastore, 1) := by decide +kernel
theorem dX10_give_126 : decode cX10_give 126 = .ok (.goto 44, 3) := by decide +kernel
theorem dX10_give_129 : decode cX10_give 129 = .ok (.iload_n 2, 1) := by decide +kernel
theorem dX10_give_13 : decode cX10_give 13 = .ok (.aload_n 1, 1) := by decide +kernel
theorem dX10_give_130 : decode cX10_give 130 = .ok (.iconst 2, 1) := by decide +kernel
theorem dX10_give_131 : decode cX10_give 131 = .ok (.if_icmp .ge 5, 3) := by decide +kernel
theorem dX10_give_134 : decode cX10_give 134 = .ok (.iconst 0, 1) := by decide +kernel
theorem dX10_give_135 : decode cX10_give 135 = .ok (.ireturn, 1) := by decide +kernel
theorem dX10_give_136 : decode cX10_give 136 = .ok (.iinc 2 (-1), 3) := by decide +kernel
theorem dX10_give_139 : decode cX10_give 139 = .ok (.aload_n 0, 1) := by decide +kernel
theorem dX10_give_14 : decode cX10_give 14 = .ok (.getfield 84, 3) := by decide +kernel
theorem dX10_give_140 : decode cX10_give 140 = .ok (.getfield 35, 3) := by decide +kernel
theorem dX10_give_143 : decode cX10_give 143 = .ok (.iload_n 2, 1) := by decide +kernel
theorem dX10_give_144 : decode cX10_give 144 = .ok (.iconst 1, 1) := by decide +kernel
theorem dX10_give_145 : decode cX10_give 145 = .ok (.isub, 1) := by decide +kernel
theorem dX10_give_146 : decode cX10_give 146 = .ok (.iload 4, 2) := by decide +kernel
theorem dX10_give_148 : decode cX10_give 148 = .ok (.sipush 20000, 3) := by decide +kernel
theorem dX10_give_151 : decode cX10_give 151 = .ok (.isub, 1) := by decide +kernel
theorem dX10_give_152 : decode cX10_give 152 = .ok (.aload_n 0, 1) := by decide +kernel
theorem dX10_give_153 : decode cX10_give 153 = .ok (.getfield 35, 3) := by decide +kernel
theorem dX10_give_156 : decode cX10_give 156 = .ok (.iload_n 2, 1) := by decide +kernel
theorem dX10_give_157 : decode cX10_give 157 = .ok (.iconst 1, 1) := by decide +kernel
theorem dX10_give_158 : decode cX10_give 158 = .ok (.isub, 1) := by decide +kernel
theorem dX10_give_159 : decode cX10_give 159 = .ok (.iaload, 1) := by decide +kernel
theorem dX10_give_160 : decode cX10_give 160 = .ok (.aload_n 0, 1) := by decide +kernel
theorem dX10_give_161 : decode cX10_give 161 = .ok (.getfield 35, 3) := by decide +kernel
theorem dX10_give_164 : decode cX10_give 164 = .ok (.iload_n 2, 1) := by decide +kernel
theorem dX10_give_165 : decode cX10_give 165 = .ok (.iaload, 1) := by decide +kernel
theorem dX10_give_166 : decode cX10_give 166 = .ok (.invokestatic 95, 3) := by decide +kernel
theorem dX10_give_169 : decode cX10_give 169 = .ok (.iastore, 1) := by decide +kernel
theorem dX10_give_17 : decode cX10_give 17 = .ok (.iload_n 3, 1) := by decide +kernel
theorem dX10_give_170 : decode cX10_give 170 = .ok (.iinc 3 1, 3) := by decide +kernel
theorem dX10_give_173 : decode cX10_give 173 = .ok (.goto (-169), 3) := by decide +kernel
theorem dX10_give_176 : decode cX10_give 176 = .ok (.aload_n 0, 1) := by decide +kernel
theorem dX10_give_177 : decode cX10_give 177 = .ok (.getfield 35, 3) := by decide +kernel
theorem dX10_give_18 : decode cX10_give 18 = .ok (.iaload, 1) := by decide +kernel
theorem dX10_give_180 : decode cX10_give 180 = .ok (.iconst 0, 1) := by decide +kernel
theorem dX10_give_181 : decode cX10_give 181 = .ok (.iaload, 1) := by decide +kernel
theorem dX10_give_182 : decode cX10_give 182 = .ok (.ireturn, 1) := by decide +kernel
theorem dX10_give_19 : decode cX10_give 19 = .ok (.istore 4, 2) := by decide +kernel
theorem dX10_give_2 : decode cX10_give 2 = .ok (.iconst 0, 1) := by decide +kernel
theorem dX10_give_21 : decode cX10_give 21 = .ok (.iload 4, 2) := by decide +kernel
theorem dX10_give_23 : decode cX10_give 23 = .ok (.sipush 20000, 3) := by decide +kernel
theorem dX10_give_26 : decode cX10_give 26 = .ok (.if_icmp .ge 32, 3) := by decide +kernel
theorem dX10_give_29 : decode cX10_give 29 = .ok (.iload_n 2, 1) := by decide +kernel
theorem dX10_give_3 : decode cX10_give 3 = .ok (.istore_n 3, 1) := by decide +kernel
theorem dX10_give_30 : decode cX10_give 30 = .ok (.aload_n 0, 1) := by decide +kernel
theorem dX10_give_31 : decode cX10_give 31 = .ok (.getfield 35, 3) := by decide +kernel
theorem dX10_give_34 : decode cX10_give 34 = .ok (.arraylength, 1) := by decide +kernel
theorem dX10_give_35 : decode cX10_give 35 = .ok (.if_icmp .lt 5, 3) := by decide +kernel
theorem dX10_give_38 : decode cX10_give 38 = .ok (.iconst 0, 1) := by decide +kernel
theorem dX10_give_39 : decode cX10_give 39 = .ok (.ireturn, 1) := by decide +kernel
theorem dX10_give_4 : decode cX10_give 4 = .ok (.iload_n 3, 1) := by decide +kernel
theorem dX10_give_40 : decode cX10_give 40 = .ok (.aload_n 0, 1) := by decide +kernel
theorem dX10_give_41 : decode cX10_give 41 = .ok (.getfield 35, 3) := by decide +kernel
theorem dX10_give_44 : decode cX10_give 44 = .ok (.iload_n 2, 1) := by decide +kernel
theorem dX10_give_45 : decode cX10_give 45 = .ok (.aload_n 0, 1) := by decide +kernel
theorem dX10_give_46 : decode cX10_give 46 = .ok (.iload 4, 2) := by decide +kernel
theorem dX10_give_48 : decode cX10_give 48 = .ok (.invokevirtual 87, 3) := by decide +kernel
theorem dX10_give_5 : decode cX10_give 5 = .ok (.aload_n 1, 1) := by decide +kernel
theorem dX10_give_51 : decode cX10_give 51 = .ok (.iastore, 1) := by decide +kernel
theorem dX10_give_52 : decode cX10_give 52 = .ok (.iinc 2 1, 3) := by decide +kernel
theorem dX10_give_55 : decode cX10_give 55 = .ok (.goto 115, 3) := by decide +kernel
theorem dX10_give_58 : decode cX10_give 58 = .ok (.iload 4, 2) := by decide +kernel
theorem dX10_give_6 : decode cX10_give 6 = .ok (.getfield 84, 3) := by decide +kernel
theorem dX10_give_60 : decode cX10_give 60 = .ok (.sipush 20033, 3) := by decide +kernel
theorem dX10_give_63 : decode cX10_give 63 = .ok (.if_icmp .eq 11, 3) := by decide +kernel
theorem dX10_give_66 : decode cX10_give 66 = .ok (.iload 4, 2) := by decide +kernel
theorem dX10_give_68 : decode cX10_give 68 = .ok (.sipush 20126, 3) := by decide +kernel
theorem dX10_give_71 : decode cX10_give 71 = .ok (.if_icmp .ne 58, 3) := by decide +kernel
theorem dX10_give_74 : decode cX10_give 74 = .ok (.iload_n 2, 1) := by decide +kernel
theorem dX10_give_75 : decode cX10_give 75 = .ok (.iconst 1, 1) := by decide +kernel
theorem dX10_give_76 : decode cX10_give 76 = .ok (.if_icmp .ge 5, 3) := by decide +kernel
theorem dX10_give_79 : decode cX10_give 79 = .ok (.iconst 0, 1) := by decide +kernel
theorem dX10_give_80 : decode cX10_give 80 = .ok (.ireturn, 1) := by decide +kernel
theorem dX10_give_81 : decode cX10_give 81 = .ok (.aload_n 0, 1) := by decide +kernel
theorem dX10_give_82 : decode cX10_give 82 = .ok (.getfield 35, 3) := by decide +kernel
theorem dX10_give_85 : decode cX10_give 85 = .ok (.iload_n 2, 1) := by decide +kernel
theorem dX10_give_86 : decode cX10_give 86 = .ok (.iconst 1, 1) := by decide +kernel
theorem dX10_give_87 : decode cX10_give 87 = .ok (.isub, 1) := by decide +kernel
theorem dX10_give_88 : decode cX10_give 88 = .ok (.iaload, 1) := by decide +kernel
theorem dX10_give_89 : decode cX10_give 89 = .ok (.istore 5, 2) := by decide +kernel
theorem dX10_give_9 : decode cX10_give 9 = .ok (.arraylength, 1) := by decide +kernel
theorem dX10_give_91 : decode cX10_give 91 = .ok (.aload_n 0, 1) := by decide +kernel
theorem dX10_give_92 : decode cX10_give 92 = .ok (.getfield 35, 3) := by decide +kernel
theorem dX10_give_95 : decode cX10_give 95 = .ok (.iload_n 2, 1) := by decide +kernel
theorem dX10_give_96 : decode cX10_give 96 = .ok (.iconst 1, 1) := by decide +kernel
theorem dX10_give_97 : decode cX10_give 97 = .ok (.isub, 1) := by decide +kernel
theorem dX10_give_98 : decode cX10_give 98 = .ok (.iload 4, 2) := by decide +kernel
theorem dX10_holding_0 : decode cX10_holding 0 = .ok (.aload_n 3, 1) := by decide +kernel
theorem dX10_holding_1 : decode cX10_holding 1 = .ok (.ifnull 13, 3) := by decide +kernel
theorem dX10_holding_12 : decode cX10_holding 12 = .ok (.aload_n 3, 1) := by decide +kernel
theorem dX10_holding_13 : decode cX10_holding 13 = .ok (.areturn, 1) := by decide +kernel
theorem dX10_holding_14 : decode cX10_holding 14 = .ok (.aload_n 0, 1) := by decide +kernel
theorem dX10_holding_15 : decode cX10_holding 15 = .ok (.getfield 25, 3) := by decide +kernel
theorem dX10_holding_18 : decode cX10_holding 18 = .ok (.iload_n 1, 1) := by decide +kernel
theorem dX10_holding_19 : decode cX10_holding 19 = .ok (.aaload, 1) := by decide +kernel
theorem dX10_holding_20 : decode cX10_holding 20 = .ok (.astore 4, 2) := by decide +kernel
theorem dX10_holding_22 : decode cX10_holding 22 = .ok (.iconst 0, 1) := by decide +kernel
theorem dX10_holding_23 : decode cX10_holding 23 = .ok (.istore 5, 2) := by decide +kernel
theorem dX10_holding_25 : decode cX10_holding 25 = .ok (.iload 5, 2) := by decide +kernel
theorem dX10_holding_27 : decode cX10_holding 27 = .ok (.aload_n 0, 1) := by decide +kernel
theorem dX10_holding_28 : decode cX10_holding 28 = .ok (.getfield 17, 3) := by decide +kernel
theorem dX10_holding_31 : decode cX10_holding 31 = .ok (.if_icmp .ge 53, 3) := by decide +kernel
theorem dX10_holding_34 : decode cX10_holding 34 = .ok (.aload_n 0, 1) := by decide +kernel
theorem dX10_holding_35 : decode cX10_holding 35 = .ok (.getfield 11, 3) := by decide +kernel
theorem dX10_holding_38 : decode cX10_holding 38 = .ok (.iload 5, 2) := by decide +kernel
theorem dX10_holding_4 : decode cX10_holding 4 = .ok (.aload_n 3, 1) := by decide +kernel
theorem dX10_holding_40 : decode cX10_holding 40 = .ok (.aaload, 1) := by decide +kernel
theorem dX10_holding_41 : decode cX10_holding 41 = .ok (.astore 6, 2) := by decide +kernel
theorem dX10_holding_43 : decode cX10_holding 43 = .ok (.aload 6, 2) := by decide +kernel
theorem dX10_holding_45 : decode cX10_holding 45 = .ok (.getfield 78, 3) := by decide +kernel
theorem dX10_holding_48 : decode cX10_holding 48 = .ok (.iload_n 1, 1) := by decide +kernel
theorem dX10_holding_49 : decode cX10_holding 49 = .ok (.if_icmp .ne 29, 3) := by decide +kernel
theorem dX10_holding_5 : decode cX10_holding 5 = .ok (.getfield 78, 3) := by decide +kernel
theorem dX10_holding_52 : decode cX10_holding 52 = .ok (.aload 6, 2) := by decide +kernel
theorem dX10_holding_54 : decode cX10_holding 54 = .ok (.getfield 81, 3) := by decide +kernel
theorem dX10_holding_57 : decode cX10_holding 57 = .ok (.iload_n 2, 1) := by decide +kernel
theorem dX10_holding_58 : decode cX10_holding 58 = .ok (.if_icmp .gt 20, 3) := by decide +kernel
theorem dX10_holding_61 : decode cX10_holding 61 = .ok (.aload 6, 2) := by decide +kernel
theorem dX10_holding_63 : decode cX10_holding 63 = .ok (.getfield 81, 3) := by decide +kernel
theorem dX10_holding_66 : decode cX10_holding 66 = .ok (.aload 4, 2) := by decide +kernel
theorem dX10_holding_68 : decode cX10_holding 68 = .ok (.getfield 81, 3) := by decide +kernel
theorem dX10_holding_71 : decode cX10_holding 71 = .ok (.if_icmp .lt 7, 3) := by decide +kernel
theorem dX10_holding_74 : decode cX10_holding 74 = .ok (.aload 6, 2) := by decide +kernel
theorem dX10_holding_76 : decode cX10_holding 76 = .ok (.astore 4, 2) := by decide +kernel
theorem dX10_holding_78 : decode cX10_holding 78 = .ok (.iinc 5 1, 3) := by decide +kernel
theorem dX10_holding_8 : decode cX10_holding 8 = .ok (.iload_n 1, 1) := by decide +kernel
theorem dX10_holding_81 : decode cX10_holding 81 = .ok (.goto (-56), 3) := by decide +kernel
theorem dX10_holding_84 : decode cX10_holding 84 = .ok (.aload 4, 2) := by decide +kernel
theorem dX10_holding_86 : decode cX10_holding 86 = .ok (.areturn, 1) := by decide +kernel
theorem dX10_holding_9 : decode cX10_holding 9 = .ok (.if_icmp .ne 5, 3) := by decide +kernel
theorem dX10_isTriable_0 : decode cX10_isTriable 0 = .ok (.iload_n 1, 1) := by decide +kernel
theorem dX10_isTriable_1 : decode cX10_isTriable 1 = .ok (.ifCond .lt 40, 3) := by decide +kernel
theorem dX10_isTriable_12 : decode cX10_isTriable 12 = .ok (.aload_n 0, 1) := by decide +kernel
theorem dX10_isTriable_13 : decode cX10_isTriable 13 = .ok (.getfield 11, 3) := by decide +kernel
theorem dX10_isTriable_16 : decode cX10_isTriable 16 = .ok (.iload_n 1, 1) := by decide +kernel
theorem dX10_isTriable_17 : decode cX10_isTriable 17 = .ok (.aaload, 1) := by decide +kernel
theorem dX10_isTriable_18 : decode cX10_isTriable 18 = .ok (.getfield 78, 3) := by decide +kernel
theorem dX10_isTriable_21 : decode cX10_isTriable 21 = .ok (.ifCond .eq 16, 3) := by decide +kernel
theorem dX10_isTriable_24 : decode cX10_isTriable 24 = .ok (.aload_n 0, 1) := by decide +kernel
theorem dX10_isTriable_25 : decode cX10_isTriable 25 = .ok (.getfield 11, 3) := by decide +kernel
theorem dX10_isTriable_28 : decode cX10_isTriable 28 = .ok (.iload_n 1, 1) := by decide +kernel
theorem dX10_isTriable_29 : decode cX10_isTriable 29 = .ok (.aaload, 1) := by decide +kernel
theorem dX10_isTriable_30 : decode cX10_isTriable 30 = .ok (.getfield 78, 3) := by decide +kernel
theorem dX10_isTriable_33 : decode cX10_isTriable 33 = .ok (.iconst 1, 1) := by decide +kernel
theorem dX10_isTriable_34 : decode cX10_isTriable 34 = .ok (.if_icmp .ne 7, 3) := by decide +kernel
theorem dX10_isTriable_37 : decode cX10_isTriable 37 = .ok (.iconst 1, 1) := by decide +kernel
theorem dX10_isTriable_38 : decode cX10_isTriable 38 = .ok (.goto 4, 3) := by decide +kernel
theorem dX10_isTriable_4 : decode cX10_isTriable 4 = .ok (.iload_n 1, 1) := by decide +kernel
theorem dX10_isTriable_41 : decode cX10_isTriable 41 = .ok (.iconst 0, 1) := by decide +kernel
theorem dX10_isTriable_42 : decode cX10_isTriable 42 = .ok (.ireturn, 1) := by decide +kernel
theorem dX10_isTriable_5 : decode cX10_isTriable 5 = .ok (.aload_n 0, 1) := by decide +kernel
theorem dX10_isTriable_6 : decode cX10_isTriable 6 = .ok (.getfield 17, 3) := by decide +kernel
theorem dX10_isTriable_9 : decode cX10_isTriable 9 = .ok (.if_icmp .ge 32, 3) := by decide +kernel
theorem dX10_joined_0 : decode cX10_joined 0 = .ok (.iload_n 0, 1) := by decide +kernel
theorem dX10_joined_1 : decode cX10_joined 1 = .ok (.lookupswitch 151 #[(38, 84), (43, 143), (45, 147), (60, 101), (61, 129), (62, 115), (124, 67)], 67) := by decide +kernel
theorem dX10_joined_101 : decode cX10_joined 101 = .ok (.ireturn, 1) := by decide +kernel
theorem dX10_joined_102 : decode cX10_joined 102 = .ok (.iload_n 1, 1) := by decide +kernel
theorem dX10_joined_103 : decode cX10_joined 103 = .ok (.iload_n 2, 1) := by decide +kernel
theorem dX10_joined_104 : decode cX10_joined 104 = .ok (.if_icmp .ge 7, 3) := by decide +kernel
theorem dX10_joined_107 : decode cX10_joined 107 = .ok (.iconst 1, 1) := by decide +kernel
theorem dX10_joined_108 : decode cX10_joined 108 = .ok (.goto 4, 3) := by decide +kernel
theorem dX10_joined_111 : decode cX10_joined 111 = .ok (.iconst 0, 1) := by decide +kernel
theorem dX10_joined_112 : decode cX10_joined 112 = .ok (.invokestatic 91, 3) := by decide +kernel
theorem dX10_joined_115 : decode cX10_joined 115 = .ok (.ireturn, 1) := by decide +kernel
theorem dX10_joined_116 : decode cX10_joined 116 = .ok (.iload_n 1, 1) := by decide +kernel
theorem dX10_joined_117 : decode cX10_joined 117 = .ok (.iload_n 2, 1) := by decide +kernel
theorem dX10_joined_118 : decode cX10_joined 118 = .ok (.if_icmp .le 7, 3) := by decide +kernel
theorem dX10_joined_121 : decode cX10_joined 121 = .ok (.iconst 1, 1) := by decide +kernel
theorem dX10_joined_122 : decode cX10_joined 122 = .ok (.goto 4, 3) := by decide +kernel
theorem dX10_joined_125 : decode cX10_joined 125 = .ok (.iconst 0, 1) := by decide +kernel
theorem dX10_joined_126 : decode cX10_joined 126 = .ok (.invokestatic 91, 3) := by decide +kernel
theorem dX10_joined_129 : decode cX10_joined 129 = .ok (.ireturn, 1) := by decide +kernel
theorem dX10_joined_130 : decode cX10_joined 130 = .ok (.iload_n 1, 1) := by decide +kernel
theorem dX10_joined_131 : decode cX10_joined 131 = .ok (.iload_n 2, 1) := by decide +kernel
theorem dX10_joined_132 : decode cX10_joined 132 = .ok (.if_icmp .ne 7, 3) := by decide +kernel
theorem dX10_joined_135 : decode cX10_joined 135 = .ok (.iconst 1, 1) := by decide +kernel
theorem dX10_joined_136 : decode cX10_joined 136 = .ok (.goto 4, 3) := by decide +kernel
theorem dX10_joined_139 : decode cX10_joined 139 = .ok (.iconst 0, 1) := by decide +kernel
theorem dX10_joined_140 : decode cX10_joined 140 = .ok (.invokestatic 91, 3) := by decide +kernel
theorem dX10_joined_143 : decode cX10_joined 143 = .ok (.ireturn, 1) := by decide +kernel
theorem dX10_joined_144 : decode cX10_joined 144 = .ok (.iload_n 1, 1) := by decide +kernel
theorem dX10_joined_145 : decode cX10_joined 145 = .ok (.iload_n 2, 1) := by decide +kernel
theorem dX10_joined_146 : decode cX10_joined 146 = .ok (.iadd, 1) := by decide +kernel
theorem dX10_joined_147 : decode cX10_joined 147 = .ok (.ireturn, 1) := by decide +kernel
theorem dX10_joined_148 : decode cX10_joined 148 = .ok (.iload_n 1, 1) := by decide +kernel
theorem dX10_joined_149 : decode cX10_joined 149 = .ok (.iload_n 2, 1) := by decide +kernel
theorem dX10_joined_150 : decode cX10_joined 150 = .ok (.isub, 1) := by decide +kernel
theorem dX10_joined_151 : decode cX10_joined 151 = .ok (.ireturn, 1) := by decide +kernel
theorem dX10_joined_152 : decode cX10_joined 152 = .ok (.iload_n 1, 1) := by decide +kernel
theorem dX10_joined_153 : decode cX10_joined 153 = .ok (.iload_n 2, 1) := by decide +kernel
theorem dX10_joined_154 : decode cX10_joined 154 = .ok (.imul, 1) := by decide +kernel
theorem dX10_joined_155 : decode cX10_joined 155 = .ok (.ireturn, 1) := by decide +kernel
theorem dX10_joined_68 : decode cX10_joined 68 = .ok (.iload_n 1, 1) := by decide +kernel
theorem dX10_joined_69 : decode cX10_joined 69 = .ok (.ifCond .ne 7, 3) := by decide +kernel
theorem dX10_joined_72 : decode cX10_joined 72 = .ok (.iload_n 2, 1) := by decide +kernel
theorem dX10_joined_73 : decode cX10_joined 73 = .ok (.ifCond .eq 7, 3) := by decide +kernel
theorem dX10_joined_76 : decode cX10_joined 76 = .ok (.iconst 1, 1) := by decide +kernel
theorem dX10_joined_77 : decode cX10_joined 77 = .ok (.goto 4, 3) := by decide +kernel
theorem dX10_joined_80 : decode cX10_joined 80 = .ok (.iconst 0, 1) := by decide +kernel
theorem dX10_joined_81 : decode cX10_joined 81 = .ok (.invokestatic 91, 3) := by decide +kernel
theorem dX10_joined_84 : decode cX10_joined 84 = .ok (.ireturn, 1) := by decide +kernel
theorem dX10_joined_85 : decode cX10_joined 85 = .ok (.iload_n 1, 1) := by decide +kernel
theorem dX10_joined_86 : decode cX10_joined 86 = .ok (.ifCond .eq 11, 3) := by decide +kernel
theorem dX10_joined_89 : decode cX10_joined 89 = .ok (.iload_n 2, 1) := by decide +kernel
theorem dX10_joined_90 : decode cX10_joined 90 = .ok (.ifCond .eq 7, 3) := by decide +kernel
theorem dX10_joined_93 : decode cX10_joined 93 = .ok (.iconst 1, 1) := by decide +kernel
theorem dX10_joined_94 : decode cX10_joined 94 = .ok (.goto 4, 3) := by decide +kernel
theorem dX10_joined_97 : decode cX10_joined 97 = .ok (.iconst 0, 1) := by decide +kernel
theorem dX10_joined_98 : decode cX10_joined 98 = .ok (.invokestatic 91, 3) := by decide +kernel
theorem dX10_thing_0 : decode cX10_thing 0 = .ok (.iload_n 1, 1) := by decide +kernel
theorem dX10_thing_1 : decode cX10_thing 1 = .ok (.sipush 10000, 3) := by decide +kernel
theorem dX10_thing_11 : decode cX10_thing 11 = .ok (.aload_n 0, 1) := by decide +kernel
theorem dX10_thing_12 : decode cX10_thing 12 = .ok (.getfield 21, 3) := by decide +kernel
theorem dX10_thing_15 : decode cX10_thing 15 = .ok (.iload_n 1, 1) := by decide +kernel
theorem dX10_thing_16 : decode cX10_thing 16 = .ok (.sipush 10000, 3) := by decide +kernel
theorem dX10_thing_19 : decode cX10_thing 19 = .ok (.isub, 1) := by decide +kernel
theorem dX10_thing_20 : decode cX10_thing 20 = .ok (.bipush 7, 2) := by decide +kernel
theorem dX10_thing_22 : decode cX10_thing 22 = .ok (.iand, 1) := by decide +kernel
theorem dX10_thing_23 : decode cX10_thing 23 = .ok (.iaload, 1) := by decide +kernel
theorem dX10_thing_24 : decode cX10_thing 24 = .ok (.ireturn, 1) := by decide +kernel
theorem dX10_thing_4 : decode cX10_thing 4 = .ok (.if_icmp .ge 7, 3) := by decide +kernel
theorem dX10_thing_7 : decode cX10_thing 7 = .ok (.iload_n 1, 1) := by decide +kernel
theorem dX10_thing_8 : decode cX10_thing 8 = .ok (.goto 16, 3) := by decide +kernel
theorem dX10_truth_0 : decode cX10_truth 0 = .ok (.iload_n 0, 1) := by decide +kernel
theorem dX10_truth_1 : decode cX10_truth 1 = .ok (.ifCond .eq 7, 3) := by decide +kernel
theorem dX10_truth_4 : decode cX10_truth 4 = .ok (.iconst 1, 1) := by decide +kernel
theorem dX10_truth_5 : decode cX10_truth 5 = .ok (.goto 4, 3) := by decide +kernel
theorem dX10_truth_8 : decode cX10_truth 8 = .ok (.iconst 0, 1) := by decide +kernel
theorem dX10_truth_9 : decode cX10_truth 9 = .ok (.ireturn, 1) := by decide +kernel
theorem dX11_minutesFor_0 : decode cX11_minutesFor 0 = .ok (.iload_n 1, 1) := by decide +kernel
theorem dX11_minutesFor_1 : decode cX11_minutesFor 1 = .ok (.iconst 1, 1) := by decide +kernel
theorem dX11_minutesFor_10 : decode cX11_minutesFor 10 = .ok (.iload_n 1, 1) := by decide +kernel
theorem dX11_minutesFor_11 : decode cX11_minutesFor 11 = .ok (.iadd, 1) := by decide +kernel
theorem dX11_minutesFor_12 : decode cX11_minutesFor 12 = .ok (.iconst 1, 1) := by decide +kernel
theorem dX11_minutesFor_13 : decode cX11_minutesFor 13 = .ok (.isub, 1) := by decide +kernel
theorem dX11_minutesFor_14 : decode cX11_minutesFor 14 = .ok (.iload_n 1, 1) := by decide +kernel
theorem dX11_minutesFor_15 : decode cX11_minutesFor 15 = .ok (.idiv, 1) := by decide +kernel
theorem dX11_minutesFor_16 : decode cX11_minutesFor 16 = .ok (.ireturn, 1) := by decide +kernel
theorem dX11_minutesFor_2 : decode cX11_minutesFor 2 = .ok (.if_icmp .ge 7, 3) := by decide +kernel
theorem dX11_minutesFor_5 : decode cX11_minutesFor 5 = .ok (.iconst 1, 1) := by decide +kernel
theorem dX11_minutesFor_6 : decode cX11_minutesFor 6 = .ok (.goto 10, 3) := by decide +kernel
theorem dX11_minutesFor_9 : decode cX11_minutesFor 9 = .ok (.iload_n 0, 1) := by decide +kernel
theorem dX11_within_0 : decode cX11_within 0 = .ok (.iload_n 0, 1) := by decide +kernel
theorem dX11_within_1 : decode cX11_within 1 = .ok (.iload_n 1, 1) := by decide +kernel
theorem dX11_within_10 : decode cX11_within 10 = .ok (.iconst 1, 1) := by decide +kernel
theorem dX11_within_11 : decode cX11_within 11 = .ok (.goto 4, 3) := by decide +kernel
theorem dX11_within_14 : decode cX11_within 14 = .ok (.iconst 0, 1) := by decide +kernel
theorem dX11_within_15 : decode cX11_within 15 = .ok (.ireturn, 1) := by decide +kernel
theorem dX11_within_2 : decode cX11_within 2 = .ok (.if_icmp .lt 12, 3) := by decide +kernel
theorem dX11_within_5 : decode cX11_within 5 = .ok (.iload_n 0, 1) := by decide +kernel
theorem dX11_within_6 : decode cX11_within 6 = .ok (.iload_n 2, 1) := by decide +kernel
theorem dX11_within_7 : decode cX11_within 7 = .ok (.if_icmp .gt 7, 3) := by decide +kernel
theorem dX1_awayMask_0 : decode cX1_awayMask 0 = .ok (.iconst 0, 1) := by decide +kernel
theorem dX1_awayMask_1 : decode cX1_awayMask 1 = .ok (.istore_n 2, 1) := by decide +kernel
theorem dX1_awayMask_12 : decode cX1_awayMask 12 = .ok (.aload_n 0, 1) := by decide +kernel
theorem dX1_awayMask_13 : decode cX1_awayMask 13 = .ok (.getfield 39, 3) := by decide +kernel
theorem dX1_awayMask_16 : decode cX1_awayMask 16 = .ok (.iload_n 3, 1) := by decide +kernel
theorem dX1_awayMask_17 : decode cX1_awayMask 17 = .ok (.aaload, 1) := by decide +kernel
theorem dX1_awayMask_18 : decode cX1_awayMask 18 = .ok (.astore 4, 2) := by decide +kernel
theorem dX1_awayMask_2 : decode cX1_awayMask 2 = .ok (.iconst 0, 1) := by decide +kernel
theorem dX1_awayMask_20 : decode cX1_awayMask 20 = .ok (.aload 4, 2) := by decide +kernel
theorem dX1_awayMask_22 : decode cX1_awayMask 22 = .ok (.getfield 46, 3) := by decide +kernel
theorem dX1_awayMask_25 : decode cX1_awayMask 25 = .ok (.iload_n 1, 1) := by decide +kernel
theorem dX1_awayMask_26 : decode cX1_awayMask 26 = .ok (.if_icmp .gt 22, 3) := by decide +kernel
theorem dX1_awayMask_29 : decode cX1_awayMask 29 = .ok (.iload_n 1, 1) := by decide +kernel
theorem dX1_awayMask_3 : decode cX1_awayMask 3 = .ok (.istore_n 3, 1) := by decide +kernel
theorem dX1_awayMask_30 : decode cX1_awayMask 30 = .ok (.aload 4, 2) := by decide +kernel
theorem dX1_awayMask_32 : decode cX1_awayMask 32 = .ok (.getfield 49, 3) := by decide +kernel
theorem dX1_awayMask_35 : decode cX1_awayMask 35 = .ok (.if_icmp .ge 13, 3) := by decide +kernel
theorem dX1_awayMask_38 : decode cX1_awayMask 38 = .ok (.iload_n 2, 1) := by decide +kernel
theorem dX1_awayMask_39 : decode cX1_awayMask 39 = .ok (.iconst 1, 1) := by decide +kernel
theorem dX1_awayMask_4 : decode cX1_awayMask 4 = .ok (.iload_n 3, 1) := by decide +kernel
theorem dX1_awayMask_40 : decode cX1_awayMask 40 = .ok (.aload 4, 2) := by decide +kernel
theorem dX1_awayMask_42 : decode cX1_awayMask 42 = .ok (.getfield 52, 3) := by decide +kernel
theorem dX1_awayMask_45 : decode cX1_awayMask 45 = .ok (.ishl, 1) := by decide +kernel
theorem dX1_awayMask_46 : decode cX1_awayMask 46 = .ok (.ior, 1) := by decide +kernel
theorem dX1_awayMask_47 : decode cX1_awayMask 47 = .ok (.istore_n 2, 1) := by decide +kernel
theorem dX1_awayMask_48 : decode cX1_awayMask 48 = .ok (.iinc 3 1, 3) := by decide +kernel
theorem dX1_awayMask_5 : decode cX1_awayMask 5 = .ok (.aload_n 0, 1) := by decide +kernel
theorem dX1_awayMask_51 : decode cX1_awayMask 51 = .ok (.goto (-47), 3) := by decide +kernel
theorem dX1_awayMask_54 : decode cX1_awayMask 54 = .ok (.iload_n 2, 1) := by decide +kernel
theorem dX1_awayMask_55 : decode cX1_awayMask 55 = .ok (.ireturn, 1) := by decide +kernel
theorem dX1_awayMask_6 : decode cX1_awayMask 6 = .ok (.getfield 43, 3) := by decide +kernel
theorem dX1_awayMask_9 : decode cX1_awayMask 9 = .ok (.if_icmp .ge 45, 3) := by decide +kernel
theorem dX1_changeBehind_0 : decode cX1_changeBehind 0 = .ok (.iload_n 2, 1) := by decide +kernel
theorem dX1_changeBehind_1 : decode cX1_changeBehind 1 = .ok (.istore_n 3, 1) := by decide +kernel
theorem dX1_changeBehind_11 : decode cX1_changeBehind 11 = .ok (.if_icmp .ge 25, 3) := by decide +kernel
theorem dX1_changeBehind_14 : decode cX1_changeBehind 14 = .ok (.iload_n 1, 1) := by decide +kernel
theorem dX1_changeBehind_15 : decode cX1_changeBehind 15 = .ok (.aload_n 0, 1) := by decide +kernel
theorem dX1_changeBehind_16 : decode cX1_changeBehind 16 = .ok (.getfield 30, 3) := by decide +kernel
theorem dX1_changeBehind_19 : decode cX1_changeBehind 19 = .ok (.iload 4, 2) := by decide +kernel
theorem dX1_changeBehind_2 : decode cX1_changeBehind 2 = .ok (.iconst 0, 1) := by decide +kernel
theorem dX1_changeBehind_21 : decode cX1_changeBehind 21 = .ok (.aaload, 1) := by decide +kernel
theorem dX1_changeBehind_22 : decode cX1_changeBehind 22 = .ok (.getfield 55, 3) := by decide +kernel
theorem dX1_changeBehind_25 : decode cX1_changeBehind 25 = .ok (.iload_n 3, 1) := by decide +kernel
theorem dX1_changeBehind_26 : decode cX1_changeBehind 26 = .ok (.invokestatic 58, 3) := by decide +kernel
theorem dX1_changeBehind_29 : decode cX1_changeBehind 29 = .ok (.istore_n 3, 1) := by decide +kernel
theorem dX1_changeBehind_3 : decode cX1_changeBehind 3 = .ok (.istore 4, 2) := by decide +kernel
theorem dX1_changeBehind_30 : decode cX1_changeBehind 30 = .ok (.iinc 4 1, 3) := by decide +kernel
theorem dX1_changeBehind_33 : decode cX1_changeBehind 33 = .ok (.goto (-28), 3) := by decide +kernel
theorem dX1_changeBehind_36 : decode cX1_changeBehind 36 = .ok (.iconst 0, 1) := by decide +kernel
theorem dX1_changeBehind_37 : decode cX1_changeBehind 37 = .ok (.istore 4, 2) := by decide +kernel
theorem dX1_changeBehind_39 : decode cX1_changeBehind 39 = .ok (.iload 4, 2) := by decide +kernel
theorem dX1_changeBehind_41 : decode cX1_changeBehind 41 = .ok (.aload_n 0, 1) := by decide +kernel
theorem dX1_changeBehind_42 : decode cX1_changeBehind 42 = .ok (.getfield 43, 3) := by decide +kernel
theorem dX1_changeBehind_45 : decode cX1_changeBehind 45 = .ok (.if_icmp .ge 41, 3) := by decide +kernel
theorem dX1_changeBehind_48 : decode cX1_changeBehind 48 = .ok (.iload_n 1, 1) := by decide +kernel
theorem dX1_changeBehind_49 : decode cX1_changeBehind 49 = .ok (.aload_n 0, 1) := by decide +kernel
theorem dX1_changeBehind_5 : decode cX1_changeBehind 5 = .ok (.iload 4, 2) := by decide +kernel
theorem dX1_changeBehind_50 : decode cX1_changeBehind 50 = .ok (.getfield 39, 3) := by decide +kernel
theorem dX1_changeBehind_53 : decode cX1_changeBehind 53 = .ok (.iload 4, 2) := by decide +kernel
theorem dX1_changeBehind_55 : decode cX1_changeBehind 55 = .ok (.aaload, 1) := by decide +kernel
theorem dX1_changeBehind_56 : decode cX1_changeBehind 56 = .ok (.getfield 46, 3) := by decide +kernel
theorem dX1_changeBehind_59 : decode cX1_changeBehind 59 = .ok (.iload_n 3, 1) := by decide +kernel
theorem dX1_changeBehind_60 : decode cX1_changeBehind 60 = .ok (.invokestatic 58, 3) := by decide +kernel
theorem dX1_changeBehind_63 : decode cX1_changeBehind 63 = .ok (.istore_n 3, 1) := by decide +kernel
theorem dX1_changeBehind_64 : decode cX1_changeBehind 64 = .ok (.iload_n 1, 1) := by decide +kernel
theorem dX1_changeBehind_65 : decode cX1_changeBehind 65 = .ok (.aload_n 0, 1) := by decide +kernel
theorem dX1_changeBehind_66 : decode cX1_changeBehind 66 = .ok (.getfield 39, 3) := by decide +kernel
theorem dX1_changeBehind_69 : decode cX1_changeBehind 69 = .ok (.iload 4, 2) := by decide +kernel
theorem dX1_changeBehind_7 : decode cX1_changeBehind 7 = .ok (.aload_n 0, 1) := by decide +kernel
theorem dX1_changeBehind_71 : decode cX1_changeBehind 71 = .ok (.aaload, 1) := by decide +kernel
theorem dX1_changeBehind_72 : decode cX1_changeBehind 72 = .ok (.getfield 49, 3) := by decide +kernel
theorem dX1_changeBehind_75 : decode cX1_changeBehind 75 = .ok (.iload_n 3, 1) := by decide +kernel
theorem dX1_changeBehind_76 : decode cX1_changeBehind 76 = .ok (.invokestatic 58, 3) := by decide +kernel
theorem dX1_changeBehind_79 : decode cX1_changeBehind 79 = .ok (.istore_n 3, 1) := by decide +kernel
theorem dX1_changeBehind_8 : decode cX1_changeBehind 8 = .ok (.getfield 34, 3) := by decide +kernel
theorem dX1_changeBehind_80 : decode cX1_changeBehind 80 = .ok (.iinc 4 1, 3) := by decide +kernel
theorem dX1_changeBehind_83 : decode cX1_changeBehind 83 = .ok (.goto (-44), 3) := by decide +kernel
theorem dX1_changeBehind_86 : decode cX1_changeBehind 86 = .ok (.iload_n 3, 1) := by decide +kernel
theorem dX1_changeBehind_87 : decode cX1_changeBehind 87 = .ok (.ireturn, 1) := by decide +kernel
theorem dX1_earlierBehind_0 : decode cX1_earlierBehind 0 = .ok (.iload_n 1, 1) := by decide +kernel
theorem dX1_earlierBehind_1 : decode cX1_earlierBehind 1 = .ok (.iload_n 0, 1) := by decide +kernel
theorem dX1_earlierBehind_10 : decode cX1_earlierBehind 10 = .ok (.iload_n 1, 1) := by decide +kernel
theorem dX1_earlierBehind_11 : decode cX1_earlierBehind 11 = .ok (.goto 4, 3) := by decide +kernel
theorem dX1_earlierBehind_14 : decode cX1_earlierBehind 14 = .ok (.iload_n 2, 1) := by decide +kernel
theorem dX1_earlierBehind_15 : decode cX1_earlierBehind 15 = .ok (.ireturn, 1) := by decide +kernel
theorem dX1_earlierBehind_2 : decode cX1_earlierBehind 2 = .ok (.if_icmp .le 12, 3) := by decide +kernel
theorem dX1_earlierBehind_5 : decode cX1_earlierBehind 5 = .ok (.iload_n 1, 1) := by decide +kernel
theorem dX1_earlierBehind_6 : decode cX1_earlierBehind 6 = .ok (.iload_n 2, 1) := by decide +kernel
theorem dX1_earlierBehind_7 : decode cX1_earlierBehind 7 = .ok (.if_icmp .ge 7, 3) := by decide +kernel
theorem dX1_hasHand_0 : decode cX1_hasHand 0 = .ok (.iload_n 1, 1) := by decide +kernel
theorem dX1_hasHand_1 : decode cX1_hasHand 1 = .ok (.ifCond .lt 15, 3) := by decide +kernel
theorem dX1_hasHand_12 : decode cX1_hasHand 12 = .ok (.iconst 1, 1) := by decide +kernel
theorem dX1_hasHand_13 : decode cX1_hasHand 13 = .ok (.goto 4, 3) := by decide +kernel
theorem dX1_hasHand_16 : decode cX1_hasHand 16 = .ok (.iconst 0, 1) := by decide +kernel
theorem dX1_hasHand_17 : decode cX1_hasHand 17 = .ok (.ireturn, 1) := by decide +kernel
theorem dX1_hasHand_4 : decode cX1_hasHand 4 = .ok (.iload_n 1, 1) := by decide +kernel
theorem dX1_hasHand_5 : decode cX1_hasHand 5 = .ok (.aload_n 0, 1) := by decide +kernel
theorem dX1_hasHand_6 : decode cX1_hasHand 6 = .ok (.getfield 25, 3) := by decide +kernel
theorem dX1_hasHand_9 : decode cX1_hasHand 9 = .ok (.if_icmp .ge 7, 3) := by decide +kernel
theorem dX1_hasPiece_0 : decode cX1_hasPiece 0 = .ok (.iload_n 1, 1) := by decide +kernel
theorem dX1_hasPiece_1 : decode cX1_hasPiece 1 = .ok (.ifCond .lt 15, 3) := by decide +kernel
theorem dX1_hasPiece_12 : decode cX1_hasPiece 12 = .ok (.iconst 1, 1) := by decide +kernel
theorem dX1_hasPiece_13 : decode cX1_hasPiece 13 = .ok (.goto 4, 3) := by decide +kernel
theorem dX1_hasPiece_16 : decode cX1_hasPiece 16 = .ok (.iconst 0, 1) := by decide +kernel
theorem dX1_hasPiece_17 : decode cX1_hasPiece 17 = .ok (.ireturn, 1) := by decide +kernel
theorem dX1_hasPiece_4 : decode cX1_hasPiece 4 = .ok (.iload_n 1, 1) := by decide +kernel
theorem dX1_hasPiece_5 : decode cX1_hasPiece 5 = .ok (.aload_n 0, 1) := by decide +kernel
theorem dX1_hasPiece_6 : decode cX1_hasPiece 6 = .ok (.getfield 34, 3) := by decide +kernel
theorem dX1_hasPiece_9 : decode cX1_hasPiece 9 = .ok (.if_icmp .ge 7, 3) := by decide +kernel
theorem dX1_minuteAfterWork_0 : decode cX1_minuteAfterWork 0 = .ok (.iload_n 2, 1) := by decide +kernel
theorem dX1_minuteAfterWork_1 : decode cX1_minuteAfterWork 1 = .ok (.istore 4, 2) := by decide +kernel
theorem dX1_minuteAfterWork_100 : decode cX1_minuteAfterWork 100 = .ok (.iinc 6 1, 3) := by decide +kernel
theorem dX1_minuteAfterWork_103 : decode cX1_minuteAfterWork 103 = .ok (.goto (-94), 3) := by decide +kernel
theorem dX1_minuteAfterWork_106 : decode cX1_minuteAfterWork 106 = .ok (.iload 4, 2) := by decide +kernel
theorem dX1_minuteAfterWork_108 : decode cX1_minuteAfterWork 108 = .ok (.iload 5, 2) := by decide +kernel
theorem dX1_minuteAfterWork_11 : decode cX1_minuteAfterWork 11 = .ok (.aload_n 0, 1) := by decide +kernel
theorem dX1_minuteAfterWork_110 : decode cX1_minuteAfterWork 110 = .ok (.iadd, 1) := by decide +kernel
theorem dX1_minuteAfterWork_111 : decode cX1_minuteAfterWork 111 = .ok (.ireturn, 1) := by decide +kernel
theorem dX1_minuteAfterWork_12 : decode cX1_minuteAfterWork 12 = .ok (.getfield 43, 3) := by decide +kernel
theorem dX1_minuteAfterWork_15 : decode cX1_minuteAfterWork 15 = .ok (.if_icmp .ge 91, 3) := by decide +kernel
theorem dX1_minuteAfterWork_18 : decode cX1_minuteAfterWork 18 = .ok (.aload_n 0, 1) := by decide +kernel
theorem dX1_minuteAfterWork_19 : decode cX1_minuteAfterWork 19 = .ok (.getfield 39, 3) := by decide +kernel
theorem dX1_minuteAfterWork_22 : decode cX1_minuteAfterWork 22 = .ok (.iload 6, 2) := by decide +kernel
theorem dX1_minuteAfterWork_24 : decode cX1_minuteAfterWork 24 = .ok (.aaload, 1) := by decide +kernel
theorem dX1_minuteAfterWork_25 : decode cX1_minuteAfterWork 25 = .ok (.astore 7, 2) := by decide +kernel
theorem dX1_minuteAfterWork_27 : decode cX1_minuteAfterWork 27 = .ok (.aload 7, 2) := by decide +kernel
theorem dX1_minuteAfterWork_29 : decode cX1_minuteAfterWork 29 = .ok (.getfield 52, 3) := by decide +kernel
theorem dX1_minuteAfterWork_3 : decode cX1_minuteAfterWork 3 = .ok (.iload_n 3, 1) := by decide +kernel
theorem dX1_minuteAfterWork_32 : decode cX1_minuteAfterWork 32 = .ok (.iload_n 1, 1) := by decide +kernel
theorem dX1_minuteAfterWork_33 : decode cX1_minuteAfterWork 33 = .ok (.if_icmp .ne 67, 3) := by decide +kernel
theorem dX1_minuteAfterWork_36 : decode cX1_minuteAfterWork 36 = .ok (.aload 7, 2) := by decide +kernel
theorem dX1_minuteAfterWork_38 : decode cX1_minuteAfterWork 38 = .ok (.getfield 49, 3) := by decide +kernel
theorem dX1_minuteAfterWork_4 : decode cX1_minuteAfterWork 4 = .ok (.istore 5, 2) := by decide +kernel
theorem dX1_minuteAfterWork_41 : decode cX1_minuteAfterWork 41 = .ok (.iload 4, 2) := by decide +kernel
theorem dX1_minuteAfterWork_43 : decode cX1_minuteAfterWork 43 = .ok (.if_icmp .gt 6, 3) := by decide +kernel
theorem dX1_minuteAfterWork_46 : decode cX1_minuteAfterWork 46 = .ok (.goto 54, 3) := by decide +kernel
theorem dX1_minuteAfterWork_49 : decode cX1_minuteAfterWork 49 = .ok (.aload 7, 2) := by decide +kernel
theorem dX1_minuteAfterWork_51 : decode cX1_minuteAfterWork 51 = .ok (.getfield 46, 3) := by decide +kernel
theorem dX1_minuteAfterWork_54 : decode cX1_minuteAfterWork 54 = .ok (.iload 4, 2) := by decide +kernel
theorem dX1_minuteAfterWork_56 : decode cX1_minuteAfterWork 56 = .ok (.if_icmp .le 14, 3) := by decide +kernel
theorem dX1_minuteAfterWork_59 : decode cX1_minuteAfterWork 59 = .ok (.aload 7, 2) := by decide +kernel
theorem dX1_minuteAfterWork_6 : decode cX1_minuteAfterWork 6 = .ok (.iconst 0, 1) := by decide +kernel
theorem dX1_minuteAfterWork_61 : decode cX1_minuteAfterWork 61 = .ok (.getfield 46, 3) := by decide +kernel
theorem dX1_minuteAfterWork_64 : decode cX1_minuteAfterWork 64 = .ok (.iload 4, 2) := by decide +kernel
theorem dX1_minuteAfterWork_66 : decode cX1_minuteAfterWork 66 = .ok (.isub, 1) := by decide +kernel
theorem dX1_minuteAfterWork_67 : decode cX1_minuteAfterWork 67 = .ok (.goto 4, 3) := by decide +kernel
theorem dX1_minuteAfterWork_7 : decode cX1_minuteAfterWork 7 = .ok (.istore 6, 2) := by decide +kernel
theorem dX1_minuteAfterWork_70 : decode cX1_minuteAfterWork 70 = .ok (.iconst 0, 1) := by decide +kernel
theorem dX1_minuteAfterWork_71 : decode cX1_minuteAfterWork 71 = .ok (.istore 8, 2) := by decide +kernel
theorem dX1_minuteAfterWork_73 : decode cX1_minuteAfterWork 73 = .ok (.iload 8, 2) := by decide +kernel
theorem dX1_minuteAfterWork_75 : decode cX1_minuteAfterWork 75 = .ok (.iload 5, 2) := by decide +kernel
theorem dX1_minuteAfterWork_77 : decode cX1_minuteAfterWork 77 = .ok (.if_icmp .lt 9, 3) := by decide +kernel
theorem dX1_minuteAfterWork_80 : decode cX1_minuteAfterWork 80 = .ok (.iload 4, 2) := by decide +kernel
theorem dX1_minuteAfterWork_82 : decode cX1_minuteAfterWork 82 = .ok (.iload 5, 2) := by decide +kernel
theorem dX1_minuteAfterWork_84 : decode cX1_minuteAfterWork 84 = .ok (.iadd, 1) := by decide +kernel
theorem dX1_minuteAfterWork_85 : decode cX1_minuteAfterWork 85 = .ok (.ireturn, 1) := by decide +kernel
theorem dX1_minuteAfterWork_86 : decode cX1_minuteAfterWork 86 = .ok (.iload 5, 2) := by decide +kernel
theorem dX1_minuteAfterWork_88 : decode cX1_minuteAfterWork 88 = .ok (.iload 8, 2) := by decide +kernel
theorem dX1_minuteAfterWork_9 : decode cX1_minuteAfterWork 9 = .ok (.iload 6, 2) := by decide +kernel
theorem dX1_minuteAfterWork_90 : decode cX1_minuteAfterWork 90 = .ok (.isub, 1) := by decide +kernel
theorem dX1_minuteAfterWork_91 : decode cX1_minuteAfterWork 91 = .ok (.istore 5, 2) := by decide +kernel
theorem dX1_minuteAfterWork_93 : decode cX1_minuteAfterWork 93 = .ok (.aload 7, 2) := by decide +kernel
theorem dX1_minuteAfterWork_95 : decode cX1_minuteAfterWork 95 = .ok (.getfield 49, 3) := by decide +kernel
theorem dX1_minuteAfterWork_98 : decode cX1_minuteAfterWork 98 = .ok (.istore 4, 2) := by decide +kernel
theorem dX1_postFrom_0 : decode cX1_postFrom 0 = .ok (.iload_n 1, 1) := by decide +kernel
theorem dX1_postFrom_1 : decode cX1_postFrom 1 = .ok (.iload_n 1, 1) := by decide +kernel
theorem dX1_postFrom_10 : decode cX1_postFrom 10 = .ok (.iconst 0, 1) := by decide +kernel
theorem dX1_postFrom_11 : decode cX1_postFrom 11 = .ok (.istore 4, 2) := by decide +kernel
theorem dX1_postFrom_13 : decode cX1_postFrom 13 = .ok (.iload 4, 2) := by decide +kernel
theorem dX1_postFrom_15 : decode cX1_postFrom 15 = .ok (.aload_n 0, 1) := by decide +kernel
theorem dX1_postFrom_16 : decode cX1_postFrom 16 = .ok (.getfield 15, 3) := by decide +kernel
theorem dX1_postFrom_19 : decode cX1_postFrom 19 = .ok (.if_icmp .ge 46, 3) := by decide +kernel
theorem dX1_postFrom_2 : decode cX1_postFrom 2 = .ok (.sipush 480, 3) := by decide +kernel
theorem dX1_postFrom_22 : decode cX1_postFrom 22 = .ok (.iload_n 2, 1) := by decide +kernel
theorem dX1_postFrom_23 : decode cX1_postFrom 23 = .ok (.aload_n 0, 1) := by decide +kernel
theorem dX1_postFrom_24 : decode cX1_postFrom 24 = .ok (.getfield 9, 3) := by decide +kernel
theorem dX1_postFrom_27 : decode cX1_postFrom 27 = .ok (.iload 4, 2) := by decide +kernel
theorem dX1_postFrom_29 : decode cX1_postFrom 29 = .ok (.iaload, 1) := by decide +kernel
theorem dX1_postFrom_30 : decode cX1_postFrom 30 = .ok (.iadd, 1) := by decide +kernel
theorem dX1_postFrom_31 : decode cX1_postFrom 31 = .ok (.istore 5, 2) := by decide +kernel
theorem dX1_postFrom_33 : decode cX1_postFrom 33 = .ok (.iload 5, 2) := by decide +kernel
theorem dX1_postFrom_35 : decode cX1_postFrom 35 = .ok (.iload_n 1, 1) := by decide +kernel
theorem dX1_postFrom_36 : decode cX1_postFrom 36 = .ok (.if_icmp .ge 9, 3) := by decide +kernel
theorem dX1_postFrom_39 : decode cX1_postFrom 39 = .ok (.iinc 5 480, 6) := by decide +kernel
theorem dX1_postFrom_45 : decode cX1_postFrom 45 = .ok (.iload_n 3, 1) := by decide +kernel
theorem dX1_postFrom_46 : decode cX1_postFrom 46 = .ok (.iconst (-1), 1) := by decide +kernel
theorem dX1_postFrom_47 : decode cX1_postFrom 47 = .ok (.if_icmp .eq 9, 3) := by decide +kernel
theorem dX1_postFrom_5 : decode cX1_postFrom 5 = .ok (.irem, 1) := by decide +kernel
theorem dX1_postFrom_50 : decode cX1_postFrom 50 = .ok (.iload 5, 2) := by decide +kernel
theorem dX1_postFrom_52 : decode cX1_postFrom 52 = .ok (.iload_n 3, 1) := by decide +kernel
theorem dX1_postFrom_53 : decode cX1_postFrom 53 = .ok (.if_icmp .ge 6, 3) := by decide +kernel
theorem dX1_postFrom_56 : decode cX1_postFrom 56 = .ok (.iload 5, 2) := by decide +kernel
theorem dX1_postFrom_58 : decode cX1_postFrom 58 = .ok (.istore_n 3, 1) := by decide +kernel
theorem dX1_postFrom_59 : decode cX1_postFrom 59 = .ok (.iinc 4 1, 3) := by decide +kernel
theorem dX1_postFrom_6 : decode cX1_postFrom 6 = .ok (.isub, 1) := by decide +kernel
theorem dX1_postFrom_62 : decode cX1_postFrom 62 = .ok (.goto (-49), 3) := by decide +kernel
theorem dX1_postFrom_65 : decode cX1_postFrom 65 = .ok (.iload_n 3, 1) := by decide +kernel
theorem dX1_postFrom_66 : decode cX1_postFrom 66 = .ok (.ireturn, 1) := by decide +kernel
theorem dX1_postFrom_7 : decode cX1_postFrom 7 = .ok (.istore_n 2, 1) := by decide +kernel
theorem dX1_postFrom_8 : decode cX1_postFrom 8 = .ok (.iconst (-1), 1) := by decide +kernel
theorem dX1_postFrom_9 : decode cX1_postFrom 9 = .ok (.istore_n 3, 1) := by decide +kernel
theorem dX3_changeFrom_0 : decode cX3_changeFrom 0 = .ok (.aload_n 0, 1) := by decide +kernel
theorem dX3_changeFrom_1 : decode cX3_changeFrom 1 = .ok (.getfield 9, 3) := by decide +kernel
theorem dX3_changeFrom_101 : decode cX3_changeFrom 101 = .ok (.iload 4, 2) := by decide +kernel
theorem dX3_changeFrom_103 : decode cX3_changeFrom 103 = .ok (.ireturn, 1) := by decide +kernel
theorem dX3_changeFrom_11 : decode cX3_changeFrom 11 = .ok (.irem, 1) := by decide +kernel
theorem dX3_changeFrom_12 : decode cX3_changeFrom 12 = .ok (.isub, 1) := by decide +kernel
theorem dX3_changeFrom_13 : decode cX3_changeFrom 13 = .ok (.sipush 480, 3) := by decide +kernel
theorem dX3_changeFrom_16 : decode cX3_changeFrom 16 = .ok (.iadd, 1) := by decide +kernel
theorem dX3_changeFrom_17 : decode cX3_changeFrom 17 = .ok (.istore_n 3, 1) := by decide +kernel
theorem dX3_changeFrom_18 : decode cX3_changeFrom 18 = .ok (.aload_n 0, 1) := by decide +kernel
theorem dX3_changeFrom_19 : decode cX3_changeFrom 19 = .ok (.getfield 43, 3) := by decide +kernel
theorem dX3_changeFrom_22 : decode cX3_changeFrom 22 = .ok (.aload_n 0, 1) := by decide +kernel
theorem dX3_changeFrom_23 : decode cX3_changeFrom 23 = .ok (.getfield 9, 3) := by decide +kernel
theorem dX3_changeFrom_26 : decode cX3_changeFrom 26 = .ok (.iload_n 2, 1) := by decide +kernel
theorem dX3_changeFrom_27 : decode cX3_changeFrom 27 = .ok (.iload_n 3, 1) := by decide +kernel
theorem dX3_changeFrom_28 : decode cX3_changeFrom 28 = .ok (.invokestatic 126, 3) := by decide +kernel
theorem dX3_changeFrom_31 : decode cX3_changeFrom 31 = .ok (.invokevirtual 129, 3) := by decide +kernel
theorem dX3_changeFrom_34 : decode cX3_changeFrom 34 = .ok (.istore 4, 2) := by decide +kernel
theorem dX3_changeFrom_36 : decode cX3_changeFrom 36 = .ok (.iconst 0, 1) := by decide +kernel
theorem dX3_changeFrom_37 : decode cX3_changeFrom 37 = .ok (.istore 5, 2) := by decide +kernel
theorem dX3_changeFrom_39 : decode cX3_changeFrom 39 = .ok (.iload 5, 2) := by decide +kernel
theorem dX3_changeFrom_4 : decode cX3_changeFrom 4 = .ok (.aload_n 0, 1) := by decide +kernel
theorem dX3_changeFrom_41 : decode cX3_changeFrom 41 = .ok (.aload_n 0, 1) := by decide +kernel
theorem dX3_changeFrom_42 : decode cX3_changeFrom 42 = .ok (.getfield 43, 3) := by decide +kernel
theorem dX3_changeFrom_45 : decode cX3_changeFrom 45 = .ok (.getfield 75, 3) := by decide +kernel
theorem dX3_changeFrom_48 : decode cX3_changeFrom 48 = .ok (.if_icmp .ge 53, 3) := by decide +kernel
theorem dX3_changeFrom_5 : decode cX3_changeFrom 5 = .ok (.getfield 9, 3) := by decide +kernel
theorem dX3_changeFrom_51 : decode cX3_changeFrom 51 = .ok (.aload_n 0, 1) := by decide +kernel
theorem dX3_changeFrom_52 : decode cX3_changeFrom 52 = .ok (.iload 5, 2) := by decide +kernel
theorem dX3_changeFrom_54 : decode cX3_changeFrom 54 = .ok (.iload_n 1, 1) := by decide +kernel
theorem dX3_changeFrom_55 : decode cX3_changeFrom 55 = .ok (.invokevirtual 132, 3) := by decide +kernel
theorem dX3_changeFrom_58 : decode cX3_changeFrom 58 = .ok (.ifCond .eq 37, 3) := by decide +kernel
theorem dX3_changeFrom_61 : decode cX3_changeFrom 61 = .ok (.iload 4, 2) := by decide +kernel
theorem dX3_changeFrom_63 : decode cX3_changeFrom 63 = .ok (.aload_n 0, 1) := by decide +kernel
theorem dX3_changeFrom_64 : decode cX3_changeFrom 64 = .ok (.getfield 9, 3) := by decide +kernel
theorem dX3_changeFrom_67 : decode cX3_changeFrom 67 = .ok (.aload_n 0, 1) := by decide +kernel
theorem dX3_changeFrom_68 : decode cX3_changeFrom 68 = .ok (.getfield 37, 3) := by decide +kernel
theorem dX3_changeFrom_71 : decode cX3_changeFrom 71 = .ok (.aload_n 0, 1) := by decide +kernel
theorem dX3_changeFrom_72 : decode cX3_changeFrom 72 = .ok (.getfield 15, 3) := by decide +kernel
theorem dX3_changeFrom_75 : decode cX3_changeFrom 75 = .ok (.iload 5, 2) := by decide +kernel
theorem dX3_changeFrom_77 : decode cX3_changeFrom 77 = .ok (.iaload, 1) := by decide +kernel
theorem dX3_changeFrom_78 : decode cX3_changeFrom 78 = .ok (.iaload, 1) := by decide +kernel
theorem dX3_changeFrom_79 : decode cX3_changeFrom 79 = .ok (.aload_n 0, 1) := by decide +kernel
theorem dX3_changeFrom_8 : decode cX3_changeFrom 8 = .ok (.sipush 480, 3) := by decide +kernel
theorem dX3_changeFrom_80 : decode cX3_changeFrom 80 = .ok (.getfield 19, 3) := by decide +kernel
theorem dX3_changeFrom_83 : decode cX3_changeFrom 83 = .ok (.iload 5, 2) := by decide +kernel
theorem dX3_changeFrom_85 : decode cX3_changeFrom 85 = .ok (.iaload, 1) := by decide +kernel
theorem dX3_changeFrom_86 : decode cX3_changeFrom 86 = .ok (.invokestatic 136, 3) := by decide +kernel
theorem dX3_changeFrom_89 : decode cX3_changeFrom 89 = .ok (.iadd, 1) := by decide +kernel
theorem dX3_changeFrom_90 : decode cX3_changeFrom 90 = .ok (.invokestatic 126, 3) := by decide +kernel
theorem dX3_changeFrom_93 : decode cX3_changeFrom 93 = .ok (.istore 4, 2) := by decide +kernel
theorem dX3_changeFrom_95 : decode cX3_changeFrom 95 = .ok (.iinc 5 1, 3) := by decide +kernel
theorem dX3_changeFrom_98 : decode cX3_changeFrom 98 = .ok (.goto (-59), 3) := by decide +kernel
theorem dX3_countsFor_0 : decode cX3_countsFor 0 = .ok (.aload_n 0, 1) := by decide +kernel
theorem dX3_countsFor_1 : decode cX3_countsFor 1 = .ok (.getfield 43, 3) := by decide +kernel
theorem dX3_countsFor_10 : decode cX3_countsFor 10 = .ok (.iload_n 2, 1) := by decide +kernel
theorem dX3_countsFor_101 : decode cX3_countsFor 101 = .ok (.goto 4, 3) := by decide +kernel
theorem dX3_countsFor_104 : decode cX3_countsFor 104 = .ok (.iconst 0, 1) := by decide +kernel
theorem dX3_countsFor_105 : decode cX3_countsFor 105 = .ok (.ireturn, 1) := by decide +kernel
theorem dX3_countsFor_11 : decode cX3_countsFor 11 = .ok (.tableswitch 71 1 3 #[25, 27, 41], 25) := by decide +kernel
theorem dX3_countsFor_36 : decode cX3_countsFor 36 = .ok (.iconst 1, 1) := by decide +kernel
theorem dX3_countsFor_37 : decode cX3_countsFor 37 = .ok (.ireturn, 1) := by decide +kernel
theorem dX3_countsFor_38 : decode cX3_countsFor 38 = .ok (.aload_n 0, 1) := by decide +kernel
theorem dX3_countsFor_39 : decode cX3_countsFor 39 = .ok (.iload_n 1, 1) := by decide +kernel
theorem dX3_countsFor_4 : decode cX3_countsFor 4 = .ok (.getfield 103, 3) := by decide +kernel
theorem dX3_countsFor_40 : decode cX3_countsFor 40 = .ok (.invokevirtual 199, 3) := by decide +kernel
theorem dX3_countsFor_43 : decode cX3_countsFor 43 = .ok (.ifCond .eq 7, 3) := by decide +kernel
theorem dX3_countsFor_46 : decode cX3_countsFor 46 = .ok (.iconst 1, 1) := by decide +kernel
theorem dX3_countsFor_47 : decode cX3_countsFor 47 = .ok (.goto 4, 3) := by decide +kernel
theorem dX3_countsFor_50 : decode cX3_countsFor 50 = .ok (.iconst 0, 1) := by decide +kernel
theorem dX3_countsFor_51 : decode cX3_countsFor 51 = .ok (.ireturn, 1) := by decide +kernel
theorem dX3_countsFor_52 : decode cX3_countsFor 52 = .ok (.aload_n 3, 1) := by decide +kernel
theorem dX3_countsFor_53 : decode cX3_countsFor 53 = .ok (.getfield 181, 3) := by decide +kernel
theorem dX3_countsFor_56 : decode cX3_countsFor 56 = .ok (.bipush 7, 2) := by decide +kernel
theorem dX3_countsFor_58 : decode cX3_countsFor 58 = .ok (.if_icmp .lt 22, 3) := by decide +kernel
theorem dX3_countsFor_61 : decode cX3_countsFor 61 = .ok (.aload_n 3, 1) := by decide +kernel
theorem dX3_countsFor_62 : decode cX3_countsFor 62 = .ok (.getfield 190, 3) := by decide +kernel
theorem dX3_countsFor_65 : decode cX3_countsFor 65 = .ok (.aload_n 3, 1) := by decide +kernel
theorem dX3_countsFor_66 : decode cX3_countsFor 66 = .ok (.getfield 184, 3) := by decide +kernel
theorem dX3_countsFor_69 : decode cX3_countsFor 69 = .ok (.isub, 1) := by decide +kernel
theorem dX3_countsFor_7 : decode cX3_countsFor 7 = .ok (.iload_n 1, 1) := by decide +kernel
theorem dX3_countsFor_70 : decode cX3_countsFor 70 = .ok (.sipush 480, 3) := by decide +kernel
theorem dX3_countsFor_73 : decode cX3_countsFor 73 = .ok (.if_icmp .lt 7, 3) := by decide +kernel
theorem dX3_countsFor_76 : decode cX3_countsFor 76 = .ok (.iconst 1, 1) := by decide +kernel
theorem dX3_countsFor_77 : decode cX3_countsFor 77 = .ok (.goto 4, 3) := by decide +kernel
theorem dX3_countsFor_8 : decode cX3_countsFor 8 = .ok (.aaload, 1) := by decide +kernel
theorem dX3_countsFor_80 : decode cX3_countsFor 80 = .ok (.iconst 0, 1) := by decide +kernel
theorem dX3_countsFor_81 : decode cX3_countsFor 81 = .ok (.ireturn, 1) := by decide +kernel
theorem dX3_countsFor_82 : decode cX3_countsFor 82 = .ok (.aload_n 3, 1) := by decide +kernel
theorem dX3_countsFor_83 : decode cX3_countsFor 83 = .ok (.getfield 184, 3) := by decide +kernel
theorem dX3_countsFor_86 : decode cX3_countsFor 86 = .ok (.sipush 480, 3) := by decide +kernel
theorem dX3_countsFor_89 : decode cX3_countsFor 89 = .ok (.idiv, 1) := by decide +kernel
theorem dX3_countsFor_9 : decode cX3_countsFor 9 = .ok (.astore_n 3, 1) := by decide +kernel
theorem dX3_countsFor_90 : decode cX3_countsFor 90 = .ok (.aload_n 0, 1) := by decide +kernel
theorem dX3_countsFor_91 : decode cX3_countsFor 91 = .ok (.invokevirtual 169, 3) := by decide +kernel
theorem dX3_countsFor_94 : decode cX3_countsFor 94 = .ok (.if_icmp .ne 10, 3) := by decide +kernel
theorem dX3_countsFor_97 : decode cX3_countsFor 97 = .ok (.aload_n 3, 1) := by decide +kernel
theorem dX3_countsFor_98 : decode cX3_countsFor 98 = .ok (.getfield 187, 3) := by decide +kernel
theorem dX3_finish_0 : decode cX3_finish 0 = .ok (.aload_n 0, 1) := by decide +kernel
theorem dX3_finish_1 : decode cX3_finish 1 = .ok (.getfield 37, 3) := by decide +kernel
theorem dX3_finish_11 : decode cX3_finish 11 = .ok (.iload_n 2, 1) := by decide +kernel
theorem dX3_finish_12 : decode cX3_finish 12 = .ok (.iload_n 3, 1) := by decide +kernel
theorem dX3_finish_13 : decode cX3_finish 13 = .ok (.iastore, 1) := by decide +kernel
theorem dX3_finish_14 : decode cX3_finish 14 = .ok (.aload_n 0, 1) := by decide +kernel
theorem dX3_finish_15 : decode cX3_finish 15 = .ok (.getfield 22, 3) := by decide +kernel
theorem dX3_finish_18 : decode cX3_finish 18 = .ok (.iload_n 1, 1) := by decide +kernel
theorem dX3_finish_19 : decode cX3_finish 19 = .ok (.dup2, 1) := by decide +kernel
theorem dX3_finish_20 : decode cX3_finish 20 = .ok (.iaload, 1) := by decide +kernel
theorem dX3_finish_21 : decode cX3_finish 21 = .ok (.aload_n 0, 1) := by decide +kernel
theorem dX3_finish_22 : decode cX3_finish 22 = .ok (.getfield 43, 3) := by decide +kernel
theorem dX3_finish_25 : decode cX3_finish 25 = .ok (.getfield 103, 3) := by decide +kernel
theorem dX3_finish_28 : decode cX3_finish 28 = .ok (.iload_n 2, 1) := by decide +kernel
theorem dX3_finish_29 : decode cX3_finish 29 = .ok (.aaload, 1) := by decide +kernel
theorem dX3_finish_30 : decode cX3_finish 30 = .ok (.getfield 147, 3) := by decide +kernel
theorem dX3_finish_33 : decode cX3_finish 33 = .ok (.ior, 1) := by decide +kernel
theorem dX3_finish_34 : decode cX3_finish 34 = .ok (.iastore, 1) := by decide +kernel
theorem dX3_finish_35 : decode cX3_finish 35 = .ok (.aload_n 0, 1) := by decide +kernel
theorem dX3_finish_36 : decode cX3_finish 36 = .ok (.getfield 15, 3) := by decide +kernel
theorem dX3_finish_39 : decode cX3_finish 39 = .ok (.iload_n 1, 1) := by decide +kernel
theorem dX3_finish_4 : decode cX3_finish 4 = .ok (.iload_n 2, 1) := by decide +kernel
theorem dX3_finish_40 : decode cX3_finish 40 = .ok (.iconst (-1), 1) := by decide +kernel
theorem dX3_finish_41 : decode cX3_finish 41 = .ok (.iastore, 1) := by decide +kernel
theorem dX3_finish_42 : decode cX3_finish 42 = .ok (.aload_n 0, 1) := by decide +kernel
theorem dX3_finish_43 : decode cX3_finish 43 = .ok (.getfield 19, 3) := by decide +kernel
theorem dX3_finish_46 : decode cX3_finish 46 = .ok (.iload_n 1, 1) := by decide +kernel
theorem dX3_finish_47 : decode cX3_finish 47 = .ok (.iconst (-1), 1) := by decide +kernel
theorem dX3_finish_48 : decode cX3_finish 48 = .ok (.iastore, 1) := by decide +kernel
theorem dX3_finish_49 : decode cX3_finish 49 = .ok (.return_, 1) := by decide +kernel
theorem dX3_finish_5 : decode cX3_finish 5 = .ok (.iconst 0, 1) := by decide +kernel
theorem dX3_finish_6 : decode cX3_finish 6 = .ok (.iastore, 1) := by decide +kernel
theorem dX3_finish_7 : decode cX3_finish 7 = .ok (.aload_n 0, 1) := by decide +kernel
theorem dX3_finish_8 : decode cX3_finish 8 = .ok (.getfield 34, 3) := by decide +kernel
theorem dX3_firstFor_0 : decode cX3_firstFor 0 = .ok (.iconst (-1), 1) := by decide +kernel
theorem dX3_firstFor_1 : decode cX3_firstFor 1 = .ok (.istore_n 3, 1) := by decide +kernel
theorem dX3_firstFor_10 : decode cX3_firstFor 10 = .ok (.aload_n 0, 1) := by decide +kernel
theorem dX3_firstFor_11 : decode cX3_firstFor 11 = .ok (.getfield 43, 3) := by decide +kernel
theorem dX3_firstFor_14 : decode cX3_firstFor 14 = .ok (.getfield 85, 3) := by decide +kernel
theorem dX3_firstFor_17 : decode cX3_firstFor 17 = .ok (.if_icmp .ge 59, 3) := by decide +kernel
theorem dX3_firstFor_2 : decode cX3_firstFor 2 = .ok (.iconst 0, 1) := by decide +kernel
theorem dX3_firstFor_20 : decode cX3_firstFor 20 = .ok (.aload_n 0, 1) := by decide +kernel
theorem dX3_firstFor_21 : decode cX3_firstFor 21 = .ok (.iload 5, 2) := by decide +kernel
theorem dX3_firstFor_23 : decode cX3_firstFor 23 = .ok (.invokevirtual 88, 3) := by decide +kernel
theorem dX3_firstFor_26 : decode cX3_firstFor 26 = .ok (.iconst 1, 1) := by decide +kernel
theorem dX3_firstFor_27 : decode cX3_firstFor 27 = .ok (.if_icmp .ne 43, 3) := by decide +kernel
theorem dX3_firstFor_3 : decode cX3_firstFor 3 = .ok (.istore 4, 2) := by decide +kernel
theorem dX3_firstFor_30 : decode cX3_firstFor 30 = .ok (.aload_n 0, 1) := by decide +kernel
theorem dX3_firstFor_31 : decode cX3_firstFor 31 = .ok (.iload_n 1, 1) := by decide +kernel
theorem dX3_firstFor_32 : decode cX3_firstFor 32 = .ok (.iload 5, 2) := by decide +kernel
theorem dX3_firstFor_34 : decode cX3_firstFor 34 = .ok (.aload_n 2, 1) := by decide +kernel
theorem dX3_firstFor_35 : decode cX3_firstFor 35 = .ok (.invokevirtual 91, 3) := by decide +kernel
theorem dX3_firstFor_38 : decode cX3_firstFor 38 = .ok (.ifCond .eq 32, 3) := by decide +kernel
theorem dX3_firstFor_41 : decode cX3_firstFor 41 = .ok (.aload_n 0, 1) := by decide +kernel
theorem dX3_firstFor_42 : decode cX3_firstFor 42 = .ok (.iload_n 1, 1) := by decide +kernel
theorem dX3_firstFor_43 : decode cX3_firstFor 43 = .ok (.iload 5, 2) := by decide +kernel
theorem dX3_firstFor_45 : decode cX3_firstFor 45 = .ok (.aload_n 2, 1) := by decide +kernel
theorem dX3_firstFor_46 : decode cX3_firstFor 46 = .ok (.invokevirtual 95, 3) := by decide +kernel
theorem dX3_firstFor_49 : decode cX3_firstFor 49 = .ok (.istore 6, 2) := by decide +kernel
theorem dX3_firstFor_5 : decode cX3_firstFor 5 = .ok (.iconst 0, 1) := by decide +kernel
theorem dX3_firstFor_51 : decode cX3_firstFor 51 = .ok (.iload_n 3, 1) := by decide +kernel
theorem dX3_firstFor_52 : decode cX3_firstFor 52 = .ok (.iconst (-1), 1) := by decide +kernel
theorem dX3_firstFor_53 : decode cX3_firstFor 53 = .ok (.if_icmp .eq 10, 3) := by decide +kernel
theorem dX3_firstFor_56 : decode cX3_firstFor 56 = .ok (.iload 6, 2) := by decide +kernel
theorem dX3_firstFor_58 : decode cX3_firstFor 58 = .ok (.iload 4, 2) := by decide +kernel
theorem dX3_firstFor_6 : decode cX3_firstFor 6 = .ok (.istore 5, 2) := by decide +kernel
theorem dX3_firstFor_60 : decode cX3_firstFor 60 = .ok (.if_icmp .ge 10, 3) := by decide +kernel
theorem dX3_firstFor_63 : decode cX3_firstFor 63 = .ok (.iload 5, 2) := by decide +kernel
theorem dX3_firstFor_65 : decode cX3_firstFor 65 = .ok (.istore_n 3, 1) := by decide +kernel
theorem dX3_firstFor_66 : decode cX3_firstFor 66 = .ok (.iload 6, 2) := by decide +kernel
theorem dX3_firstFor_68 : decode cX3_firstFor 68 = .ok (.istore 4, 2) := by decide +kernel
theorem dX3_firstFor_70 : decode cX3_firstFor 70 = .ok (.iinc 5 1, 3) := by decide +kernel
theorem dX3_firstFor_73 : decode cX3_firstFor 73 = .ok (.goto (-65), 3) := by decide +kernel
theorem dX3_firstFor_76 : decode cX3_firstFor 76 = .ok (.iload_n 3, 1) := by decide +kernel
theorem dX3_firstFor_77 : decode cX3_firstFor 77 = .ok (.ireturn, 1) := by decide +kernel
theorem dX3_firstFor_8 : decode cX3_firstFor 8 = .ok (.iload 5, 2) := by decide +kernel
theorem dX3_haste_0 : decode cX3_haste 0 = .ok (.aload_n 0, 1) := by decide +kernel
theorem dX3_haste_1 : decode cX3_haste 1 = .ok (.getfield 43, 3) := by decide +kernel
theorem dX3_haste_100 : decode cX3_haste 100 = .ok (.aload 5, 2) := by decide +kernel
theorem dX3_haste_102 : decode cX3_haste 102 = .ok (.bipush 7, 2) := by decide +kernel
theorem dX3_haste_104 : decode cX3_haste 104 = .ok (.aload_n 0, 1) := by decide +kernel
theorem dX3_haste_105 : decode cX3_haste 105 = .ok (.aload 4, 2) := by decide +kernel
theorem dX3_haste_107 : decode cX3_haste 107 = .ok (.getfield 166, 3) := by decide +kernel
theorem dX3_haste_11 : decode cX3_haste 11 = .ok (.aload_n 0, 1) := by decide +kernel
theorem dX3_haste_110 : decode cX3_haste 110 = .ok (.invokevirtual 193, 3) := by decide +kernel
theorem dX3_haste_113 : decode cX3_haste 113 = .ok (.iastore, 1) := by decide +kernel
theorem dX3_haste_114 : decode cX3_haste 114 = .ok (.aload_n 0, 1) := by decide +kernel
theorem dX3_haste_115 : decode cX3_haste 115 = .ok (.getfield 47, 3) := by decide +kernel
theorem dX3_haste_118 : decode cX3_haste 118 = .ok (.aload_n 0, 1) := by decide +kernel
theorem dX3_haste_119 : decode cX3_haste 119 = .ok (.getfield 47, 3) := by decide +kernel
theorem dX3_haste_12 : decode cX3_haste 12 = .ok (.getfield 47, 3) := by decide +kernel
theorem dX3_haste_122 : decode cX3_haste 122 = .ok (.iconst 0, 1) := by decide +kernel
theorem dX3_haste_123 : decode cX3_haste 123 = .ok (.aload_n 0, 1) := by decide +kernel
theorem dX3_haste_124 : decode cX3_haste 124 = .ok (.invokevirtual 169, 3) := by decide +kernel
theorem dX3_haste_127 : decode cX3_haste 127 = .ok (.aload_n 3, 1) := by decide +kernel
theorem dX3_haste_128 : decode cX3_haste 128 = .ok (.invokevirtual 173, 3) := by decide +kernel
theorem dX3_haste_131 : decode cX3_haste 131 = .ok (.invokevirtual 177, 3) := by decide +kernel
theorem dX3_haste_134 : decode cX3_haste 134 = .ok (.ireturn, 1) := by decide +kernel
theorem dX3_haste_15 : decode cX3_haste 15 = .ok (.getfield 155, 3) := by decide +kernel
theorem dX3_haste_18 : decode cX3_haste 18 = .ok (.astore 5, 2) := by decide +kernel
theorem dX3_haste_20 : decode cX3_haste 20 = .ok (.aload 5, 2) := by decide +kernel
theorem dX3_haste_22 : decode cX3_haste 22 = .ok (.iconst 0, 1) := by decide +kernel
theorem dX3_haste_23 : decode cX3_haste 23 = .ok (.aload 4, 2) := by decide +kernel
theorem dX3_haste_25 : decode cX3_haste 25 = .ok (.getfield 181, 3) := by decide +kernel
theorem dX3_haste_28 : decode cX3_haste 28 = .ok (.iastore, 1) := by decide +kernel
theorem dX3_haste_29 : decode cX3_haste 29 = .ok (.aload 5, 2) := by decide +kernel
theorem dX3_haste_31 : decode cX3_haste 31 = .ok (.iconst 1, 1) := by decide +kernel
theorem dX3_haste_32 : decode cX3_haste 32 = .ok (.aload_n 0, 1) := by decide +kernel
theorem dX3_haste_33 : decode cX3_haste 33 = .ok (.getfield 9, 3) := by decide +kernel
theorem dX3_haste_36 : decode cX3_haste 36 = .ok (.aload 4, 2) := by decide +kernel
theorem dX3_haste_38 : decode cX3_haste 38 = .ok (.getfield 184, 3) := by decide +kernel
theorem dX3_haste_4 : decode cX3_haste 4 = .ok (.getfield 103, 3) := by decide +kernel
theorem dX3_haste_41 : decode cX3_haste 41 = .ok (.isub, 1) := by decide +kernel
theorem dX3_haste_42 : decode cX3_haste 42 = .ok (.iastore, 1) := by decide +kernel
theorem dX3_haste_43 : decode cX3_haste 43 = .ok (.aload 5, 2) := by decide +kernel
theorem dX3_haste_45 : decode cX3_haste 45 = .ok (.iconst 2, 1) := by decide +kernel
theorem dX3_haste_46 : decode cX3_haste 46 = .ok (.aload 4, 2) := by decide +kernel
theorem dX3_haste_48 : decode cX3_haste 48 = .ok (.getfield 187, 3) := by decide +kernel
theorem dX3_haste_51 : decode cX3_haste 51 = .ok (.iastore, 1) := by decide +kernel
theorem dX3_haste_52 : decode cX3_haste 52 = .ok (.aload 5, 2) := by decide +kernel
theorem dX3_haste_54 : decode cX3_haste 54 = .ok (.iconst 3, 1) := by decide +kernel
theorem dX3_haste_55 : decode cX3_haste 55 = .ok (.aload 4, 2) := by decide +kernel
theorem dX3_haste_57 : decode cX3_haste 57 = .ok (.getfield 190, 3) := by decide +kernel
theorem dX3_haste_60 : decode cX3_haste 60 = .ok (.aload_n 0, 1) := by decide +kernel
theorem dX3_haste_61 : decode cX3_haste 61 = .ok (.getfield 9, 3) := by decide +kernel
theorem dX3_haste_64 : decode cX3_haste 64 = .ok (.isub, 1) := by decide +kernel
theorem dX3_haste_65 : decode cX3_haste 65 = .ok (.iastore, 1) := by decide +kernel
theorem dX3_haste_66 : decode cX3_haste 66 = .ok (.aload 5, 2) := by decide +kernel
theorem dX3_haste_68 : decode cX3_haste 68 = .ok (.iconst 4, 1) := by decide +kernel
theorem dX3_haste_69 : decode cX3_haste 69 = .ok (.aload 4, 2) := by decide +kernel
theorem dX3_haste_7 : decode cX3_haste 7 = .ok (.iload_n 2, 1) := by decide +kernel
theorem dX3_haste_71 : decode cX3_haste 71 = .ok (.getfield 160, 3) := by decide +kernel
theorem dX3_haste_74 : decode cX3_haste 74 = .ok (.iastore, 1) := by decide +kernel
theorem dX3_haste_75 : decode cX3_haste 75 = .ok (.aload 5, 2) := by decide +kernel
theorem dX3_haste_77 : decode cX3_haste 77 = .ok (.iconst 5, 1) := by decide +kernel
theorem dX3_haste_78 : decode cX3_haste 78 = .ok (.aload 4, 2) := by decide +kernel
theorem dX3_haste_8 : decode cX3_haste 8 = .ok (.aaload, 1) := by decide +kernel
theorem dX3_haste_80 : decode cX3_haste 80 = .ok (.getfield 166, 3) := by decide +kernel
theorem dX3_haste_83 : decode cX3_haste 83 = .ok (.iastore, 1) := by decide +kernel
theorem dX3_haste_84 : decode cX3_haste 84 = .ok (.aload 5, 2) := by decide +kernel
theorem dX3_haste_86 : decode cX3_haste 86 = .ok (.bipush 6, 2) := by decide +kernel
theorem dX3_haste_88 : decode cX3_haste 88 = .ok (.aload 4, 2) := by decide +kernel
theorem dX3_haste_9 : decode cX3_haste 9 = .ok (.astore 4, 2) := by decide +kernel
theorem dX3_haste_90 : decode cX3_haste 90 = .ok (.aload_n 0, 1) := by decide +kernel
theorem dX3_haste_91 : decode cX3_haste 91 = .ok (.getfield 22, 3) := by decide +kernel
theorem dX3_haste_94 : decode cX3_haste 94 = .ok (.iload_n 1, 1) := by decide +kernel
theorem dX3_haste_95 : decode cX3_haste 95 = .ok (.iaload, 1) := by decide +kernel
theorem dX3_haste_96 : decode cX3_haste 96 = .ok (.invokevirtual 107, 3) := by decide +kernel
theorem dX3_haste_99 : decode cX3_haste 99 = .ok (.iastore, 1) := by decide +kernel
theorem dX3_inState_0 : decode cX3_inState 0 = .ok (.iconst 0, 1) := by decide +kernel
theorem dX3_inState_1 : decode cX3_inState 1 = .ok (.istore_n 2, 1) := by decide +kernel
theorem dX3_inState_12 : decode cX3_inState 12 = .ok (.if_icmp .ge 21, 3) := by decide +kernel
theorem dX3_inState_15 : decode cX3_inState 15 = .ok (.aload_n 0, 1) := by decide +kernel
theorem dX3_inState_16 : decode cX3_inState 16 = .ok (.iload_n 3, 1) := by decide +kernel
theorem dX3_inState_17 : decode cX3_inState 17 = .ok (.invokevirtual 88, 3) := by decide +kernel
theorem dX3_inState_2 : decode cX3_inState 2 = .ok (.iconst 0, 1) := by decide +kernel
theorem dX3_inState_20 : decode cX3_inState 20 = .ok (.iload_n 1, 1) := by decide +kernel
theorem dX3_inState_21 : decode cX3_inState 21 = .ok (.if_icmp .ne 6, 3) := by decide +kernel
theorem dX3_inState_24 : decode cX3_inState 24 = .ok (.iinc 2 1, 3) := by decide +kernel
theorem dX3_inState_27 : decode cX3_inState 27 = .ok (.iinc 3 1, 3) := by decide +kernel
theorem dX3_inState_3 : decode cX3_inState 3 = .ok (.istore_n 3, 1) := by decide +kernel
theorem dX3_inState_30 : decode cX3_inState 30 = .ok (.goto (-26), 3) := by decide +kernel
theorem dX3_inState_33 : decode cX3_inState 33 = .ok (.iload_n 2, 1) := by decide +kernel
theorem dX3_inState_34 : decode cX3_inState 34 = .ok (.ireturn, 1) := by decide +kernel
theorem dX3_inState_4 : decode cX3_inState 4 = .ok (.iload_n 3, 1) := by decide +kernel
theorem dX3_inState_5 : decode cX3_inState 5 = .ok (.aload_n 0, 1) := by decide +kernel
theorem dX3_inState_6 : decode cX3_inState 6 = .ok (.getfield 43, 3) := by decide +kernel
theorem dX3_inState_9 : decode cX3_inState 9 = .ok (.getfield 85, 3) := by decide +kernel
theorem dX3_isBusy_0 : decode cX3_isBusy 0 = .ok (.iload_n 2, 1) := by decide +kernel
theorem dX3_isBusy_1 : decode cX3_isBusy 1 = .ok (.iload_n 1, 1) := by decide +kernel
theorem dX3_isBusy_12 : decode cX3_isBusy 12 = .ok (.aload_n 0, 1) := by decide +kernel
theorem dX3_isBusy_13 : decode cX3_isBusy 13 = .ok (.getfield 15, 3) := by decide +kernel
theorem dX3_isBusy_16 : decode cX3_isBusy 16 = .ok (.iload_n 1, 1) := by decide +kernel
theorem dX3_isBusy_17 : decode cX3_isBusy 17 = .ok (.iaload, 1) := by decide +kernel
theorem dX3_isBusy_18 : decode cX3_isBusy 18 = .ok (.invokevirtual 139, 3) := by decide +kernel
theorem dX3_isBusy_2 : decode cX3_isBusy 2 = .ok (.ishr, 1) := by decide +kernel
theorem dX3_isBusy_21 : decode cX3_isBusy 21 = .ok (.ifCond .eq 7, 3) := by decide +kernel
theorem dX3_isBusy_24 : decode cX3_isBusy 24 = .ok (.iconst 1, 1) := by decide +kernel
theorem dX3_isBusy_25 : decode cX3_isBusy 25 = .ok (.goto 4, 3) := by decide +kernel
theorem dX3_isBusy_28 : decode cX3_isBusy 28 = .ok (.iconst 0, 1) := by decide +kernel
theorem dX3_isBusy_29 : decode cX3_isBusy 29 = .ok (.ireturn, 1) := by decide +kernel
theorem dX3_isBusy_3 : decode cX3_isBusy 3 = .ok (.iconst 1, 1) := by decide +kernel
theorem dX3_isBusy_4 : decode cX3_isBusy 4 = .ok (.iand, 1) := by decide +kernel
theorem dX3_isBusy_5 : decode cX3_isBusy 5 = .ok (.ifCond .ne 23, 3) := by decide +kernel
theorem dX3_isBusy_8 : decode cX3_isBusy 8 = .ok (.aload_n 0, 1) := by decide +kernel
theorem dX3_isBusy_9 : decode cX3_isBusy 9 = .ok (.getfield 43, 3) := by decide +kernel
theorem dX3_isDoneBy_0 : decode cX3_isDoneBy 0 = .ok (.aload_n 0, 1) := by decide +kernel
theorem dX3_isDoneBy_1 : decode cX3_isDoneBy 1 = .ok (.getfield 34, 3) := by decide +kernel
theorem dX3_isDoneBy_10 : decode cX3_isDoneBy 10 = .ok (.aload_n 0, 1) := by decide +kernel
theorem dX3_isDoneBy_11 : decode cX3_isDoneBy 11 = .ok (.getfield 28, 3) := by decide +kernel
theorem dX3_isDoneBy_14 : decode cX3_isDoneBy 14 = .ok (.iload_n 1, 1) := by decide +kernel
theorem dX3_isDoneBy_15 : decode cX3_isDoneBy 15 = .ok (.iaload, 1) := by decide +kernel
theorem dX3_isDoneBy_16 : decode cX3_isDoneBy 16 = .ok (.iload_n 2, 1) := by decide +kernel
theorem dX3_isDoneBy_17 : decode cX3_isDoneBy 17 = .ok (.if_icmp .ne 7, 3) := by decide +kernel
theorem dX3_isDoneBy_20 : decode cX3_isDoneBy 20 = .ok (.iconst 1, 1) := by decide +kernel
theorem dX3_isDoneBy_21 : decode cX3_isDoneBy 21 = .ok (.goto 4, 3) := by decide +kernel
theorem dX3_isDoneBy_24 : decode cX3_isDoneBy 24 = .ok (.iconst 0, 1) := by decide +kernel
theorem dX3_isDoneBy_25 : decode cX3_isDoneBy 25 = .ok (.ireturn, 1) := by decide +kernel
theorem dX3_isDoneBy_4 : decode cX3_isDoneBy 4 = .ok (.iload_n 1, 1) := by decide +kernel
theorem dX3_isDoneBy_5 : decode cX3_isDoneBy 5 = .ok (.iaload, 1) := by decide +kernel
theorem dX3_isDoneBy_6 : decode cX3_isDoneBy 6 = .ok (.iconst (-1), 1) := by decide +kernel
theorem dX3_isDoneBy_7 : decode cX3_isDoneBy 7 = .ok (.if_icmp .eq 17, 3) := by decide +kernel
theorem dX3_isLate_0 : decode cX3_isLate 0 = .ok (.aload_n 0, 1) := by decide +kernel
theorem dX3_isLate_1 : decode cX3_isLate 1 = .ok (.iload_n 1, 1) := by decide +kernel
theorem dX3_isLate_12 : decode cX3_isLate 12 = .ok (.iconst 0, 1) := by decide +kernel
theorem dX3_isLate_13 : decode cX3_isLate 13 = .ok (.ireturn, 1) := by decide +kernel
theorem dX3_isLate_2 : decode cX3_isLate 2 = .ok (.invokevirtual 196, 3) := by decide +kernel
theorem dX3_isLate_5 : decode cX3_isLate 5 = .ok (.ifCond .le 7, 3) := by decide +kernel
theorem dX3_isLate_8 : decode cX3_isLate 8 = .ok (.iconst 1, 1) := by decide +kernel
theorem dX3_isLate_9 : decode cX3_isLate 9 = .ok (.goto 4, 3) := by decide +kernel
theorem dX3_lateOnes_0 : decode cX3_lateOnes 0 = .ok (.iconst 0, 1) := by decide +kernel
theorem dX3_lateOnes_1 : decode cX3_lateOnes 1 = .ok (.istore_n 1, 1) := by decide +kernel
theorem dX3_lateOnes_12 : decode cX3_lateOnes 12 = .ok (.if_icmp .ge 20, 3) := by decide +kernel
theorem dX3_lateOnes_15 : decode cX3_lateOnes 15 = .ok (.aload_n 0, 1) := by decide +kernel
theorem dX3_lateOnes_16 : decode cX3_lateOnes 16 = .ok (.iload_n 2, 1) := by decide +kernel
theorem dX3_lateOnes_17 : decode cX3_lateOnes 17 = .ok (.invokevirtual 199, 3) := by decide +kernel
theorem dX3_lateOnes_2 : decode cX3_lateOnes 2 = .ok (.iconst 0, 1) := by decide +kernel
theorem dX3_lateOnes_20 : decode cX3_lateOnes 20 = .ok (.ifCond .eq 6, 3) := by decide +kernel
theorem dX3_lateOnes_23 : decode cX3_lateOnes 23 = .ok (.iinc 1 1, 3) := by decide +kernel
theorem dX3_lateOnes_26 : decode cX3_lateOnes 26 = .ok (.iinc 2 1, 3) := by decide +kernel
theorem dX3_lateOnes_29 : decode cX3_lateOnes 29 = .ok (.goto (-25), 3) := by decide +kernel
theorem dX3_lateOnes_3 : decode cX3_lateOnes 3 = .ok (.istore_n 2, 1) := by decide +kernel
theorem dX3_lateOnes_32 : decode cX3_lateOnes 32 = .ok (.iload_n 1, 1) := by decide +kernel
theorem dX3_lateOnes_33 : decode cX3_lateOnes 33 = .ok (.ireturn, 1) := by decide +kernel
theorem dX3_lateOnes_4 : decode cX3_lateOnes 4 = .ok (.iload_n 2, 1) := by decide +kernel
theorem dX3_lateOnes_5 : decode cX3_lateOnes 5 = .ok (.aload_n 0, 1) := by decide +kernel
theorem dX3_lateOnes_6 : decode cX3_lateOnes 6 = .ok (.getfield 43, 3) := by decide +kernel
theorem dX3_lateOnes_9 : decode cX3_lateOnes 9 = .ok (.getfield 85, 3) := by decide +kernel
theorem dX3_linesDoneBy_0 : decode cX3_linesDoneBy 0 = .ok (.iconst 0, 1) := by decide +kernel
theorem dX3_linesDoneBy_1 : decode cX3_linesDoneBy 1 = .ok (.istore_n 2, 1) := by decide +kernel
theorem dX3_linesDoneBy_12 : decode cX3_linesDoneBy 12 = .ok (.if_icmp .ge 33, 3) := by decide +kernel
theorem dX3_linesDoneBy_15 : decode cX3_linesDoneBy 15 = .ok (.aload_n 0, 1) := by decide +kernel
theorem dX3_linesDoneBy_16 : decode cX3_linesDoneBy 16 = .ok (.iload_n 3, 1) := by decide +kernel
theorem dX3_linesDoneBy_17 : decode cX3_linesDoneBy 17 = .ok (.iload_n 1, 1) := by decide +kernel
theorem dX3_linesDoneBy_18 : decode cX3_linesDoneBy 18 = .ok (.invokevirtual 202, 3) := by decide +kernel
theorem dX3_linesDoneBy_2 : decode cX3_linesDoneBy 2 = .ok (.iconst 0, 1) := by decide +kernel
theorem dX3_linesDoneBy_21 : decode cX3_linesDoneBy 21 = .ok (.ifCond .eq 18, 3) := by decide +kernel
theorem dX3_linesDoneBy_24 : decode cX3_linesDoneBy 24 = .ok (.iload_n 2, 1) := by decide +kernel
theorem dX3_linesDoneBy_25 : decode cX3_linesDoneBy 25 = .ok (.aload_n 0, 1) := by decide +kernel
theorem dX3_linesDoneBy_26 : decode cX3_linesDoneBy 26 = .ok (.getfield 43, 3) := by decide +kernel
theorem dX3_linesDoneBy_29 : decode cX3_linesDoneBy 29 = .ok (.getfield 103, 3) := by decide +kernel
theorem dX3_linesDoneBy_3 : decode cX3_linesDoneBy 3 = .ok (.istore_n 3, 1) := by decide +kernel
theorem dX3_linesDoneBy_32 : decode cX3_linesDoneBy 32 = .ok (.iload_n 3, 1) := by decide +kernel
theorem dX3_linesDoneBy_33 : decode cX3_linesDoneBy 33 = .ok (.aaload, 1) := by decide +kernel
theorem dX3_linesDoneBy_34 : decode cX3_linesDoneBy 34 = .ok (.getfield 187, 3) := by decide +kernel
theorem dX3_linesDoneBy_37 : decode cX3_linesDoneBy 37 = .ok (.iadd, 1) := by decide +kernel
theorem dX3_linesDoneBy_38 : decode cX3_linesDoneBy 38 = .ok (.istore_n 2, 1) := by decide +kernel
theorem dX3_linesDoneBy_39 : decode cX3_linesDoneBy 39 = .ok (.iinc 3 1, 3) := by decide +kernel
theorem dX3_linesDoneBy_4 : decode cX3_linesDoneBy 4 = .ok (.iload_n 3, 1) := by decide +kernel
theorem dX3_linesDoneBy_42 : decode cX3_linesDoneBy 42 = .ok (.goto (-38), 3) := by decide +kernel
theorem dX3_linesDoneBy_45 : decode cX3_linesDoneBy 45 = .ok (.iload_n 2, 1) := by decide +kernel
theorem dX3_linesDoneBy_46 : decode cX3_linesDoneBy 46 = .ok (.ireturn, 1) := by decide +kernel
theorem dX3_linesDoneBy_5 : decode cX3_linesDoneBy 5 = .ok (.aload_n 0, 1) := by decide +kernel
theorem dX3_linesDoneBy_6 : decode cX3_linesDoneBy 6 = .ok (.getfield 43, 3) := by decide +kernel
theorem dX3_linesDoneBy_9 : decode cX3_linesDoneBy 9 = .ok (.getfield 85, 3) := by decide +kernel
theorem dX3_mayDo_0 : decode cX3_mayDo 0 = .ok (.aload_n 0, 1) := by decide +kernel
theorem dX3_mayDo_1 : decode cX3_mayDo 1 = .ok (.getfield 43, 3) := by decide +kernel
theorem dX3_mayDo_101 : decode cX3_mayDo 101 = .ok (.ifCond .eq 7, 3) := by decide +kernel
theorem dX3_mayDo_104 : decode cX3_mayDo 104 = .ok (.iconst 1, 1) := by decide +kernel
theorem dX3_mayDo_105 : decode cX3_mayDo 105 = .ok (.goto 4, 3) := by decide +kernel
theorem dX3_mayDo_108 : decode cX3_mayDo 108 = .ok (.iconst 0, 1) := by decide +kernel
theorem dX3_mayDo_109 : decode cX3_mayDo 109 = .ok (.ireturn, 1) := by decide +kernel
theorem dX3_mayDo_11 : decode cX3_mayDo 11 = .ok (.aload_n 0, 1) := by decide +kernel
theorem dX3_mayDo_12 : decode cX3_mayDo 12 = .ok (.getfield 43, 3) := by decide +kernel
theorem dX3_mayDo_15 : decode cX3_mayDo 15 = .ok (.getfield 103, 3) := by decide +kernel
theorem dX3_mayDo_18 : decode cX3_mayDo 18 = .ok (.iload_n 2, 1) := by decide +kernel
theorem dX3_mayDo_19 : decode cX3_mayDo 19 = .ok (.aaload, 1) := by decide +kernel
theorem dX3_mayDo_20 : decode cX3_mayDo 20 = .ok (.astore 5, 2) := by decide +kernel
theorem dX3_mayDo_22 : decode cX3_mayDo 22 = .ok (.aload 4, 2) := by decide +kernel
theorem dX3_mayDo_24 : decode cX3_mayDo 24 = .ok (.getfield 149, 3) := by decide +kernel
theorem dX3_mayDo_27 : decode cX3_mayDo 27 = .ok (.aload 5, 2) := by decide +kernel
theorem dX3_mayDo_29 : decode cX3_mayDo 29 = .ok (.getfield 152, 3) := by decide +kernel
theorem dX3_mayDo_32 : decode cX3_mayDo 32 = .ok (.ishr, 1) := by decide +kernel
theorem dX3_mayDo_33 : decode cX3_mayDo 33 = .ok (.iconst 1, 1) := by decide +kernel
theorem dX3_mayDo_34 : decode cX3_mayDo 34 = .ok (.iand, 1) := by decide +kernel
theorem dX3_mayDo_35 : decode cX3_mayDo 35 = .ok (.ifCond .ne 5, 3) := by decide +kernel
theorem dX3_mayDo_38 : decode cX3_mayDo 38 = .ok (.iconst 0, 1) := by decide +kernel
theorem dX3_mayDo_39 : decode cX3_mayDo 39 = .ok (.ireturn, 1) := by decide +kernel
theorem dX3_mayDo_4 : decode cX3_mayDo 4 = .ok (.getfield 112, 3) := by decide +kernel
theorem dX3_mayDo_40 : decode cX3_mayDo 40 = .ok (.aload_n 0, 1) := by decide +kernel
theorem dX3_mayDo_41 : decode cX3_mayDo 41 = .ok (.getfield 47, 3) := by decide +kernel
theorem dX3_mayDo_44 : decode cX3_mayDo 44 = .ok (.getfield 155, 3) := by decide +kernel
theorem dX3_mayDo_47 : decode cX3_mayDo 47 = .ok (.astore 6, 2) := by decide +kernel
theorem dX3_mayDo_49 : decode cX3_mayDo 49 = .ok (.aload 6, 2) := by decide +kernel
theorem dX3_mayDo_51 : decode cX3_mayDo 51 = .ok (.iconst 0, 1) := by decide +kernel
theorem dX3_mayDo_52 : decode cX3_mayDo 52 = .ok (.aload 5, 2) := by decide +kernel
theorem dX3_mayDo_54 : decode cX3_mayDo 54 = .ok (.getfield 160, 3) := by decide +kernel
theorem dX3_mayDo_57 : decode cX3_mayDo 57 = .ok (.iastore, 1) := by decide +kernel
theorem dX3_mayDo_58 : decode cX3_mayDo 58 = .ok (.aload 6, 2) := by decide +kernel
theorem dX3_mayDo_60 : decode cX3_mayDo 60 = .ok (.iconst 1, 1) := by decide +kernel
theorem dX3_mayDo_61 : decode cX3_mayDo 61 = .ok (.aload 4, 2) := by decide +kernel
theorem dX3_mayDo_63 : decode cX3_mayDo 63 = .ok (.getfield 163, 3) := by decide +kernel
theorem dX3_mayDo_66 : decode cX3_mayDo 66 = .ok (.iastore, 1) := by decide +kernel
theorem dX3_mayDo_67 : decode cX3_mayDo 67 = .ok (.aload 6, 2) := by decide +kernel
theorem dX3_mayDo_69 : decode cX3_mayDo 69 = .ok (.iconst 2, 1) := by decide +kernel
theorem dX3_mayDo_7 : decode cX3_mayDo 7 = .ok (.iload_n 1, 1) := by decide +kernel
theorem dX3_mayDo_70 : decode cX3_mayDo 70 = .ok (.aload 5, 2) := by decide +kernel
theorem dX3_mayDo_72 : decode cX3_mayDo 72 = .ok (.getfield 166, 3) := by decide +kernel
theorem dX3_mayDo_75 : decode cX3_mayDo 75 = .ok (.iastore, 1) := by decide +kernel
theorem dX3_mayDo_76 : decode cX3_mayDo 76 = .ok (.aload 6, 2) := by decide +kernel
theorem dX3_mayDo_78 : decode cX3_mayDo 78 = .ok (.iconst 3, 1) := by decide +kernel
theorem dX3_mayDo_79 : decode cX3_mayDo 79 = .ok (.iload_n 1, 1) := by decide +kernel
theorem dX3_mayDo_8 : decode cX3_mayDo 8 = .ok (.aaload, 1) := by decide +kernel
theorem dX3_mayDo_80 : decode cX3_mayDo 80 = .ok (.iastore, 1) := by decide +kernel
theorem dX3_mayDo_81 : decode cX3_mayDo 81 = .ok (.aload_n 0, 1) := by decide +kernel
theorem dX3_mayDo_82 : decode cX3_mayDo 82 = .ok (.getfield 47, 3) := by decide +kernel
theorem dX3_mayDo_85 : decode cX3_mayDo 85 = .ok (.aload_n 0, 1) := by decide +kernel
theorem dX3_mayDo_86 : decode cX3_mayDo 86 = .ok (.getfield 47, 3) := by decide +kernel
theorem dX3_mayDo_89 : decode cX3_mayDo 89 = .ok (.iconst 1, 1) := by decide +kernel
theorem dX3_mayDo_9 : decode cX3_mayDo 9 = .ok (.astore 4, 2) := by decide +kernel
theorem dX3_mayDo_90 : decode cX3_mayDo 90 = .ok (.aload_n 0, 1) := by decide +kernel
theorem dX3_mayDo_91 : decode cX3_mayDo 91 = .ok (.invokevirtual 169, 3) := by decide +kernel
theorem dX3_mayDo_94 : decode cX3_mayDo 94 = .ok (.aload_n 3, 1) := by decide +kernel
theorem dX3_mayDo_95 : decode cX3_mayDo 95 = .ok (.invokevirtual 173, 3) := by decide +kernel
theorem dX3_mayDo_98 : decode cX3_mayDo 98 = .ok (.invokevirtual 177, 3) := by decide +kernel
theorem dX3_minutesLate_0 : decode cX3_minutesLate 0 = .ok (.aload_n 0, 1) := by decide +kernel
theorem dX3_minutesLate_1 : decode cX3_minutesLate 1 = .ok (.getfield 34, 3) := by decide +kernel
theorem dX3_minutesLate_10 : decode cX3_minutesLate 10 = .ok (.aload_n 0, 1) := by decide +kernel
theorem dX3_minutesLate_11 : decode cX3_minutesLate 11 = .ok (.getfield 9, 3) := by decide +kernel
theorem dX3_minutesLate_14 : decode cX3_minutesLate 14 = .ok (.goto 9, 3) := by decide +kernel
theorem dX3_minutesLate_17 : decode cX3_minutesLate 17 = .ok (.aload_n 0, 1) := by decide +kernel
theorem dX3_minutesLate_18 : decode cX3_minutesLate 18 = .ok (.getfield 34, 3) := by decide +kernel
theorem dX3_minutesLate_21 : decode cX3_minutesLate 21 = .ok (.iload_n 1, 1) := by decide +kernel
theorem dX3_minutesLate_22 : decode cX3_minutesLate 22 = .ok (.iaload, 1) := by decide +kernel
theorem dX3_minutesLate_23 : decode cX3_minutesLate 23 = .ok (.istore_n 2, 1) := by decide +kernel
theorem dX3_minutesLate_24 : decode cX3_minutesLate 24 = .ok (.iconst 0, 1) := by decide +kernel
theorem dX3_minutesLate_25 : decode cX3_minutesLate 25 = .ok (.iload_n 2, 1) := by decide +kernel
theorem dX3_minutesLate_26 : decode cX3_minutesLate 26 = .ok (.aload_n 0, 1) := by decide +kernel
theorem dX3_minutesLate_27 : decode cX3_minutesLate 27 = .ok (.getfield 43, 3) := by decide +kernel
theorem dX3_minutesLate_30 : decode cX3_minutesLate 30 = .ok (.getfield 103, 3) := by decide +kernel
theorem dX3_minutesLate_33 : decode cX3_minutesLate 33 = .ok (.iload_n 1, 1) := by decide +kernel
theorem dX3_minutesLate_34 : decode cX3_minutesLate 34 = .ok (.aaload, 1) := by decide +kernel
theorem dX3_minutesLate_35 : decode cX3_minutesLate 35 = .ok (.getfield 190, 3) := by decide +kernel
theorem dX3_minutesLate_38 : decode cX3_minutesLate 38 = .ok (.isub, 1) := by decide +kernel
theorem dX3_minutesLate_39 : decode cX3_minutesLate 39 = .ok (.invokestatic 121, 3) := by decide +kernel
theorem dX3_minutesLate_4 : decode cX3_minutesLate 4 = .ok (.iload_n 1, 1) := by decide +kernel
theorem dX3_minutesLate_42 : decode cX3_minutesLate 42 = .ok (.ireturn, 1) := by decide +kernel
theorem dX3_minutesLate_5 : decode cX3_minutesLate 5 = .ok (.iaload, 1) := by decide +kernel
theorem dX3_minutesLate_6 : decode cX3_minutesLate 6 = .ok (.iconst (-1), 1) := by decide +kernel
theorem dX3_minutesLate_7 : decode cX3_minutesLate 7 = .ok (.if_icmp .ne 10, 3) := by decide +kernel
theorem dX3_openHand_0 : decode cX3_openHand 0 = .ok (.aload_n 0, 1) := by decide +kernel
theorem dX3_openHand_1 : decode cX3_openHand 1 = .ok (.getfield 15, 3) := by decide +kernel
theorem dX3_openHand_11 : decode cX3_openHand 11 = .ok (.iload_n 1, 1) := by decide +kernel
theorem dX3_openHand_12 : decode cX3_openHand 12 = .ok (.iconst (-1), 1) := by decide +kernel
theorem dX3_openHand_13 : decode cX3_openHand 13 = .ok (.iastore, 1) := by decide +kernel
theorem dX3_openHand_14 : decode cX3_openHand 14 = .ok (.aload_n 0, 1) := by decide +kernel
theorem dX3_openHand_15 : decode cX3_openHand 15 = .ok (.getfield 22, 3) := by decide +kernel
theorem dX3_openHand_18 : decode cX3_openHand 18 = .ok (.iload_n 1, 1) := by decide +kernel
theorem dX3_openHand_19 : decode cX3_openHand 19 = .ok (.iload_n 2, 1) := by decide +kernel
theorem dX3_openHand_20 : decode cX3_openHand 20 = .ok (.iastore, 1) := by decide +kernel
theorem dX3_openHand_21 : decode cX3_openHand 21 = .ok (.aload_n 0, 1) := by decide +kernel
theorem dX3_openHand_22 : decode cX3_openHand 22 = .ok (.getfield 25, 3) := by decide +kernel
theorem dX3_openHand_25 : decode cX3_openHand 25 = .ok (.iload_n 1, 1) := by decide +kernel
theorem dX3_openHand_26 : decode cX3_openHand 26 = .ok (.iconst 0, 1) := by decide +kernel
theorem dX3_openHand_27 : decode cX3_openHand 27 = .ok (.iastore, 1) := by decide +kernel
theorem dX3_openHand_28 : decode cX3_openHand 28 = .ok (.return_, 1) := by decide +kernel
theorem dX3_openHand_4 : decode cX3_openHand 4 = .ok (.iload_n 1, 1) := by decide +kernel
theorem dX3_openHand_5 : decode cX3_openHand 5 = .ok (.iconst (-1), 1) := by decide +kernel
theorem dX3_openHand_6 : decode cX3_openHand 6 = .ok (.iastore, 1) := by decide +kernel
theorem dX3_openHand_7 : decode cX3_openHand 7 = .ok (.aload_n 0, 1) := by decide +kernel
theorem dX3_openHand_8 : decode cX3_openHand 8 = .ok (.getfield 19, 3) := by decide +kernel
theorem dX3_openPiece_0 : decode cX3_openPiece 0 = .ok (.aload_n 0, 1) := by decide +kernel
theorem dX3_openPiece_1 : decode cX3_openPiece 1 = .ok (.getfield 28, 3) := by decide +kernel
theorem dX3_openPiece_11 : decode cX3_openPiece 11 = .ok (.iload_n 1, 1) := by decide +kernel
theorem dX3_openPiece_12 : decode cX3_openPiece 12 = .ok (.iconst (-1), 1) := by decide +kernel
theorem dX3_openPiece_13 : decode cX3_openPiece 13 = .ok (.iastore, 1) := by decide +kernel
theorem dX3_openPiece_14 : decode cX3_openPiece 14 = .ok (.aload_n 0, 1) := by decide +kernel
theorem dX3_openPiece_15 : decode cX3_openPiece 15 = .ok (.getfield 34, 3) := by decide +kernel
theorem dX3_openPiece_18 : decode cX3_openPiece 18 = .ok (.iload_n 1, 1) := by decide +kernel
theorem dX3_openPiece_19 : decode cX3_openPiece 19 = .ok (.iconst (-1), 1) := by decide +kernel
theorem dX3_openPiece_20 : decode cX3_openPiece 20 = .ok (.iastore, 1) := by decide +kernel
theorem dX3_openPiece_21 : decode cX3_openPiece 21 = .ok (.aload_n 0, 1) := by decide +kernel
theorem dX3_openPiece_22 : decode cX3_openPiece 22 = .ok (.getfield 37, 3) := by decide +kernel
theorem dX3_openPiece_25 : decode cX3_openPiece 25 = .ok (.iload_n 1, 1) := by decide +kernel
theorem dX3_openPiece_26 : decode cX3_openPiece 26 = .ok (.iload_n 2, 1) := by decide +kernel
theorem dX3_openPiece_27 : decode cX3_openPiece 27 = .ok (.iastore, 1) := by decide +kernel
theorem dX3_openPiece_28 : decode cX3_openPiece 28 = .ok (.aload_n 0, 1) := by decide +kernel
theorem dX3_openPiece_29 : decode cX3_openPiece 29 = .ok (.getfield 40, 3) := by decide +kernel
theorem dX3_openPiece_32 : decode cX3_openPiece 32 = .ok (.iload_n 1, 1) := by decide +kernel
theorem dX3_openPiece_33 : decode cX3_openPiece 33 = .ok (.iconst 0, 1) := by decide +kernel
theorem dX3_openPiece_34 : decode cX3_openPiece 34 = .ok (.iastore, 1) := by decide +kernel
theorem dX3_openPiece_35 : decode cX3_openPiece 35 = .ok (.return_, 1) := by decide +kernel
theorem dX3_openPiece_4 : decode cX3_openPiece 4 = .ok (.iload_n 1, 1) := by decide +kernel
theorem dX3_openPiece_5 : decode cX3_openPiece 5 = .ok (.iconst (-1), 1) := by decide +kernel
theorem dX3_openPiece_6 : decode cX3_openPiece 6 = .ok (.iastore, 1) := by decide +kernel
theorem dX3_openPiece_7 : decode cX3_openPiece 7 = .ok (.aload_n 0, 1) := by decide +kernel
theorem dX3_openPiece_8 : decode cX3_openPiece 8 = .ok (.getfield 31, 3) := by decide +kernel
theorem dX3_piecesDoneBy_0 : decode cX3_piecesDoneBy 0 = .ok (.iconst 0, 1) := by decide +kernel
theorem dX3_piecesDoneBy_1 : decode cX3_piecesDoneBy 1 = .ok (.istore_n 2, 1) := by decide +kernel
theorem dX3_piecesDoneBy_12 : decode cX3_piecesDoneBy 12 = .ok (.if_icmp .ge 21, 3) := by decide +kernel
theorem dX3_piecesDoneBy_15 : decode cX3_piecesDoneBy 15 = .ok (.aload_n 0, 1) := by decide +kernel
theorem dX3_piecesDoneBy_16 : decode cX3_piecesDoneBy 16 = .ok (.iload_n 3, 1) := by decide +kernel
theorem dX3_piecesDoneBy_17 : decode cX3_piecesDoneBy 17 = .ok (.iload_n 1, 1) := by decide +kernel
theorem dX3_piecesDoneBy_18 : decode cX3_piecesDoneBy 18 = .ok (.invokevirtual 202, 3) := by decide +kernel
theorem dX3_piecesDoneBy_2 : decode cX3_piecesDoneBy 2 = .ok (.iconst 0, 1) := by decide +kernel
theorem dX3_piecesDoneBy_21 : decode cX3_piecesDoneBy 21 = .ok (.ifCond .eq 6, 3) := by decide +kernel
theorem dX3_piecesDoneBy_24 : decode cX3_piecesDoneBy 24 = .ok (.iinc 2 1, 3) := by decide +kernel
theorem dX3_piecesDoneBy_27 : decode cX3_piecesDoneBy 27 = .ok (.iinc 3 1, 3) := by decide +kernel
theorem dX3_piecesDoneBy_3 : decode cX3_piecesDoneBy 3 = .ok (.istore_n 3, 1) := by decide +kernel
theorem dX3_piecesDoneBy_30 : decode cX3_piecesDoneBy 30 = .ok (.goto (-26), 3) := by decide +kernel
theorem dX3_piecesDoneBy_33 : decode cX3_piecesDoneBy 33 = .ok (.iload_n 2, 1) := by decide +kernel
theorem dX3_piecesDoneBy_34 : decode cX3_piecesDoneBy 34 = .ok (.ireturn, 1) := by decide +kernel
theorem dX3_piecesDoneBy_4 : decode cX3_piecesDoneBy 4 = .ok (.iload_n 3, 1) := by decide +kernel
theorem dX3_piecesDoneBy_5 : decode cX3_piecesDoneBy 5 = .ok (.aload_n 0, 1) := by decide +kernel
theorem dX3_piecesDoneBy_6 : decode cX3_piecesDoneBy 6 = .ok (.getfield 43, 3) := by decide +kernel
theorem dX3_piecesDoneBy_9 : decode cX3_piecesDoneBy 9 = .ok (.getfield 85, 3) := by decide +kernel
theorem dX3_plainMinutesOf_0 : decode cX3_plainMinutesOf 0 = .ok (.iconst 0, 1) := by decide +kernel
theorem dX3_plainMinutesOf_1 : decode cX3_plainMinutesOf 1 = .ok (.istore_n 2, 1) := by decide +kernel
theorem dX3_plainMinutesOf_12 : decode cX3_plainMinutesOf 12 = .ok (.if_icmp .ge 38, 3) := by decide +kernel
theorem dX3_plainMinutesOf_15 : decode cX3_plainMinutesOf 15 = .ok (.aload_n 0, 1) := by decide +kernel
theorem dX3_plainMinutesOf_16 : decode cX3_plainMinutesOf 16 = .ok (.iload_n 3, 1) := by decide +kernel
theorem dX3_plainMinutesOf_17 : decode cX3_plainMinutesOf 17 = .ok (.iload_n 1, 1) := by decide +kernel
theorem dX3_plainMinutesOf_18 : decode cX3_plainMinutesOf 18 = .ok (.invokevirtual 202, 3) := by decide +kernel
theorem dX3_plainMinutesOf_2 : decode cX3_plainMinutesOf 2 = .ok (.iconst 0, 1) := by decide +kernel
theorem dX3_plainMinutesOf_21 : decode cX3_plainMinutesOf 21 = .ok (.ifCond .eq 23, 3) := by decide +kernel
theorem dX3_plainMinutesOf_24 : decode cX3_plainMinutesOf 24 = .ok (.iload_n 2, 1) := by decide +kernel
theorem dX3_plainMinutesOf_25 : decode cX3_plainMinutesOf 25 = .ok (.aload_n 0, 1) := by decide +kernel
theorem dX3_plainMinutesOf_26 : decode cX3_plainMinutesOf 26 = .ok (.getfield 43, 3) := by decide +kernel
theorem dX3_plainMinutesOf_29 : decode cX3_plainMinutesOf 29 = .ok (.getfield 103, 3) := by decide +kernel
theorem dX3_plainMinutesOf_3 : decode cX3_plainMinutesOf 3 = .ok (.istore_n 3, 1) := by decide +kernel
theorem dX3_plainMinutesOf_32 : decode cX3_plainMinutesOf 32 = .ok (.iload_n 3, 1) := by decide +kernel
theorem dX3_plainMinutesOf_33 : decode cX3_plainMinutesOf 33 = .ok (.aaload, 1) := by decide +kernel
theorem dX3_plainMinutesOf_34 : decode cX3_plainMinutesOf 34 = .ok (.invokevirtual 205, 3) := by decide +kernel
theorem dX3_plainMinutesOf_37 : decode cX3_plainMinutesOf 37 = .ok (.bipush 60, 2) := by decide +kernel
theorem dX3_plainMinutesOf_39 : decode cX3_plainMinutesOf 39 = .ok (.invokestatic 136, 3) := by decide +kernel
theorem dX3_plainMinutesOf_4 : decode cX3_plainMinutesOf 4 = .ok (.iload_n 3, 1) := by decide +kernel
theorem dX3_plainMinutesOf_42 : decode cX3_plainMinutesOf 42 = .ok (.iadd, 1) := by decide +kernel
theorem dX3_plainMinutesOf_43 : decode cX3_plainMinutesOf 43 = .ok (.istore_n 2, 1) := by decide +kernel
theorem dX3_plainMinutesOf_44 : decode cX3_plainMinutesOf 44 = .ok (.iinc 3 1, 3) := by decide +kernel
theorem dX3_plainMinutesOf_47 : decode cX3_plainMinutesOf 47 = .ok (.goto (-43), 3) := by decide +kernel
theorem dX3_plainMinutesOf_5 : decode cX3_plainMinutesOf 5 = .ok (.aload_n 0, 1) := by decide +kernel
theorem dX3_plainMinutesOf_50 : decode cX3_plainMinutesOf 50 = .ok (.iload_n 2, 1) := by decide +kernel
theorem dX3_plainMinutesOf_51 : decode cX3_plainMinutesOf 51 = .ok (.ireturn, 1) := by decide +kernel
theorem dX3_plainMinutesOf_6 : decode cX3_plainMinutesOf 6 = .ok (.getfield 43, 3) := by decide +kernel
theorem dX3_plainMinutesOf_9 : decode cX3_plainMinutesOf 9 = .ok (.getfield 85, 3) := by decide +kernel
theorem dX3_rateFor_0 : decode cX3_rateFor 0 = .ok (.iconst 5, 1) := by decide +kernel
theorem dX3_rateFor_1 : decode cX3_rateFor 1 = .ok (.aload_n 0, 1) := by decide +kernel
theorem dX3_rateFor_10 : decode cX3_rateFor 10 = .ok (.getfield 116, 3) := by decide +kernel
theorem dX3_rateFor_13 : decode cX3_rateFor 13 = .ok (.iconst 5, 1) := by decide +kernel
theorem dX3_rateFor_14 : decode cX3_rateFor 14 = .ok (.aload_n 0, 1) := by decide +kernel
theorem dX3_rateFor_15 : decode cX3_rateFor 15 = .ok (.getfield 43, 3) := by decide +kernel
theorem dX3_rateFor_18 : decode cX3_rateFor 18 = .ok (.getfield 103, 3) := by decide +kernel
theorem dX3_rateFor_2 : decode cX3_rateFor 2 = .ok (.getfield 43, 3) := by decide +kernel
theorem dX3_rateFor_21 : decode cX3_rateFor 21 = .ok (.iload_n 2, 1) := by decide +kernel
theorem dX3_rateFor_22 : decode cX3_rateFor 22 = .ok (.aaload, 1) := by decide +kernel
theorem dX3_rateFor_23 : decode cX3_rateFor 23 = .ok (.iload_n 3, 1) := by decide +kernel
theorem dX3_rateFor_24 : decode cX3_rateFor 24 = .ok (.invokevirtual 107, 3) := by decide +kernel
theorem dX3_rateFor_27 : decode cX3_rateFor 27 = .ok (.imul, 1) := by decide +kernel
theorem dX3_rateFor_28 : decode cX3_rateFor 28 = .ok (.isub, 1) := by decide +kernel
theorem dX3_rateFor_29 : decode cX3_rateFor 29 = .ok (.invokestatic 121, 3) := by decide +kernel
theorem dX3_rateFor_32 : decode cX3_rateFor 32 = .ok (.ireturn, 1) := by decide +kernel
theorem dX3_rateFor_5 : decode cX3_rateFor 5 = .ok (.getfield 112, 3) := by decide +kernel
theorem dX3_rateFor_8 : decode cX3_rateFor 8 = .ok (.iload_n 1, 1) := by decide +kernel
theorem dX3_rateFor_9 : decode cX3_rateFor 9 = .ok (.aaload, 1) := by decide +kernel
theorem dX3_runOn_0 : decode cX3_runOn 0 = .ok (.aload_n 0, 1) := by decide +kernel
theorem dX3_runOn_1 : decode cX3_runOn 1 = .ok (.getfield 9, 3) := by decide +kernel
theorem dX3_runOn_11 : decode cX3_runOn 11 = .ok (.iload 5, 2) := by decide +kernel
theorem dX3_runOn_13 : decode cX3_runOn 13 = .ok (.iload_n 1, 1) := by decide +kernel
theorem dX3_runOn_14 : decode cX3_runOn 14 = .ok (.if_icmp .ge 85, 3) := by decide +kernel
theorem dX3_runOn_17 : decode cX3_runOn 17 = .ok (.aload_n 0, 1) := by decide +kernel
theorem dX3_runOn_18 : decode cX3_runOn 18 = .ok (.getfield 9, 3) := by decide +kernel
theorem dX3_runOn_21 : decode cX3_runOn 21 = .ok (.iload 4, 2) := by decide +kernel
theorem dX3_runOn_23 : decode cX3_runOn 23 = .ok (.if_icmp .ge 76, 3) := by decide +kernel
theorem dX3_runOn_26 : decode cX3_runOn 26 = .ok (.aload_n 0, 1) := by decide +kernel
theorem dX3_runOn_27 : decode cX3_runOn 27 = .ok (.getfield 43, 3) := by decide +kernel
theorem dX3_runOn_30 : decode cX3_runOn 30 = .ok (.aload_n 0, 1) := by decide +kernel
theorem dX3_runOn_31 : decode cX3_runOn 31 = .ok (.getfield 9, 3) := by decide +kernel
theorem dX3_runOn_34 : decode cX3_runOn 34 = .ok (.invokevirtual 57, 3) := by decide +kernel
theorem dX3_runOn_37 : decode cX3_runOn 37 = .ok (.iload_n 3, 1) := by decide +kernel
theorem dX3_runOn_38 : decode cX3_runOn 38 = .ok (.iconst (-1), 1) := by decide +kernel
theorem dX3_runOn_39 : decode cX3_runOn 39 = .ok (.if_icmp .ne 7, 3) := by decide +kernel
theorem dX3_runOn_4 : decode cX3_runOn 4 = .ok (.iload_n 1, 1) := by decide +kernel
theorem dX3_runOn_42 : decode cX3_runOn 42 = .ok (.iconst 0, 1) := by decide +kernel
theorem dX3_runOn_43 : decode cX3_runOn 43 = .ok (.goto 6, 3) := by decide +kernel
theorem dX3_runOn_46 : decode cX3_runOn 46 = .ok (.iconst 1, 1) := by decide +kernel
theorem dX3_runOn_47 : decode cX3_runOn 47 = .ok (.iload_n 3, 1) := by decide +kernel
theorem dX3_runOn_48 : decode cX3_runOn 48 = .ok (.ishl, 1) := by decide +kernel
theorem dX3_runOn_49 : decode cX3_runOn 49 = .ok (.ior, 1) := by decide +kernel
theorem dX3_runOn_5 : decode cX3_runOn 5 = .ok (.iadd, 1) := by decide +kernel
theorem dX3_runOn_50 : decode cX3_runOn 50 = .ok (.istore 6, 2) := by decide +kernel
theorem dX3_runOn_52 : decode cX3_runOn 52 = .ok (.aload_n 0, 1) := by decide +kernel
theorem dX3_runOn_53 : decode cX3_runOn 53 = .ok (.iload 6, 2) := by decide +kernel
theorem dX3_runOn_55 : decode cX3_runOn 55 = .ok (.aload_n 2, 1) := by decide +kernel
theorem dX3_runOn_56 : decode cX3_runOn 56 = .ok (.invokevirtual 63, 3) := by decide +kernel
theorem dX3_runOn_59 : decode cX3_runOn 59 = .ok (.aload_n 0, 1) := by decide +kernel
theorem dX3_runOn_6 : decode cX3_runOn 6 = .ok (.istore 4, 2) := by decide +kernel
theorem dX3_runOn_60 : decode cX3_runOn 60 = .ok (.iload 6, 2) := by decide +kernel
theorem dX3_runOn_62 : decode cX3_runOn 62 = .ok (.iload 4, 2) := by decide +kernel
theorem dX3_runOn_64 : decode cX3_runOn 64 = .ok (.invokevirtual 67, 3) := by decide +kernel
theorem dX3_runOn_67 : decode cX3_runOn 67 = .ok (.aload_n 0, 1) := by decide +kernel
theorem dX3_runOn_68 : decode cX3_runOn 68 = .ok (.getfield 9, 3) := by decide +kernel
theorem dX3_runOn_71 : decode cX3_runOn 71 = .ok (.isub, 1) := by decide +kernel
theorem dX3_runOn_72 : decode cX3_runOn 72 = .ok (.istore 7, 2) := by decide +kernel
theorem dX3_runOn_74 : decode cX3_runOn 74 = .ok (.aload_n 0, 1) := by decide +kernel
theorem dX3_runOn_75 : decode cX3_runOn 75 = .ok (.iload 6, 2) := by decide +kernel
theorem dX3_runOn_77 : decode cX3_runOn 77 = .ok (.iload 7, 2) := by decide +kernel
theorem dX3_runOn_79 : decode cX3_runOn 79 = .ok (.invokevirtual 71, 3) := by decide +kernel
theorem dX3_runOn_8 : decode cX3_runOn 8 = .ok (.iconst 0, 1) := by decide +kernel
theorem dX3_runOn_82 : decode cX3_runOn 82 = .ok (.aload_n 0, 1) := by decide +kernel
theorem dX3_runOn_83 : decode cX3_runOn 83 = .ok (.dup, 1) := by decide +kernel
theorem dX3_runOn_84 : decode cX3_runOn 84 = .ok (.getfield 9, 3) := by decide +kernel
theorem dX3_runOn_87 : decode cX3_runOn 87 = .ok (.iload 7, 2) := by decide +kernel
theorem dX3_runOn_89 : decode cX3_runOn 89 = .ok (.iadd, 1) := by decide +kernel
theorem dX3_runOn_9 : decode cX3_runOn 9 = .ok (.istore 5, 2) := by decide +kernel
theorem dX3_runOn_90 : decode cX3_runOn 90 = .ok (.putfield 9, 3) := by decide +kernel
theorem dX3_runOn_93 : decode cX3_runOn 93 = .ok (.iinc 5 1, 3) := by decide +kernel
theorem dX3_runOn_96 : decode cX3_runOn 96 = .ok (.goto (-85), 3) := by decide +kernel
theorem dX3_runOn_99 : decode cX3_runOn 99 = .ok (.return_, 1) := by decide +kernel
theorem dX3_stateOf_0 : decode cX3_stateOf 0 = .ok (.aload_n 0, 1) := by decide +kernel
theorem dX3_stateOf_1 : decode cX3_stateOf 1 = .ok (.getfield 34, 3) := by decide +kernel
theorem dX3_stateOf_10 : decode cX3_stateOf 10 = .ok (.iconst 3, 1) := by decide +kernel
theorem dX3_stateOf_11 : decode cX3_stateOf 11 = .ok (.ireturn, 1) := by decide +kernel
theorem dX3_stateOf_12 : decode cX3_stateOf 12 = .ok (.aload_n 0, 1) := by decide +kernel
theorem dX3_stateOf_13 : decode cX3_stateOf 13 = .ok (.getfield 31, 3) := by decide +kernel
theorem dX3_stateOf_16 : decode cX3_stateOf 16 = .ok (.iload_n 1, 1) := by decide +kernel
theorem dX3_stateOf_17 : decode cX3_stateOf 17 = .ok (.iaload, 1) := by decide +kernel
theorem dX3_stateOf_18 : decode cX3_stateOf 18 = .ok (.iconst (-1), 1) := by decide +kernel
theorem dX3_stateOf_19 : decode cX3_stateOf 19 = .ok (.if_icmp .eq 5, 3) := by decide +kernel
theorem dX3_stateOf_22 : decode cX3_stateOf 22 = .ok (.iconst 2, 1) := by decide +kernel
theorem dX3_stateOf_23 : decode cX3_stateOf 23 = .ok (.ireturn, 1) := by decide +kernel
theorem dX3_stateOf_24 : decode cX3_stateOf 24 = .ok (.aload_n 0, 1) := by decide +kernel
theorem dX3_stateOf_25 : decode cX3_stateOf 25 = .ok (.getfield 43, 3) := by decide +kernel
theorem dX3_stateOf_28 : decode cX3_stateOf 28 = .ok (.getfield 103, 3) := by decide +kernel
theorem dX3_stateOf_31 : decode cX3_stateOf 31 = .ok (.iload_n 1, 1) := by decide +kernel
theorem dX3_stateOf_32 : decode cX3_stateOf 32 = .ok (.aaload, 1) := by decide +kernel
theorem dX3_stateOf_33 : decode cX3_stateOf 33 = .ok (.getfield 184, 3) := by decide +kernel
theorem dX3_stateOf_36 : decode cX3_stateOf 36 = .ok (.aload_n 0, 1) := by decide +kernel
theorem dX3_stateOf_37 : decode cX3_stateOf 37 = .ok (.getfield 9, 3) := by decide +kernel
theorem dX3_stateOf_4 : decode cX3_stateOf 4 = .ok (.iload_n 1, 1) := by decide +kernel
theorem dX3_stateOf_40 : decode cX3_stateOf 40 = .ok (.if_icmp .gt 7, 3) := by decide +kernel
theorem dX3_stateOf_43 : decode cX3_stateOf 43 = .ok (.iconst 1, 1) := by decide +kernel
theorem dX3_stateOf_44 : decode cX3_stateOf 44 = .ok (.goto 4, 3) := by decide +kernel
theorem dX3_stateOf_47 : decode cX3_stateOf 47 = .ok (.iconst 0, 1) := by decide +kernel
theorem dX3_stateOf_48 : decode cX3_stateOf 48 = .ok (.ireturn, 1) := by decide +kernel
theorem dX3_stateOf_5 : decode cX3_stateOf 5 = .ok (.iaload, 1) := by decide +kernel
theorem dX3_stateOf_6 : decode cX3_stateOf 6 = .ok (.iconst (-1), 1) := by decide +kernel
theorem dX3_stateOf_7 : decode cX3_stateOf 7 = .ok (.if_icmp .eq 5, 3) := by decide +kernel
theorem dX3_takeAll_0 : decode cX3_takeAll 0 = .ok (.iconst 0, 1) := by decide +kernel
theorem dX3_takeAll_1 : decode cX3_takeAll 1 = .ok (.istore_n 3, 1) := by decide +kernel
theorem dX3_takeAll_10 : decode cX3_takeAll 10 = .ok (.if_icmp .ge 48, 3) := by decide +kernel
theorem dX3_takeAll_13 : decode cX3_takeAll 13 = .ok (.iload_n 1, 1) := by decide +kernel
theorem dX3_takeAll_14 : decode cX3_takeAll 14 = .ok (.iload_n 3, 1) := by decide +kernel
theorem dX3_takeAll_15 : decode cX3_takeAll 15 = .ok (.ishr, 1) := by decide +kernel
theorem dX3_takeAll_16 : decode cX3_takeAll 16 = .ok (.iconst 1, 1) := by decide +kernel
theorem dX3_takeAll_17 : decode cX3_takeAll 17 = .ok (.iand, 1) := by decide +kernel
theorem dX3_takeAll_18 : decode cX3_takeAll 18 = .ok (.ifCond .ne 34, 3) := by decide +kernel
theorem dX3_takeAll_2 : decode cX3_takeAll 2 = .ok (.iload_n 3, 1) := by decide +kernel
theorem dX3_takeAll_21 : decode cX3_takeAll 21 = .ok (.aload_n 0, 1) := by decide +kernel
theorem dX3_takeAll_22 : decode cX3_takeAll 22 = .ok (.getfield 15, 3) := by decide +kernel
theorem dX3_takeAll_25 : decode cX3_takeAll 25 = .ok (.iload_n 3, 1) := by decide +kernel
theorem dX3_takeAll_26 : decode cX3_takeAll 26 = .ok (.iaload, 1) := by decide +kernel
theorem dX3_takeAll_27 : decode cX3_takeAll 27 = .ok (.iconst (-1), 1) := by decide +kernel
theorem dX3_takeAll_28 : decode cX3_takeAll 28 = .ok (.if_icmp .ne 24, 3) := by decide +kernel
theorem dX3_takeAll_3 : decode cX3_takeAll 3 = .ok (.aload_n 0, 1) := by decide +kernel
theorem dX3_takeAll_31 : decode cX3_takeAll 31 = .ok (.aload_n 0, 1) := by decide +kernel
theorem dX3_takeAll_32 : decode cX3_takeAll 32 = .ok (.iload_n 3, 1) := by decide +kernel
theorem dX3_takeAll_33 : decode cX3_takeAll 33 = .ok (.aload_n 2, 1) := by decide +kernel
theorem dX3_takeAll_34 : decode cX3_takeAll 34 = .ok (.invokevirtual 78, 3) := by decide +kernel
theorem dX3_takeAll_37 : decode cX3_takeAll 37 = .ok (.istore 4, 2) := by decide +kernel
theorem dX3_takeAll_39 : decode cX3_takeAll 39 = .ok (.iload 4, 2) := by decide +kernel
theorem dX3_takeAll_4 : decode cX3_takeAll 4 = .ok (.getfield 43, 3) := by decide +kernel
theorem dX3_takeAll_41 : decode cX3_takeAll 41 = .ok (.iconst (-1), 1) := by decide +kernel
theorem dX3_takeAll_42 : decode cX3_takeAll 42 = .ok (.if_icmp .eq 10, 3) := by decide +kernel
theorem dX3_takeAll_45 : decode cX3_takeAll 45 = .ok (.aload_n 0, 1) := by decide +kernel
theorem dX3_takeAll_46 : decode cX3_takeAll 46 = .ok (.iload_n 3, 1) := by decide +kernel
theorem dX3_takeAll_47 : decode cX3_takeAll 47 = .ok (.iload 4, 2) := by decide +kernel
theorem dX3_takeAll_49 : decode cX3_takeAll 49 = .ok (.invokevirtual 82, 3) := by decide +kernel
theorem dX3_takeAll_52 : decode cX3_takeAll 52 = .ok (.iinc 3 1, 3) := by decide +kernel
theorem dX3_takeAll_55 : decode cX3_takeAll 55 = .ok (.goto (-53), 3) := by decide +kernel
theorem dX3_takeAll_58 : decode cX3_takeAll 58 = .ok (.return_, 1) := by decide +kernel
theorem dX3_takeAll_7 : decode cX3_takeAll 7 = .ok (.getfield 75, 3) := by decide +kernel
theorem dX3_take_0 : decode cX3_take 0 = .ok (.aload_n 0, 1) := by decide +kernel
theorem dX3_take_1 : decode cX3_take 1 = .ok (.getfield 15, 3) := by decide +kernel
theorem dX3_take_11 : decode cX3_take 11 = .ok (.iload_n 1, 1) := by decide +kernel
theorem dX3_take_12 : decode cX3_take 12 = .ok (.aload_n 0, 1) := by decide +kernel
theorem dX3_take_13 : decode cX3_take 13 = .ok (.iload_n 1, 1) := by decide +kernel
theorem dX3_take_14 : decode cX3_take 14 = .ok (.iload_n 2, 1) := by decide +kernel
theorem dX3_take_15 : decode cX3_take 15 = .ok (.aload_n 0, 1) := by decide +kernel
theorem dX3_take_16 : decode cX3_take 16 = .ok (.getfield 22, 3) := by decide +kernel
theorem dX3_take_19 : decode cX3_take 19 = .ok (.iload_n 1, 1) := by decide +kernel
theorem dX3_take_20 : decode cX3_take 20 = .ok (.iaload, 1) := by decide +kernel
theorem dX3_take_21 : decode cX3_take 21 = .ok (.invokevirtual 99, 3) := by decide +kernel
theorem dX3_take_24 : decode cX3_take 24 = .ok (.iastore, 1) := by decide +kernel
theorem dX3_take_25 : decode cX3_take 25 = .ok (.aload_n 0, 1) := by decide +kernel
theorem dX3_take_26 : decode cX3_take 26 = .ok (.getfield 28, 3) := by decide +kernel
theorem dX3_take_29 : decode cX3_take 29 = .ok (.iload_n 2, 1) := by decide +kernel
theorem dX3_take_30 : decode cX3_take 30 = .ok (.iload_n 1, 1) := by decide +kernel
theorem dX3_take_31 : decode cX3_take 31 = .ok (.iastore, 1) := by decide +kernel
theorem dX3_take_32 : decode cX3_take 32 = .ok (.aload_n 0, 1) := by decide +kernel
theorem dX3_take_33 : decode cX3_take 33 = .ok (.getfield 31, 3) := by decide +kernel
theorem dX3_take_36 : decode cX3_take 36 = .ok (.iload_n 2, 1) := by decide +kernel
theorem dX3_take_37 : decode cX3_take 37 = .ok (.aload_n 0, 1) := by decide +kernel
theorem dX3_take_38 : decode cX3_take 38 = .ok (.getfield 9, 3) := by decide +kernel
theorem dX3_take_4 : decode cX3_take 4 = .ok (.iload_n 1, 1) := by decide +kernel
theorem dX3_take_41 : decode cX3_take 41 = .ok (.iastore, 1) := by decide +kernel
theorem dX3_take_42 : decode cX3_take 42 = .ok (.aload_n 0, 1) := by decide +kernel
theorem dX3_take_43 : decode cX3_take 43 = .ok (.getfield 40, 3) := by decide +kernel
theorem dX3_take_46 : decode cX3_take 46 = .ok (.iload_n 2, 1) := by decide +kernel
theorem dX3_take_47 : decode cX3_take 47 = .ok (.aload_n 0, 1) := by decide +kernel
theorem dX3_take_48 : decode cX3_take 48 = .ok (.getfield 43, 3) := by decide +kernel
theorem dX3_take_5 : decode cX3_take 5 = .ok (.iload_n 2, 1) := by decide +kernel
theorem dX3_take_51 : decode cX3_take 51 = .ok (.getfield 103, 3) := by decide +kernel
theorem dX3_take_54 : decode cX3_take 54 = .ok (.iload_n 2, 1) := by decide +kernel
theorem dX3_take_55 : decode cX3_take 55 = .ok (.aaload, 1) := by decide +kernel
theorem dX3_take_56 : decode cX3_take 56 = .ok (.aload_n 0, 1) := by decide +kernel
theorem dX3_take_57 : decode cX3_take 57 = .ok (.getfield 22, 3) := by decide +kernel
theorem dX3_take_6 : decode cX3_take 6 = .ok (.iastore, 1) := by decide +kernel
theorem dX3_take_60 : decode cX3_take 60 = .ok (.iload_n 1, 1) := by decide +kernel
theorem dX3_take_61 : decode cX3_take 61 = .ok (.iaload, 1) := by decide +kernel
theorem dX3_take_62 : decode cX3_take 62 = .ok (.invokevirtual 107, 3) := by decide +kernel
theorem dX3_take_65 : decode cX3_take 65 = .ok (.ifCond .ne 7, 3) := by decide +kernel
theorem dX3_take_68 : decode cX3_take 68 = .ok (.iconst 1, 1) := by decide +kernel
theorem dX3_take_69 : decode cX3_take 69 = .ok (.goto 4, 3) := by decide +kernel
theorem dX3_take_7 : decode cX3_take 7 = .ok (.aload_n 0, 1) := by decide +kernel
theorem dX3_take_72 : decode cX3_take 72 = .ok (.iconst 0, 1) := by decide +kernel
theorem dX3_take_73 : decode cX3_take 73 = .ok (.iastore, 1) := by decide +kernel
theorem dX3_take_74 : decode cX3_take 74 = .ok (.return_, 1) := by decide +kernel
theorem dX3_take_8 : decode cX3_take 8 = .ok (.getfield 19, 3) := by decide +kernel
theorem dX3_today_0 : decode cX3_today 0 = .ok (.aload_n 0, 1) := by decide +kernel
theorem dX3_today_1 : decode cX3_today 1 = .ok (.getfield 9, 3) := by decide +kernel
theorem dX3_today_4 : decode cX3_today 4 = .ok (.sipush 480, 3) := by decide +kernel
theorem dX3_today_7 : decode cX3_today 7 = .ok (.idiv, 1) := by decide +kernel
theorem dX3_today_8 : decode cX3_today 8 = .ok (.ireturn, 1) := by decide +kernel
theorem dX3_waitedIn_0 : decode cX3_waitedIn 0 = .ok (.iconst 0, 1) := by decide +kernel
theorem dX3_waitedIn_1 : decode cX3_waitedIn 1 = .ok (.istore_n 2, 1) := by decide +kernel
theorem dX3_waitedIn_12 : decode cX3_waitedIn 12 = .ok (.if_icmp .ge 57, 3) := by decide +kernel
theorem dX3_waitedIn_15 : decode cX3_waitedIn 15 = .ok (.aload_n 0, 1) := by decide +kernel
theorem dX3_waitedIn_16 : decode cX3_waitedIn 16 = .ok (.getfield 43, 3) := by decide +kernel
theorem dX3_waitedIn_19 : decode cX3_waitedIn 19 = .ok (.getfield 103, 3) := by decide +kernel
theorem dX3_waitedIn_2 : decode cX3_waitedIn 2 = .ok (.iconst 0, 1) := by decide +kernel
theorem dX3_waitedIn_22 : decode cX3_waitedIn 22 = .ok (.iload_n 3, 1) := by decide +kernel
theorem dX3_waitedIn_23 : decode cX3_waitedIn 23 = .ok (.aaload, 1) := by decide +kernel
theorem dX3_waitedIn_24 : decode cX3_waitedIn 24 = .ok (.getfield 166, 3) := by decide +kernel
theorem dX3_waitedIn_27 : decode cX3_waitedIn 27 = .ok (.iload_n 1, 1) := by decide +kernel
theorem dX3_waitedIn_28 : decode cX3_waitedIn 28 = .ok (.if_icmp .ne 35, 3) := by decide +kernel
theorem dX3_waitedIn_3 : decode cX3_waitedIn 3 = .ok (.istore_n 3, 1) := by decide +kernel
theorem dX3_waitedIn_31 : decode cX3_waitedIn 31 = .ok (.aload_n 0, 1) := by decide +kernel
theorem dX3_waitedIn_32 : decode cX3_waitedIn 32 = .ok (.getfield 31, 3) := by decide +kernel
theorem dX3_waitedIn_35 : decode cX3_waitedIn 35 = .ok (.iload_n 3, 1) := by decide +kernel
theorem dX3_waitedIn_36 : decode cX3_waitedIn 36 = .ok (.iaload, 1) := by decide +kernel
theorem dX3_waitedIn_37 : decode cX3_waitedIn 37 = .ok (.iconst (-1), 1) := by decide +kernel
theorem dX3_waitedIn_38 : decode cX3_waitedIn 38 = .ok (.if_icmp .eq 25, 3) := by decide +kernel
theorem dX3_waitedIn_4 : decode cX3_waitedIn 4 = .ok (.iload_n 3, 1) := by decide +kernel
theorem dX3_waitedIn_41 : decode cX3_waitedIn 41 = .ok (.iload_n 2, 1) := by decide +kernel
theorem dX3_waitedIn_42 : decode cX3_waitedIn 42 = .ok (.aload_n 0, 1) := by decide +kernel
theorem dX3_waitedIn_43 : decode cX3_waitedIn 43 = .ok (.getfield 31, 3) := by decide +kernel
theorem dX3_waitedIn_46 : decode cX3_waitedIn 46 = .ok (.iload_n 3, 1) := by decide +kernel
theorem dX3_waitedIn_47 : decode cX3_waitedIn 47 = .ok (.iaload, 1) := by decide +kernel
theorem dX3_waitedIn_48 : decode cX3_waitedIn 48 = .ok (.aload_n 0, 1) := by decide +kernel
theorem dX3_waitedIn_49 : decode cX3_waitedIn 49 = .ok (.getfield 43, 3) := by decide +kernel
theorem dX3_waitedIn_5 : decode cX3_waitedIn 5 = .ok (.aload_n 0, 1) := by decide +kernel
theorem dX3_waitedIn_52 : decode cX3_waitedIn 52 = .ok (.getfield 103, 3) := by decide +kernel
theorem dX3_waitedIn_55 : decode cX3_waitedIn 55 = .ok (.iload_n 3, 1) := by decide +kernel
theorem dX3_waitedIn_56 : decode cX3_waitedIn 56 = .ok (.aaload, 1) := by decide +kernel
theorem dX3_waitedIn_57 : decode cX3_waitedIn 57 = .ok (.getfield 184, 3) := by decide +kernel
theorem dX3_waitedIn_6 : decode cX3_waitedIn 6 = .ok (.getfield 43, 3) := by decide +kernel
theorem dX3_waitedIn_60 : decode cX3_waitedIn 60 = .ok (.isub, 1) := by decide +kernel
theorem dX3_waitedIn_61 : decode cX3_waitedIn 61 = .ok (.iadd, 1) := by decide +kernel
theorem dX3_waitedIn_62 : decode cX3_waitedIn 62 = .ok (.istore_n 2, 1) := by decide +kernel
theorem dX3_waitedIn_63 : decode cX3_waitedIn 63 = .ok (.iinc 3 1, 3) := by decide +kernel
theorem dX3_waitedIn_66 : decode cX3_waitedIn 66 = .ok (.goto (-62), 3) := by decide +kernel
theorem dX3_waitedIn_69 : decode cX3_waitedIn 69 = .ok (.iload_n 2, 1) := by decide +kernel
theorem dX3_waitedIn_70 : decode cX3_waitedIn 70 = .ok (.ireturn, 1) := by decide +kernel
theorem dX3_waitedIn_9 : decode cX3_waitedIn 9 = .ok (.getfield 85, 3) := by decide +kernel
theorem dX3_waitingIn_0 : decode cX3_waitingIn 0 = .ok (.iconst 0, 1) := by decide +kernel
theorem dX3_waitingIn_1 : decode cX3_waitingIn 1 = .ok (.istore_n 2, 1) := by decide +kernel
theorem dX3_waitingIn_12 : decode cX3_waitingIn 12 = .ok (.if_icmp .ge 37, 3) := by decide +kernel
theorem dX3_waitingIn_15 : decode cX3_waitingIn 15 = .ok (.aload_n 0, 1) := by decide +kernel
theorem dX3_waitingIn_16 : decode cX3_waitingIn 16 = .ok (.getfield 43, 3) := by decide +kernel
theorem dX3_waitingIn_19 : decode cX3_waitingIn 19 = .ok (.getfield 103, 3) := by decide +kernel
theorem dX3_waitingIn_2 : decode cX3_waitingIn 2 = .ok (.iconst 0, 1) := by decide +kernel
theorem dX3_waitingIn_22 : decode cX3_waitingIn 22 = .ok (.iload_n 3, 1) := by decide +kernel
theorem dX3_waitingIn_23 : decode cX3_waitingIn 23 = .ok (.aaload, 1) := by decide +kernel
theorem dX3_waitingIn_24 : decode cX3_waitingIn 24 = .ok (.getfield 166, 3) := by decide +kernel
theorem dX3_waitingIn_27 : decode cX3_waitingIn 27 = .ok (.iload_n 1, 1) := by decide +kernel
theorem dX3_waitingIn_28 : decode cX3_waitingIn 28 = .ok (.if_icmp .ne 15, 3) := by decide +kernel
theorem dX3_waitingIn_3 : decode cX3_waitingIn 3 = .ok (.istore_n 3, 1) := by decide +kernel
theorem dX3_waitingIn_31 : decode cX3_waitingIn 31 = .ok (.aload_n 0, 1) := by decide +kernel
theorem dX3_waitingIn_32 : decode cX3_waitingIn 32 = .ok (.iload_n 3, 1) := by decide +kernel
theorem dX3_waitingIn_33 : decode cX3_waitingIn 33 = .ok (.invokevirtual 88, 3) := by decide +kernel
theorem dX3_waitingIn_36 : decode cX3_waitingIn 36 = .ok (.iconst 1, 1) := by decide +kernel
theorem dX3_waitingIn_37 : decode cX3_waitingIn 37 = .ok (.if_icmp .ne 6, 3) := by decide +kernel
theorem dX3_waitingIn_4 : decode cX3_waitingIn 4 = .ok (.iload_n 3, 1) := by decide +kernel
theorem dX3_waitingIn_40 : decode cX3_waitingIn 40 = .ok (.iinc 2 1, 3) := by decide +kernel
theorem dX3_waitingIn_43 : decode cX3_waitingIn 43 = .ok (.iinc 3 1, 3) := by decide +kernel
theorem dX3_waitingIn_46 : decode cX3_waitingIn 46 = .ok (.goto (-42), 3) := by decide +kernel
theorem dX3_waitingIn_49 : decode cX3_waitingIn 49 = .ok (.iload_n 2, 1) := by decide +kernel
theorem dX3_waitingIn_5 : decode cX3_waitingIn 5 = .ok (.aload_n 0, 1) := by decide +kernel
theorem dX3_waitingIn_50 : decode cX3_waitingIn 50 = .ok (.ireturn, 1) := by decide +kernel
theorem dX3_waitingIn_6 : decode cX3_waitingIn 6 = .ok (.getfield 43, 3) := by decide +kernel
theorem dX3_waitingIn_9 : decode cX3_waitingIn 9 = .ok (.getfield 85, 3) := by decide +kernel
theorem dX3_workAll_0 : decode cX3_workAll 0 = .ok (.iconst 0, 1) := by decide +kernel
theorem dX3_workAll_1 : decode cX3_workAll 1 = .ok (.istore_n 3, 1) := by decide +kernel
theorem dX3_workAll_10 : decode cX3_workAll 10 = .ok (.if_icmp .ge 77, 3) := by decide +kernel
theorem dX3_workAll_13 : decode cX3_workAll 13 = .ok (.aload_n 0, 1) := by decide +kernel
theorem dX3_workAll_14 : decode cX3_workAll 14 = .ok (.iload_n 3, 1) := by decide +kernel
theorem dX3_workAll_15 : decode cX3_workAll 15 = .ok (.iload_n 1, 1) := by decide +kernel
theorem dX3_workAll_16 : decode cX3_workAll 16 = .ok (.invokevirtual 132, 3) := by decide +kernel
theorem dX3_workAll_19 : decode cX3_workAll 19 = .ok (.ifCond .eq 62, 3) := by decide +kernel
theorem dX3_workAll_2 : decode cX3_workAll 2 = .ok (.iload_n 3, 1) := by decide +kernel
theorem dX3_workAll_22 : decode cX3_workAll 22 = .ok (.aload_n 0, 1) := by decide +kernel
theorem dX3_workAll_23 : decode cX3_workAll 23 = .ok (.getfield 15, 3) := by decide +kernel
theorem dX3_workAll_26 : decode cX3_workAll 26 = .ok (.iload_n 3, 1) := by decide +kernel
theorem dX3_workAll_27 : decode cX3_workAll 27 = .ok (.iaload, 1) := by decide +kernel
theorem dX3_workAll_28 : decode cX3_workAll 28 = .ok (.istore 4, 2) := by decide +kernel
theorem dX3_workAll_3 : decode cX3_workAll 3 = .ok (.aload_n 0, 1) := by decide +kernel
theorem dX3_workAll_30 : decode cX3_workAll 30 = .ok (.aload_n 0, 1) := by decide +kernel
theorem dX3_workAll_31 : decode cX3_workAll 31 = .ok (.getfield 25, 3) := by decide +kernel
theorem dX3_workAll_34 : decode cX3_workAll 34 = .ok (.iload_n 3, 1) := by decide +kernel
theorem dX3_workAll_35 : decode cX3_workAll 35 = .ok (.dup2, 1) := by decide +kernel
theorem dX3_workAll_36 : decode cX3_workAll 36 = .ok (.iaload, 1) := by decide +kernel
theorem dX3_workAll_37 : decode cX3_workAll 37 = .ok (.iload_n 2, 1) := by decide +kernel
theorem dX3_workAll_38 : decode cX3_workAll 38 = .ok (.iadd, 1) := by decide +kernel
theorem dX3_workAll_39 : decode cX3_workAll 39 = .ok (.iastore, 1) := by decide +kernel
theorem dX3_workAll_4 : decode cX3_workAll 4 = .ok (.getfield 43, 3) := by decide +kernel
theorem dX3_workAll_40 : decode cX3_workAll 40 = .ok (.aload_n 0, 1) := by decide +kernel
theorem dX3_workAll_41 : decode cX3_workAll 41 = .ok (.getfield 37, 3) := by decide +kernel
theorem dX3_workAll_44 : decode cX3_workAll 44 = .ok (.iload 4, 2) := by decide +kernel
theorem dX3_workAll_46 : decode cX3_workAll 46 = .ok (.dup2, 1) := by decide +kernel
theorem dX3_workAll_47 : decode cX3_workAll 47 = .ok (.iaload, 1) := by decide +kernel
theorem dX3_workAll_48 : decode cX3_workAll 48 = .ok (.aload_n 0, 1) := by decide +kernel
theorem dX3_workAll_49 : decode cX3_workAll 49 = .ok (.getfield 19, 3) := by decide +kernel
theorem dX3_workAll_52 : decode cX3_workAll 52 = .ok (.iload_n 3, 1) := by decide +kernel
theorem dX3_workAll_53 : decode cX3_workAll 53 = .ok (.iaload, 1) := by decide +kernel
theorem dX3_workAll_54 : decode cX3_workAll 54 = .ok (.iload_n 2, 1) := by decide +kernel
theorem dX3_workAll_55 : decode cX3_workAll 55 = .ok (.imul, 1) := by decide +kernel
theorem dX3_workAll_56 : decode cX3_workAll 56 = .ok (.isub, 1) := by decide +kernel
theorem dX3_workAll_57 : decode cX3_workAll 57 = .ok (.iastore, 1) := by decide +kernel
theorem dX3_workAll_58 : decode cX3_workAll 58 = .ok (.aload_n 0, 1) := by decide +kernel
theorem dX3_workAll_59 : decode cX3_workAll 59 = .ok (.getfield 37, 3) := by decide +kernel
theorem dX3_workAll_62 : decode cX3_workAll 62 = .ok (.iload 4, 2) := by decide +kernel
theorem dX3_workAll_64 : decode cX3_workAll 64 = .ok (.iaload, 1) := by decide +kernel
theorem dX3_workAll_65 : decode cX3_workAll 65 = .ok (.ifCond .gt 16, 3) := by decide +kernel
theorem dX3_workAll_68 : decode cX3_workAll 68 = .ok (.aload_n 0, 1) := by decide +kernel
theorem dX3_workAll_69 : decode cX3_workAll 69 = .ok (.iload_n 3, 1) := by decide +kernel
theorem dX3_workAll_7 : decode cX3_workAll 7 = .ok (.getfield 75, 3) := by decide +kernel
theorem dX3_workAll_70 : decode cX3_workAll 70 = .ok (.iload 4, 2) := by decide +kernel
theorem dX3_workAll_72 : decode cX3_workAll 72 = .ok (.aload_n 0, 1) := by decide +kernel
theorem dX3_workAll_73 : decode cX3_workAll 73 = .ok (.getfield 9, 3) := by decide +kernel
theorem dX3_workAll_76 : decode cX3_workAll 76 = .ok (.iload_n 2, 1) := by decide +kernel
theorem dX3_workAll_77 : decode cX3_workAll 77 = .ok (.iadd, 1) := by decide +kernel
theorem dX3_workAll_78 : decode cX3_workAll 78 = .ok (.invokevirtual 143, 3) := by decide +kernel
theorem dX3_workAll_81 : decode cX3_workAll 81 = .ok (.iinc 3 1, 3) := by decide +kernel
theorem dX3_workAll_84 : decode cX3_workAll 84 = .ok (.goto (-82), 3) := by decide +kernel
theorem dX3_workAll_87 : decode cX3_workAll 87 = .ok (.return_, 1) := by decide +kernel
theorem dX5_hasCorrection_0 : decode cX5_hasCorrection 0 = .ok (.iload_n 1, 1) := by decide +kernel
theorem dX5_hasCorrection_1 : decode cX5_hasCorrection 1 = .ok (.ifCond .lt 15, 3) := by decide +kernel
theorem dX5_hasCorrection_12 : decode cX5_hasCorrection 12 = .ok (.iconst 1, 1) := by decide +kernel
theorem dX5_hasCorrection_13 : decode cX5_hasCorrection 13 = .ok (.goto 4, 3) := by decide +kernel
theorem dX5_hasCorrection_16 : decode cX5_hasCorrection 16 = .ok (.iconst 0, 1) := by decide +kernel
theorem dX5_hasCorrection_17 : decode cX5_hasCorrection 17 = .ok (.ireturn, 1) := by decide +kernel
theorem dX5_hasCorrection_4 : decode cX5_hasCorrection 4 = .ok (.iload_n 1, 1) := by decide +kernel
theorem dX5_hasCorrection_5 : decode cX5_hasCorrection 5 = .ok (.aload_n 0, 1) := by decide +kernel
theorem dX5_hasCorrection_6 : decode cX5_hasCorrection 6 = .ok (.getfield 17, 3) := by decide +kernel
theorem dX5_hasCorrection_9 : decode cX5_hasCorrection 9 = .ok (.if_icmp .ge 7, 3) := by decide +kernel
theorem dX6_allWork_0 : decode cX6_allWork 0 = .ok (.bipush 60, 2) := by decide +kernel
theorem dX6_allWork_12 : decode cX6_allWork 12 = .ok (.imul, 1) := by decide +kernel
theorem dX6_allWork_13 : decode cX6_allWork 13 = .ok (.aload_n 0, 1) := by decide +kernel
theorem dX6_allWork_14 : decode cX6_allWork 14 = .ok (.getfield 15, 3) := by decide +kernel
theorem dX6_allWork_17 : decode cX6_allWork 17 = .ok (.imul, 1) := by decide +kernel
theorem dX6_allWork_18 : decode cX6_allWork 18 = .ok (.iadd, 1) := by decide +kernel
theorem dX6_allWork_19 : decode cX6_allWork 19 = .ok (.ireturn, 1) := by decide +kernel
theorem dX6_allWork_2 : decode cX6_allWork 2 = .ok (.aload_n 0, 1) := by decide +kernel
theorem dX6_allWork_3 : decode cX6_allWork 3 = .ok (.getfield 9, 3) := by decide +kernel
theorem dX6_allWork_6 : decode cX6_allWork 6 = .ok (.imul, 1) := by decide +kernel
theorem dX6_allWork_7 : decode cX6_allWork 7 = .ok (.iconst 2, 1) := by decide +kernel
theorem dX6_allWork_8 : decode cX6_allWork 8 = .ok (.aload_n 0, 1) := by decide +kernel
theorem dX6_allWork_9 : decode cX6_allWork 9 = .ok (.getfield 9, 3) := by decide +kernel
theorem dX6_slipsLeft_0 : decode cX6_slipsLeft 0 = .ok (.aload_n 0, 1) := by decide +kernel
theorem dX6_slipsLeft_1 : decode cX6_slipsLeft 1 = .ok (.getfield 27, 3) := by decide +kernel
theorem dX6_slipsLeft_12 : decode cX6_slipsLeft 12 = .ok (.istore_n 1, 1) := by decide +kernel
theorem dX6_slipsLeft_13 : decode cX6_slipsLeft 13 = .ok (.iload_n 1, 1) := by decide +kernel
theorem dX6_slipsLeft_14 : decode cX6_slipsLeft 14 = .ok (.ifCond .ne 5, 3) := by decide +kernel
theorem dX6_slipsLeft_17 : decode cX6_slipsLeft 17 = .ok (.iconst (-1), 1) := by decide +kernel
theorem dX6_slipsLeft_18 : decode cX6_slipsLeft 18 = .ok (.ireturn, 1) := by decide +kernel
theorem dX6_slipsLeft_19 : decode cX6_slipsLeft 19 = .ok (.aload_n 0, 1) := by decide +kernel
theorem dX6_slipsLeft_20 : decode cX6_slipsLeft 20 = .ok (.getfield 27, 3) := by decide +kernel
theorem dX6_slipsLeft_23 : decode cX6_slipsLeft 23 = .ok (.aload_n 0, 1) := by decide +kernel
theorem dX6_slipsLeft_24 : decode cX6_slipsLeft 24 = .ok (.getfield 30, 3) := by decide +kernel
theorem dX6_slipsLeft_27 : decode cX6_slipsLeft 27 = .ok (.iconst (-1), 1) := by decide +kernel
theorem dX6_slipsLeft_28 : decode cX6_slipsLeft 28 = .ok (.ixor, 1) := by decide +kernel
theorem dX6_slipsLeft_29 : decode cX6_slipsLeft 29 = .ok (.iand, 1) := by decide +kernel
theorem dX6_slipsLeft_30 : decode cX6_slipsLeft 30 = .ok (.invokestatic 21, 3) := by decide +kernel
theorem dX6_slipsLeft_33 : decode cX6_slipsLeft 33 = .ok (.istore_n 2, 1) := by decide +kernel
theorem dX6_slipsLeft_34 : decode cX6_slipsLeft 34 = .ok (.aload_n 0, 1) := by decide +kernel
theorem dX6_slipsLeft_35 : decode cX6_slipsLeft 35 = .ok (.getfield 30, 3) := by decide +kernel
theorem dX6_slipsLeft_38 : decode cX6_slipsLeft 38 = .ok (.aload_n 0, 1) := by decide +kernel
theorem dX6_slipsLeft_39 : decode cX6_slipsLeft 39 = .ok (.getfield 27, 3) := by decide +kernel
theorem dX6_slipsLeft_4 : decode cX6_slipsLeft 4 = .ok (.aload_n 0, 1) := by decide +kernel
theorem dX6_slipsLeft_42 : decode cX6_slipsLeft 42 = .ok (.iconst (-1), 1) := by decide +kernel
theorem dX6_slipsLeft_43 : decode cX6_slipsLeft 43 = .ok (.ixor, 1) := by decide +kernel
theorem dX6_slipsLeft_44 : decode cX6_slipsLeft 44 = .ok (.iand, 1) := by decide +kernel
theorem dX6_slipsLeft_45 : decode cX6_slipsLeft 45 = .ok (.invokestatic 21, 3) := by decide +kernel
theorem dX6_slipsLeft_48 : decode cX6_slipsLeft 48 = .ok (.istore_n 3, 1) := by decide +kernel
theorem dX6_slipsLeft_49 : decode cX6_slipsLeft 49 = .ok (.iload_n 2, 1) := by decide +kernel
theorem dX6_slipsLeft_5 : decode cX6_slipsLeft 5 = .ok (.getfield 30, 3) := by decide +kernel
theorem dX6_slipsLeft_50 : decode cX6_slipsLeft 50 = .ok (.iload_n 3, 1) := by decide +kernel
theorem dX6_slipsLeft_51 : decode cX6_slipsLeft 51 = .ok (.imul, 1) := by decide +kernel
theorem dX6_slipsLeft_52 : decode cX6_slipsLeft 52 = .ok (.iload_n 1, 1) := by decide +kernel
theorem dX6_slipsLeft_53 : decode cX6_slipsLeft 53 = .ok (.idiv, 1) := by decide +kernel
theorem dX6_slipsLeft_54 : decode cX6_slipsLeft 54 = .ok (.ireturn, 1) := by decide +kernel
theorem dX6_slipsLeft_8 : decode cX6_slipsLeft 8 = .ok (.iand, 1) := by decide +kernel
theorem dX6_slipsLeft_9 : decode cX6_slipsLeft 9 = .ok (.invokestatic 21, 3) := by decide +kernel
theorem dX6_unknownTo_0 : decode cX6_unknownTo 0 = .ok (.aload_n 0, 1) := by decide +kernel
theorem dX6_unknownTo_1 : decode cX6_unknownTo 1 = .ok (.getfield 18, 3) := by decide +kernel
theorem dX6_unknownTo_11 : decode cX6_unknownTo 11 = .ok (.ireturn, 1) := by decide +kernel
theorem dX6_unknownTo_4 : decode cX6_unknownTo 4 = .ok (.iload_n 1, 1) := by decide +kernel
theorem dX6_unknownTo_5 : decode cX6_unknownTo 5 = .ok (.iconst (-1), 1) := by decide +kernel
theorem dX6_unknownTo_6 : decode cX6_unknownTo 6 = .ok (.ixor, 1) := by decide +kernel
theorem dX6_unknownTo_7 : decode cX6_unknownTo 7 = .ok (.iand, 1) := by decide +kernel
theorem dX6_unknownTo_8 : decode cX6_unknownTo 8 = .ok (.invokestatic 21, 3) := by decide +kernel
def wo_c_within : List Cond := []
def wm_c_within : List Cond := .code yX11_within cX11_within 3 (some .boolean) :: (wo_c_within ++ ([] : List Cond))
theorem gd_c_within : ∀ w ∈ wm_c_within, goodWord w = true := gd_c rfl (gd_a (by decide) gd_nil)
set_option maxRecDepth 20000 in
theorem im_c_within : ∀ w ∈ wm_c_within, w ∈ lw_tbl := im_c (in_r [.code yX11_within cX11_within 3 (some .boolean)] [596] (by decide +kernel)) (in_app (in_r wo_c_within [] (by decide +kernel)) im_nil)
set_option maxHeartbeats 4000000 in
set_option maxRecDepth 100000 in
theorem c_within (l : Launch) (dC : Nat → ClassId) (dI : Nat → Nat → Nat) (ad av : Nat → Nat) (sz : Nat) (a : Nat → Nat) (k : Nat → ClassId) (τ ln : Nat → Nat) (y : Nat → Nat → Int32) (g : Nat → Nat → Option Nat) (u : Nat → Int) (p0 : Int32) (p1 : Int32) (p2 : Int32) : Met l yX11_within wm_c_within ({ frames := 0, cells := 0, slots := 0, locals := 0 }) (pw_ ad av (dC, dI) sz [.int p0, .int p1, .int p2] a k τ ln y g) (va_Qi (fun (r u : Int32) => u = r) (fun (r : Int32) (t : State) => (r = 1 ∧ p1.toInt ≤ p0.toInt ∧ p0.toInt ≤ p2.toInt ∧ tw (dC, dI) a k τ ln y g t.heap) ∨ (r = 0 ∧ (p0.toInt < p1.toInt ∨ p2.toInt < p0.toInt) ∧ tw (dC, dI) a k τ ln y g t.heap)) (fr τ sz)) 0 0 (fr τ sz) := by
  refine Met.ofW (cc := cX11_within) (maxL := 3) (ret := (some .boolean)) (by decide) rfl ?_
  intro p e s m args below meth c s₁ B hml hv
  obtain ⟨rfl, hsz, hT, hK, hM⟩ := hv
  have hx := B.exec
  have hb := B.bytes
  have hr := B.returns
  have hts := atoms_spec (ws := wm_c_within) B.pre
  have hown : s.vm.findClass RX11 = some m.cls := findClass_of_methodNamed B.named
  have hlocks := B.notSynchronized
  subst hsz
  generalize hAe : fr τ s.heap.size = A at hM ⊢
  have hA : ∀ q : Nat, s.heap.size ≤ q → A q := fun q h => by rw [← hAe]; exact Or.inr h
  have hF : ∀ q, τ q ≠ 0 → A q := fun q h => by rw [← hAe]; exact Or.inl h
  have hS : va_S A s.heap s.heap [] := va_S.rf
  have hl := lv_entry ([.int p0, .int p1, .int p2]) (n := 3) (Nat.le_of_ble_eq_true rfl)
  rw [lg_entry_eq]
  generalize (lg_sl ([.int p0, .int p1, .int p2]) ++ List.replicate (3 - (lg_sl ([.int p0, .int p1, .int p2])).length) Slot.unset).toArray = ls at hl ⊢
  have hl : lv_has ls 3 [(0, .int p0), (1, .int p1), (2, .int p2)] := hl
  refine lv_iload_n hx hb dX11_within_0 rfl (lv_at hl 0 rfl) ?_
  refine lv_iload_n hx hb dX11_within_1 rfl (lv_at hl 1 rfl) ?_
  refine lv_icmp_lt (tgt := 14) hx hb dX11_within_2 (by decide) (fun c_1 => ?_) (fun c_1 => ?_)
  · have nc_1 := z_lt rfl rfl c_1
    refine lv_iconst (v := 0) hx hb dX11_within_14 (by decide) ?_
    have hrv : (0 : Int32).toInt = 0 := (zk (x := 0) 0 rfl)
    exact W.zret (v := 0) hx hb hr (by decide) (fun t ht hW9 => ⟨⟨0, 0, rfl, rfl, Or.inr (⟨rfl, by omega, tw_at ht hT⟩)⟩, hS.F ht⟩) hS.2.2 dX11_within_15
  · have nc_1 := z_nlt rfl rfl c_1
    refine lv_iload_n hx hb dX11_within_5 rfl (lv_at hl 0 rfl) ?_
    refine lv_iload_n hx hb dX11_within_6 rfl (lv_at hl 2 rfl) ?_
    refine lv_icmp_gt (tgt := 14) hx hb dX11_within_7 (by decide) (fun c_2 => ?_) (fun c_2 => ?_)
    · have nc_2 := z_lt rfl rfl c_2
      refine lv_iconst (v := 0) hx hb dX11_within_14 (by decide) ?_
      have hrv : (0 : Int32).toInt = 0 := (zk (x := 0) 0 rfl)
      exact W.zret (v := 0) hx hb hr (by decide) (fun t ht hW9 => ⟨⟨0, 0, rfl, rfl, Or.inr (⟨rfl, by omega, tw_at ht hT⟩)⟩, hS.F ht⟩) hS.2.2 dX11_within_15
    · have nc_2 := z_nlt rfl rfl c_2
      refine lv_iconst (v := 1) hx hb dX11_within_10 (by decide) ?_
      refine lv_goto (tgt := 15) hx hb dX11_within_11 (by decide) ?_
      have hrv : (1 : Int32).toInt = 1 := (zk (x := 1) 1 rfl)
      exact W.zret (v := 1) hx hb hr (by decide) (fun t ht hW9 => ⟨⟨1, 1, rfl, rfl, Or.inl ⟨rfl, by omega, by omega, tw_at ht hT⟩⟩, hS.F ht⟩) hS.2.2 dX11_within_15
def wo_c_minutesFor : List Cond := []
def wm_c_minutesFor : List Cond := .code yX11_minutesFor cX11_minutesFor 2 (some .int) :: (wo_c_minutesFor ++ ([] : List Cond))
theorem gd_c_minutesFor : ∀ w ∈ wm_c_minutesFor, goodWord w = true := gd_c rfl (gd_a (by decide) gd_nil)
set_option maxRecDepth 20000 in
theorem im_c_minutesFor : ∀ w ∈ wm_c_minutesFor, w ∈ lw_tbl := im_c (in_r [.code yX11_minutesFor cX11_minutesFor 2 (some .int)] [846] (by decide +kernel)) (in_app (in_r wo_c_minutesFor [] (by decide +kernel)) im_nil)
set_option maxHeartbeats 4000000 in
set_option maxRecDepth 100000 in
theorem c_minutesFor (l : Launch) (dC : Nat → ClassId) (dI : Nat → Nat → Nat) (ad av : Nat → Nat) (sz : Nat) (a : Nat → Nat) (k : Nat → ClassId) (τ ln : Nat → Nat) (y : Nat → Nat → Int32) (g : Nat → Nat → Option Nat) (u : Nat → Int) (p0 : Int32) (p1 : Int32) : Met l yX11_minutesFor wm_c_minutesFor ({ frames := 0, cells := 0, slots := 0, locals := 0 }) (pw_ ad av (dC, dI) sz [.int p0, .int p1] a k τ ln y g) (va_Qi (fun (r u : Int32) => u = r) (fun (r : Int32) (t : State) => (tw (dC, dI) a k τ ln y g t.heap)) (fr τ sz)) 0 0 (fr τ sz) := by
  refine Met.ofW (cc := cX11_minutesFor) (maxL := 2) (ret := (some .int)) (by decide) rfl ?_
  intro p e s m args below meth c s₁ B hml hv
  obtain ⟨rfl, hsz, hT, hK, hM⟩ := hv
  have hx := B.exec
  have hb := B.bytes
  have hr := B.returns
  have hts := atoms_spec (ws := wm_c_minutesFor) B.pre
  have hown : s.vm.findClass RX11 = some m.cls := findClass_of_methodNamed B.named
  have hlocks := B.notSynchronized
  subst hsz
  generalize hAe : fr τ s.heap.size = A at hM ⊢
  have hA : ∀ q : Nat, s.heap.size ≤ q → A q := fun q h => by rw [← hAe]; exact Or.inr h
  have hF : ∀ q, τ q ≠ 0 → A q := fun q h => by rw [← hAe]; exact Or.inl h
  have hS : va_S A s.heap s.heap [] := va_S.rf
  have hl := lv_entry ([.int p0, .int p1]) (n := 2) (Nat.le_of_ble_eq_true rfl)
  rw [lg_entry_eq]
  generalize (lg_sl ([.int p0, .int p1]) ++ List.replicate (2 - (lg_sl ([.int p0, .int p1])).length) Slot.unset).toArray = ls at hl ⊢
  have hl : lv_has ls 2 [(0, .int p0), (1, .int p1)] := hl
  refine lv_iload_n hx hb dX11_minutesFor_0 rfl (lv_at hl 1 rfl) ?_
  refine lv_iconst (v := 1) hx hb dX11_minutesFor_1 (by decide) ?_
  refine lv_icmp_ge (tgt := 9) hx hb dX11_minutesFor_2 (by decide) (fun c_1 => ?_) (fun c_1 => ?_)
  · have nc_1 := z_le (zk (x := 1) 1 rfl) rfl c_1
    refine lv_iload_n hx hb dX11_minutesFor_9 rfl (lv_at hl 0 rfl) ?_
    refine lv_iload_n hx hb dX11_minutesFor_10 rfl (lv_at hl 1 rfl) ?_
    refine lv_iadd hx hb dX11_minutesFor_11 ?_
    refine lv_topi (fun x_2 ex_2 => ?_)
    refine lv_iconst (v := 1) hx hb dX11_minutesFor_12 (by decide) ?_
    refine lv_isub hx hb dX11_minutesFor_13 ?_
    refine lv_topi (fun x_3 ex_3 => ?_)
    refine lv_iload_n hx hb dX11_minutesFor_14 rfl (lv_at hl 1 rfl) ?_
    refine lv_idiv hx hb dX11_minutesFor_15 (z_n0 rfl (by omega)) ?_
    refine lv_topi (fun x_4 ex_4 => ?_)
    exact W.iret (v := x_4) hx hb hr (fun t ht hW9 => ⟨⟨x_4, x_4, rfl, rfl, (tw_at ht hT)⟩, hS.F ht⟩) hS.2.2 dX11_minutesFor_16
  · have nc_1 := z_nle (zk (x := 1) 1 rfl) rfl c_1
    refine lv_iconst (v := 1) hx hb dX11_minutesFor_5 (by decide) ?_
    refine lv_goto (tgt := 16) hx hb dX11_minutesFor_6 (by decide) ?_
    exact W.iret (v := 1) hx hb hr (fun t ht hW9 => ⟨⟨1, 1, rfl, rfl, (tw_at ht hT)⟩, hS.F ht⟩) hS.2.2 dX11_minutesFor_16
def wo_c_hasHand : List Cond := [.fieldLink RX1 25 "TypingPool$Book" "handCount" "I"]
def wm_c_hasHand : List Cond := .code yX1_hasHand cX1_hasHand 2 (some .boolean) :: (wo_c_hasHand ++ (wsX10 ++ ([] : List Cond)))
theorem gd_c_hasHand : ∀ w ∈ wm_c_hasHand, goodWord w = true := gd_c rfl (gd_a (by decide) (gd_a gd_wsX10 gd_nil))
set_option maxRecDepth 20000 in
theorem im_c_hasHand : ∀ w ∈ wm_c_hasHand, w ∈ lw_tbl := im_c (in_r [.code yX1_hasHand cX1_hasHand 2 (some .boolean)] [632] (by decide +kernel)) (in_app (in_r wo_c_hasHand [123] (by decide +kernel)) (in_app im_wsX10 im_nil))
set_option maxHeartbeats 4000000 in
set_option maxRecDepth 100000 in
theorem c_hasHand (l : Launch) (dC : Nat → ClassId) (dI : Nat → Nat → Nat) (ad av : Nat → Nat) (sz : Nat) (a : Nat → Nat) (k : Nat → ClassId) (τ ln : Nat → Nat) (y : Nat → Nat → Int32) (g : Nat → Nat → Option Nat) (u : Nat → Int) (p0 : Int32) (hI : IC a u τ ln y g) : Met l yX1_hasHand wm_c_hasHand ({ frames := 0, cells := 0, slots := 0, locals := 0 }) (pw_ ad av (dC, dI) sz [.ref (a 1), .int p0] a k τ ln y g) (va_Qi (fun (r u : Int32) => u = r) (fun (r : Int32) (t : State) => (r = 1 ∧ 0 ≤ p0.toInt ∧ p0.toInt < u 1 ∧ tw (dC, dI) a k τ ln y g t.heap) ∨ (r = 0 ∧ (p0.toInt < 0 ∨ u 1 ≤ p0.toInt) ∧ tw (dC, dI) a k τ ln y g t.heap)) (fr τ sz)) 0 0 (fr τ sz) := by
  refine Met.ofW (cc := cX1_hasHand) (maxL := 2) (ret := (some .boolean)) (by decide) rfl ?_
  intro p e s m args below meth c s₁ B hml hv
  obtain ⟨rfl, hsz, hT, hK, hM⟩ := hv
  have hx := B.exec
  have hb := B.bytes
  have hr := B.returns
  have hts := atoms_spec (ws := wm_c_hasHand) B.pre
  have hown : s.vm.findClass RX1 = some m.cls := findClass_of_methodNamed B.named
  have hlocks := B.notSynchronized
  subst hsz
  generalize hAe : fr τ s.heap.size = A at hM ⊢
  have hA : ∀ q : Nat, s.heap.size ≤ q → A q := fun q h => by rw [← hAe]; exact Or.inr h
  have hF : ∀ q, τ q ≠ 0 → A q := fun q h => by rw [← hAe]; exact Or.inl h
  have hS : va_S A s.heap s.heap [] := va_S.rf
  have hX := hI.1
  have hR := ic_r hI
  have hl := lv_entry ([.ref (a 1), .int p0]) (n := 2) (Nat.le_of_ble_eq_true rfl)
  rw [lg_entry_eq]
  generalize (lg_sl ([.ref (a 1), .int p0]) ++ List.replicate (2 - (lg_sl ([.ref (a 1), .int p0])).length) Slot.unset).toArray = ls at hl ⊢
  have hl : lv_has ls 2 [(0, .ref (a 1)), (1, .int p0)] := hl
  refine lv_iload_n hx hb dX1_hasHand_0 rfl (lv_at hl 1 rfl) ?_
  refine lv_if_lt (tgt := 16) hx hb dX1_hasHand_1 (by decide) (fun c_1 => ?_) (fun c_1 => ?_)
  · have nc_1 := z_lt rfl (zk (x := 0) 0 rfl) c_1
    refine lv_iconst (v := 0) hx hb dX1_hasHand_16 (by decide) ?_
    have hrv : (0 : Int32).toInt = 0 := (zk (x := 0) 0 rfl)
    exact W.zret (v := 0) hx hb hr (by decide) (fun t ht hW9 => ⟨⟨0, 0, rfl, rfl, Or.inr (⟨rfl, by omega, tw_at ht hT⟩)⟩, hS.F ht⟩) hS.2.2 dX1_hasHand_17
  · have nc_1 := z_nlt rfl (zk (x := 0) 0 rfl) c_1
    refine lv_iload_n hx hb dX1_hasHand_4 rfl (lv_at hl 1 rfl) ?_
    refine lv_aload_n hx hb dX1_hasHand_5 rfl (lv_at hl 0 rfl) ?_
    refine tw_get (D := (dC, dI)) (v := .int (y (a 1) 3)) (C := RX1) (T := TX1) (N := 8) hx hb hts (fun _ hh => (List.mem_cons_of_mem _ (List.mem_append_right _ (List.mem_append_left _ hh)))) hown hK hT (fx_1 hX) (by decide) cl_e11 rfl 3 (by decide) (hts (.fieldLink RX1 25 "TypingPool$Book" "handCount" "I") (List.mem_cons_of_mem _ (List.mem_append_left _ (List.mem_of_getElem? (i := 0) rfl)))) (fun _ h9 => h9) rfl dX1_hasHand_6 ?_
    have hc_2 := ic_1 hI
    refine lv_icmp_ge (tgt := 16) hx hb dX1_hasHand_9 (by decide) (fun c_3 => ?_) (fun c_3 => ?_)
    · have nc_3 := z_le hc_2 rfl c_3
      refine lv_iconst (v := 0) hx hb dX1_hasHand_16 (by decide) ?_
      have hrv : (0 : Int32).toInt = 0 := (zk (x := 0) 0 rfl)
      exact W.zret (v := 0) hx hb hr (by decide) (fun t ht hW9 => ⟨⟨0, 0, rfl, rfl, Or.inr (⟨rfl, by omega, tw_at ht hT⟩)⟩, hS.F ht⟩) hS.2.2 dX1_hasHand_17
    · have nc_3 := z_nle hc_2 rfl c_3
      refine lv_iconst (v := 1) hx hb dX1_hasHand_12 (by decide) ?_
      refine lv_goto (tgt := 17) hx hb dX1_hasHand_13 (by decide) ?_
      have hrv : (1 : Int32).toInt = 1 := (zk (x := 1) 1 rfl)
      exact W.zret (v := 1) hx hb hr (by decide) (fun t ht hW9 => ⟨⟨1, 1, rfl, rfl, Or.inl ⟨rfl, by omega, by omega, tw_at ht hT⟩⟩, hS.F ht⟩) hS.2.2 dX1_hasHand_17
def wo_c_hasPiece : List Cond := [.fieldLink RX1 34 "TypingPool$Book" "pieceCount" "I"]
def wm_c_hasPiece : List Cond := .code yX1_hasPiece cX1_hasPiece 2 (some .boolean) :: (wo_c_hasPiece ++ (wsX10 ++ ([] : List Cond)))
theorem gd_c_hasPiece : ∀ w ∈ wm_c_hasPiece, goodWord w = true := gd_c rfl (gd_a (by decide) (gd_a gd_wsX10 gd_nil))
set_option maxRecDepth 20000 in
theorem im_c_hasPiece : ∀ w ∈ wm_c_hasPiece, w ∈ lw_tbl := im_c (in_r [.code yX1_hasPiece cX1_hasPiece 2 (some .boolean)] [843] (by decide +kernel)) (in_app (in_r wo_c_hasPiece [131] (by decide +kernel)) (in_app im_wsX10 im_nil))
set_option maxHeartbeats 4000000 in
set_option maxRecDepth 100000 in
theorem c_hasPiece (l : Launch) (dC : Nat → ClassId) (dI : Nat → Nat → Nat) (ad av : Nat → Nat) (sz : Nat) (a : Nat → Nat) (k : Nat → ClassId) (τ ln : Nat → Nat) (y : Nat → Nat → Int32) (g : Nat → Nat → Option Nat) (u : Nat → Int) (p0 : Int32) (hI : IC a u τ ln y g) : Met l yX1_hasPiece wm_c_hasPiece ({ frames := 0, cells := 0, slots := 0, locals := 0 }) (pw_ ad av (dC, dI) sz [.ref (a 1), .int p0] a k τ ln y g) (va_Qi (fun (r u : Int32) => u = r) (fun (r : Int32) (t : State) => (r = 1 ∧ 0 ≤ p0.toInt ∧ p0.toInt < u 2 ∧ tw (dC, dI) a k τ ln y g t.heap) ∨ (r = 0 ∧ (p0.toInt < 0 ∨ u 2 ≤ p0.toInt) ∧ tw (dC, dI) a k τ ln y g t.heap)) (fr τ sz)) 0 0 (fr τ sz) := by
  refine Met.ofW (cc := cX1_hasPiece) (maxL := 2) (ret := (some .boolean)) (by decide) rfl ?_
  intro p e s m args below meth c s₁ B hml hv
  obtain ⟨rfl, hsz, hT, hK, hM⟩ := hv
  have hx := B.exec
  have hb := B.bytes
  have hr := B.returns
  have hts := atoms_spec (ws := wm_c_hasPiece) B.pre
  have hown : s.vm.findClass RX1 = some m.cls := findClass_of_methodNamed B.named
  have hlocks := B.notSynchronized
  subst hsz
  generalize hAe : fr τ s.heap.size = A at hM ⊢
  have hA : ∀ q : Nat, s.heap.size ≤ q → A q := fun q h => by rw [← hAe]; exact Or.inr h
  have hF : ∀ q, τ q ≠ 0 → A q := fun q h => by rw [← hAe]; exact Or.inl h
  have hS : va_S A s.heap s.heap [] := va_S.rf
  have hX := hI.1
  have hR := ic_r hI
  have hl := lv_entry ([.ref (a 1), .int p0]) (n := 2) (Nat.le_of_ble_eq_true rfl)
  rw [lg_entry_eq]
  generalize (lg_sl ([.ref (a 1), .int p0]) ++ List.replicate (2 - (lg_sl ([.ref (a 1), .int p0])).length) Slot.unset).toArray = ls at hl ⊢
  have hl : lv_has ls 2 [(0, .ref (a 1)), (1, .int p0)] := hl
  refine lv_iload_n hx hb dX1_hasPiece_0 rfl (lv_at hl 1 rfl) ?_
  refine lv_if_lt (tgt := 16) hx hb dX1_hasPiece_1 (by decide) (fun c_1 => ?_) (fun c_1 => ?_)
  · have nc_1 := z_lt rfl (zk (x := 0) 0 rfl) c_1
    refine lv_iconst (v := 0) hx hb dX1_hasPiece_16 (by decide) ?_
    have hrv : (0 : Int32).toInt = 0 := (zk (x := 0) 0 rfl)
    exact W.zret (v := 0) hx hb hr (by decide) (fun t ht hW9 => ⟨⟨0, 0, rfl, rfl, Or.inr (⟨rfl, by omega, tw_at ht hT⟩)⟩, hS.F ht⟩) hS.2.2 dX1_hasPiece_17
  · have nc_1 := z_nlt rfl (zk (x := 0) 0 rfl) c_1
    refine lv_iload_n hx hb dX1_hasPiece_4 rfl (lv_at hl 1 rfl) ?_
    refine lv_aload_n hx hb dX1_hasPiece_5 rfl (lv_at hl 0 rfl) ?_
    refine tw_get (D := (dC, dI)) (v := .int (y (a 1) 5)) (C := RX1) (T := TX1) (N := 8) hx hb hts (fun _ hh => (List.mem_cons_of_mem _ (List.mem_append_right _ (List.mem_append_left _ hh)))) hown hK hT (fx_1 hX) (by decide) cl_e11 rfl 5 (by decide) (hts (.fieldLink RX1 34 "TypingPool$Book" "pieceCount" "I") (List.mem_cons_of_mem _ (List.mem_append_left _ (List.mem_of_getElem? (i := 0) rfl)))) (fun _ h9 => h9) rfl dX1_hasPiece_6 ?_
    have hc_2 := ic_2 hI
    refine lv_icmp_ge (tgt := 16) hx hb dX1_hasPiece_9 (by decide) (fun c_3 => ?_) (fun c_3 => ?_)
    · have nc_3 := z_le hc_2 rfl c_3
      refine lv_iconst (v := 0) hx hb dX1_hasPiece_16 (by decide) ?_
      have hrv : (0 : Int32).toInt = 0 := (zk (x := 0) 0 rfl)
      exact W.zret (v := 0) hx hb hr (by decide) (fun t ht hW9 => ⟨⟨0, 0, rfl, rfl, Or.inr (⟨rfl, by omega, tw_at ht hT⟩)⟩, hS.F ht⟩) hS.2.2 dX1_hasPiece_17
    · have nc_3 := z_nle hc_2 rfl c_3
      refine lv_iconst (v := 1) hx hb dX1_hasPiece_12 (by decide) ?_
      refine lv_goto (tgt := 17) hx hb dX1_hasPiece_13 (by decide) ?_
      have hrv : (1 : Int32).toInt = 1 := (zk (x := 1) 1 rfl)
      exact W.zret (v := 1) hx hb hr (by decide) (fun t ht hW9 => ⟨⟨1, 1, rfl, rfl, Or.inl ⟨rfl, by omega, by omega, tw_at ht hT⟩⟩, hS.F ht⟩) hS.2.2 dX1_hasPiece_17
def wo_c_hasCorrection : List Cond := [.fieldLink RX5 17 "TypingPool$Ledger" "count" "I"]
def wm_c_hasCorrection : List Cond := .code yX5_hasCorrection cX5_hasCorrection 2 (some .boolean) :: (wo_c_hasCorrection ++ (wsX50 ++ ([] : List Cond)))
theorem gd_c_hasCorrection : ∀ w ∈ wm_c_hasCorrection, goodWord w = true := gd_c rfl (gd_a (by decide) (gd_a gd_wsX50 gd_nil))
set_option maxRecDepth 20000 in
theorem im_c_hasCorrection : ∀ w ∈ wm_c_hasCorrection, w ∈ lw_tbl := im_c (in_r [.code yX5_hasCorrection cX5_hasCorrection 2 (some .boolean)] [939] (by decide +kernel)) (in_app (in_r wo_c_hasCorrection [492] (by decide +kernel)) (in_app im_wsX50 im_nil))
set_option maxHeartbeats 4000000 in
set_option maxRecDepth 100000 in
theorem c_hasCorrection (l : Launch) (dC : Nat → ClassId) (dI : Nat → Nat → Nat) (ad av : Nat → Nat) (sz : Nat) (a : Nat → Nat) (k : Nat → ClassId) (τ ln : Nat → Nat) (y : Nat → Nat → Int32) (g : Nat → Nat → Option Nat) (u : Nat → Int) (p0 : Int32) (hI : IC a u τ ln y g) : Met l yX5_hasCorrection wm_c_hasCorrection ({ frames := 0, cells := 0, slots := 0, locals := 0 }) (pw_ ad av (dC, dI) sz [.ref (a 5), .int p0] a k τ ln y g) (va_Qi (fun (r u : Int32) => u = r) (fun (r : Int32) (t : State) => (r = 1 ∧ 0 ≤ p0.toInt ∧ p0.toInt < u 5 ∧ tw (dC, dI) a k τ ln y g t.heap) ∨ (r = 0 ∧ tw (dC, dI) a k τ ln y g t.heap)) (fr τ sz)) 0 0 (fr τ sz) := by
  refine Met.ofW (cc := cX5_hasCorrection) (maxL := 2) (ret := (some .boolean)) (by decide) rfl ?_
  intro p e s m args below meth c s₁ B hml hv
  obtain ⟨rfl, hsz, hT, hK, hM⟩ := hv
  have hx := B.exec
  have hb := B.bytes
  have hr := B.returns
  have hts := atoms_spec (ws := wm_c_hasCorrection) B.pre
  have hown : s.vm.findClass RX5 = some m.cls := findClass_of_methodNamed B.named
  have hlocks := B.notSynchronized
  subst hsz
  generalize hAe : fr τ s.heap.size = A at hM ⊢
  have hA : ∀ q : Nat, s.heap.size ≤ q → A q := fun q h => by rw [← hAe]; exact Or.inr h
  have hF : ∀ q, τ q ≠ 0 → A q := fun q h => by rw [← hAe]; exact Or.inl h
  have hS : va_S A s.heap s.heap [] := va_S.rf
  have hX := hI.1
  have hR := ic_r hI
  have hl := lv_entry ([.ref (a 5), .int p0]) (n := 2) (Nat.le_of_ble_eq_true rfl)
  rw [lg_entry_eq]
  generalize (lg_sl ([.ref (a 5), .int p0]) ++ List.replicate (2 - (lg_sl ([.ref (a 5), .int p0])).length) Slot.unset).toArray = ls at hl ⊢
  have hl : lv_has ls 2 [(0, .ref (a 5)), (1, .int p0)] := hl
  refine lv_iload_n hx hb dX5_hasCorrection_0 rfl (lv_at hl 1 rfl) ?_
  refine lv_if_lt (tgt := 16) hx hb dX5_hasCorrection_1 (by decide) (fun c_1 => ?_) (fun c_1 => ?_)
  · have nc_1 := z_lt rfl (zk (x := 0) 0 rfl) c_1
    refine lv_iconst (v := 0) hx hb dX5_hasCorrection_16 (by decide) ?_
    exact W.zret (v := 0) hx hb hr (by decide) (fun t ht hW9 => ⟨⟨0, 0, rfl, rfl, Or.inr (⟨rfl, tw_at ht hT⟩)⟩, hS.F ht⟩) hS.2.2 dX5_hasCorrection_17
  · have nc_1 := z_nlt rfl (zk (x := 0) 0 rfl) c_1
    refine lv_iload_n hx hb dX5_hasCorrection_4 rfl (lv_at hl 1 rfl) ?_
    refine lv_aload_n hx hb dX5_hasCorrection_5 rfl (lv_at hl 0 rfl) ?_
    refine tw_get (D := (dC, dI)) (v := .int (y (a 5) 4)) (C := RX5) (T := TX5) (N := 6) hx hb hts (fun _ hh => (List.mem_cons_of_mem _ (List.mem_append_right _ (List.mem_append_left _ hh)))) hown hK hT (fx_5 hX) (by decide) cl_e15 rfl 4 (by decide) (hts (.fieldLink RX5 17 "TypingPool$Ledger" "count" "I") (List.mem_cons_of_mem _ (List.mem_append_left _ (List.mem_of_getElem? (i := 0) rfl)))) (fun _ h9 => h9) rfl dX5_hasCorrection_6 ?_
    have hc_2 := ic_5 hI
    refine lv_icmp_ge (tgt := 16) hx hb dX5_hasCorrection_9 (by decide) (fun c_3 => ?_) (fun c_3 => ?_)
    · have nc_3 := z_le hc_2 rfl c_3
      refine lv_iconst (v := 0) hx hb dX5_hasCorrection_16 (by decide) ?_
      exact W.zret (v := 0) hx hb hr (by decide) (fun t ht hW9 => ⟨⟨0, 0, rfl, rfl, Or.inr (⟨rfl, tw_at ht hT⟩)⟩, hS.F ht⟩) hS.2.2 dX5_hasCorrection_17
    · have nc_3 := z_nle hc_2 rfl c_3
      refine lv_iconst (v := 1) hx hb dX5_hasCorrection_12 (by decide) ?_
      refine lv_goto (tgt := 17) hx hb dX5_hasCorrection_13 (by decide) ?_
      have hrv : (1 : Int32).toInt = 1 := (zk (x := 1) 1 rfl)
      exact W.zret (v := 1) hx hb hr (by decide) (fun t ht hW9 => ⟨⟨1, 1, rfl, rfl, Or.inl ⟨rfl, by omega, by omega, tw_at ht hT⟩⟩, hS.F ht⟩) hS.2.2 dX5_hasCorrection_17
def wo_c_earlierBehind : List Cond := []
def wm_c_earlierBehind : List Cond := .code yX1_earlierBehind cX1_earlierBehind 3 (some .int) :: (wo_c_earlierBehind ++ ([] : List Cond))
theorem gd_c_earlierBehind : ∀ w ∈ wm_c_earlierBehind, goodWord w = true := gd_c rfl (gd_a (by decide) gd_nil)
set_option maxRecDepth 20000 in
theorem im_c_earlierBehind : ∀ w ∈ wm_c_earlierBehind, w ∈ lw_tbl := im_c (in_r [.code yX1_earlierBehind cX1_earlierBehind 3 (some .int)] [835] (by decide +kernel)) (in_app (in_r wo_c_earlierBehind [] (by decide +kernel)) im_nil)
set_option maxHeartbeats 4000000 in
set_option maxRecDepth 100000 in
theorem c_earlierBehind (l : Launch) (dC : Nat → ClassId) (dI : Nat → Nat → Nat) (ad av : Nat → Nat) (sz : Nat) (a : Nat → Nat) (k : Nat → ClassId) (τ ln : Nat → Nat) (y : Nat → Nat → Int32) (g : Nat → Nat → Option Nat) (u : Nat → Int) (p0 : Int32) (p1 : Int32) (p2 : Int32) : Met l yX1_earlierBehind wm_c_earlierBehind ({ frames := 0, cells := 0, slots := 0, locals := 0 }) (pw_ ad av (dC, dI) sz [.int p0, .int p1, .int p2] a k τ ln y g) (va_Qi (fun (r u : Int32) => u = r) (fun (r : Int32) (t : State) => (tw (dC, dI) a k τ ln y g t.heap)) (fr τ sz)) 0 0 (fr τ sz) := by
  refine Met.ofW (cc := cX1_earlierBehind) (maxL := 3) (ret := (some .int)) (by decide) rfl ?_
  intro p e s m args below meth c s₁ B hml hv
  obtain ⟨rfl, hsz, hT, hK, hM⟩ := hv
  have hx := B.exec
  have hb := B.bytes
  have hr := B.returns
  have hts := atoms_spec (ws := wm_c_earlierBehind) B.pre
  have hown : s.vm.findClass RX1 = some m.cls := findClass_of_methodNamed B.named
  have hlocks := B.notSynchronized
  subst hsz
  generalize hAe : fr τ s.heap.size = A at hM ⊢
  have hA : ∀ q : Nat, s.heap.size ≤ q → A q := fun q h => by rw [← hAe]; exact Or.inr h
  have hF : ∀ q, τ q ≠ 0 → A q := fun q h => by rw [← hAe]; exact Or.inl h
  have hS : va_S A s.heap s.heap [] := va_S.rf
  have hl := lv_entry ([.int p0, .int p1, .int p2]) (n := 3) (Nat.le_of_ble_eq_true rfl)
  rw [lg_entry_eq]
  generalize (lg_sl ([.int p0, .int p1, .int p2]) ++ List.replicate (3 - (lg_sl ([.int p0, .int p1, .int p2])).length) Slot.unset).toArray = ls at hl ⊢
  have hl : lv_has ls 3 [(0, .int p0), (1, .int p1), (2, .int p2)] := hl
  refine lv_iload_n hx hb dX1_earlierBehind_0 rfl (lv_at hl 1 rfl) ?_
  refine lv_iload_n hx hb dX1_earlierBehind_1 rfl (lv_at hl 0 rfl) ?_
  refine lv_icmp_le (tgt := 14) hx hb dX1_earlierBehind_2 (by decide) (fun c_1 => ?_) (fun c_1 => ?_)
  · have nc_1 := z_le rfl rfl c_1
    refine lv_iload_n hx hb dX1_earlierBehind_14 rfl (lv_at hl 2 rfl) ?_
    exact W.iret (v := p2) hx hb hr (fun t ht hW9 => ⟨⟨p2, p2, rfl, rfl, (tw_at ht hT)⟩, hS.F ht⟩) hS.2.2 dX1_earlierBehind_15
  · have nc_1 := z_nle rfl rfl c_1
    refine lv_iload_n hx hb dX1_earlierBehind_5 rfl (lv_at hl 1 rfl) ?_
    refine lv_iload_n hx hb dX1_earlierBehind_6 rfl (lv_at hl 2 rfl) ?_
    refine lv_icmp_ge (tgt := 14) hx hb dX1_earlierBehind_7 (by decide) (fun c_2 => ?_) (fun c_2 => ?_)
    · have nc_2 := z_le rfl rfl c_2
      refine lv_iload_n hx hb dX1_earlierBehind_14 rfl (lv_at hl 2 rfl) ?_
      exact W.iret (v := p2) hx hb hr (fun t ht hW9 => ⟨⟨p2, p2, rfl, rfl, (tw_at ht hT)⟩, hS.F ht⟩) hS.2.2 dX1_earlierBehind_15
    · have nc_2 := z_nle rfl rfl c_2
      refine lv_iload_n hx hb dX1_earlierBehind_10 rfl (lv_at hl 1 rfl) ?_
      refine lv_goto (tgt := 15) hx hb dX1_earlierBehind_11 (by decide) ?_
      exact W.iret (v := p1) hx hb hr (fun t ht hW9 => ⟨⟨p1, p1, rfl, rfl, (tw_at ht hT)⟩, hS.F ht⟩) hS.2.2 dX1_earlierBehind_15
def wo_c_awayMask : List Cond := [.fieldLink RX1 43 "TypingPool$Book" "awayCount" "I", .fieldLink RX1 39 "TypingPool$Book" "aways" "[LTypingPool$Away;", .fieldLink RX1 46 "TypingPool$Away" "from" "I", .fieldLink RX1 49 "TypingPool$Away" "to" "I", .fieldLink RX1 52 "TypingPool$Away" "hand" "I"]
def wm_c_awayMask : List Cond := .code yX1_awayMask cX1_awayMask 5 (some .int) :: (wo_c_awayMask ++ (wsX10 ++ (wsX00 ++ ([] : List Cond))))
theorem gd_c_awayMask : ∀ w ∈ wm_c_awayMask, goodWord w = true := gd_c rfl (gd_a (by decide) (gd_a gd_wsX10 (gd_a gd_wsX00 gd_nil)))
set_option maxRecDepth 20000 in
theorem im_c_awayMask : ∀ w ∈ wm_c_awayMask, w ∈ lw_tbl := im_c (in_r [.code yX1_awayMask cX1_awayMask 5 (some .int)] [758] (by decide +kernel)) (in_app (in_r wo_c_awayMask [136, 135, 642, 644, 640] (by decide +kernel)) (in_app im_wsX10 (in_app im_wsX00 im_nil)))
set_option maxHeartbeats 4000000 in
set_option maxRecDepth 100000 in
theorem c_awayMask (l : Launch) (dC : Nat → ClassId) (dI : Nat → Nat → Nat) (ad av : Nat → Nat) (sz : Nat) (a : Nat → Nat) (k : Nat → ClassId) (τ ln : Nat → Nat) (y : Nat → Nat → Int32) (g : Nat → Nat → Option Nat) (u : Nat → Int) (p0 : Int32) (hI : IC a u τ ln y g) : Met l yX1_awayMask wm_c_awayMask ({ frames := 0, cells := 0, slots := 0, locals := 0 }) (pw_ ad av (dC, dI) sz [.ref (a 1), .int p0] a k τ ln y g) (va_Qi (fun (r u : Int32) => u = r) (fun (r : Int32) (t : State) => (tw (dC, dI) a k τ ln y g t.heap)) (fr τ sz)) 0 0 (fr τ sz) := by
  refine Met.ofW (cc := cX1_awayMask) (maxL := 5) (ret := (some .int)) (by decide) rfl ?_
  intro p e s m args below meth c s₁ B hml hv
  obtain ⟨rfl, hsz, hT, hK, hM⟩ := hv
  have hx := B.exec
  have hb := B.bytes
  have hr := B.returns
  have hts := atoms_spec (ws := wm_c_awayMask) B.pre
  have hown : s.vm.findClass RX1 = some m.cls := findClass_of_methodNamed B.named
  have hlocks := B.notSynchronized
  subst hsz
  generalize hAe : fr τ s.heap.size = A at hM ⊢
  have hA : ∀ q : Nat, s.heap.size ≤ q → A q := fun q h => by rw [← hAe]; exact Or.inr h
  have hF : ∀ q, τ q ≠ 0 → A q := fun q h => by rw [← hAe]; exact Or.inl h
  have hS : va_S A s.heap s.heap [] := va_S.rf
  have hX := hI.1
  have hR := ic_r hI
  have hl := lv_entry ([.ref (a 1), .int p0]) (n := 5) (Nat.le_of_ble_eq_true rfl)
  rw [lg_entry_eq]
  generalize (lg_sl ([.ref (a 1), .int p0]) ++ List.replicate (5 - (lg_sl ([.ref (a 1), .int p0])).length) Slot.unset).toArray = ls at hl ⊢
  have hl : lv_has ls 5 [(0, .ref (a 1)), (1, .int p0)] := hl
  refine lv_iconst (v := 0) hx hb dX1_awayMask_0 (by decide) ?_
  refine lv_istore_n (lv' := [(2, .int 0), (0, .ref (a 1)), (1, .int p0)]) hx hb dX1_awayMask_1 rfl hl (by decide) rfl (fun ls hl => ?_)
  refine lv_iconst (v := 0) hx hb dX1_awayMask_2 (by decide) ?_
  refine lv_istore_n (lv' := [(3, .int 0), (2, .int 0), (0, .ref (a 1)), (1, .int p0)]) hx hb dX1_awayMask_3 rfl hl (by decide) rfl (fun ls hl => ?_)
  have loop_4 : ∀ (n : Nat) (w2 : Int32) (i3 : Int32) (H : Heap) (locs : List Loc) (ls : Array Slot), (u 3 - i3.toInt).toNat < n → 0 ≤ i3.toInt → i3.toInt ≤ u 3 → tw (dC, dI) a k τ ln y g H → va_S A s.heap H locs → lv_has ls 5 [(0, .ref (a 1)), (1, .int p0), (2, .int w2), (3, .int i3)] → W p l e (headSpec wm_c_awayMask ({ frames := 0, cells := 0, slots := 0, locals := 0 })).room s m ([.ref (a 1), .int p0] : List Value).toArray below meth c H locs 0 0 (MQ below (va_Qi (fun (r u : Int32) => u = r) (fun (r : Int32) (t : State) => (tw (dC, dI) a k τ ln y g t.heap)) A) ([.ref (a 1), .int p0] : List Value).toArray s 0 0 A) (F0 m 4 ls []) := by
    intro n
    induction n with
    | zero => intro w2 i3 H locs ls hlt; exact absurd hlt (Nat.not_lt_zero _)
    | succ n ih_4 =>
      intro w2 i3 H locs ls hlt hi4_0 hi4_1 hT hS hl
      refine lv_iload_n hx hb dX1_awayMask_4 rfl (lv_at hl 3 rfl) ?_
      refine lv_aload_n hx hb dX1_awayMask_5 rfl (lv_at hl 0 rfl) ?_
      refine tw_get (D := (dC, dI)) (v := .int (y (a 1) 7)) (C := RX1) (T := TX1) (N := 8) hx hb hts (fun _ hh => (List.mem_cons_of_mem _ (List.mem_append_right _ (List.mem_append_left _ hh)))) hown hK hT (fx_1 hX) (by decide) cl_e11 rfl 7 (by decide) (hts (.fieldLink RX1 43 "TypingPool$Book" "awayCount" "I") (List.mem_cons_of_mem _ (List.mem_append_left _ (List.mem_of_getElem? (i := 0) rfl)))) (fun _ h9 => h9) rfl dX1_awayMask_6 ?_
      have hc_1 := ic_3 hI
      refine lv_icmp_ge (tgt := 54) hx hb dX1_awayMask_9 (by decide) (fun c_2 => ?_) (fun c_2 => ?_)
      · have nc_2 := z_le hc_1 rfl c_2
        refine lv_iload_n hx hb dX1_awayMask_54 rfl (lv_at hl 2 rfl) ?_
        exact W.iret (v := w2) hx hb hr (fun t ht hW9 => ⟨⟨w2, w2, rfl, rfl, (tw_at ht hT)⟩, hS.F ht⟩) hS.2.2 dX1_awayMask_55
      · have nc_2 := z_nle hc_1 rfl c_2
        refine lv_aload_n hx hb dX1_awayMask_12 rfl (lv_at hl 0 rfl) ?_
        refine tw_get (D := (dC, dI)) (v := .ref (a 12)) (C := RX1) (T := TX1) (N := 8) hx hb hts (fun _ hh => (List.mem_cons_of_mem _ (List.mem_append_right _ (List.mem_append_left _ hh)))) hown hK hT (fx_1 hX) (by decide) cl_e11 rfl 6 (by decide) (hts (.fieldLink RX1 39 "TypingPool$Book" "aways" "[LTypingPool$Away;") (List.mem_cons_of_mem _ (List.mem_append_left _ (List.mem_of_getElem? (i := 1) rfl)))) (fun _ h9 => h9) rfl dX1_awayMask_13 ?_
        refine lv_iload_n hx hb dX1_awayMask_16 rfl (lv_at hl 3 rfl) ?_
        refine tw_aald hx hb hK hT 5 (fx_12 hX) (by decide) cl_e22 rfl (z_in rfl (by omega) (by omega)) dX1_awayMask_17 ?_
        obtain ⟨q_3, hgq_3, htq_3⟩ := ic_l12 hI (x := i3) rfl (by omega) (by omega)
        refine lq_topr hgq_3 ?_
        refine lv_astore (lv' := [(4, .ref q_3), (0, .ref (a 1)), (1, .int p0), (2, .int w2), (3, .int i3)]) hx hb dX1_awayMask_18 hl (by decide) rfl (fun ls hl => ?_)
        refine lv_aload hx hb dX1_awayMask_20 (lv_at hl 0 rfl) ?_
        refine tw_get (D := (dC, dI)) (v := .int (y q_3 1)) (C := RX0) (T := TX0) (N := 3) hx hb hts (fun _ hh => (List.mem_cons_of_mem _ (List.mem_append_right _ (List.mem_append_right _ (List.mem_append_left _ hh))))) hown hK hT htq_3 (by decide) cl_e3 rfl 1 (by decide) (hts (.fieldLink RX1 46 "TypingPool$Away" "from" "I") (List.mem_cons_of_mem _ (List.mem_append_left _ (List.mem_of_getElem? (i := 2) rfl)))) (fun _ h9 => h9) rfl dX1_awayMask_22 ?_
        refine lv_iload_n hx hb dX1_awayMask_25 rfl (lv_at hl 2 rfl) ?_
        refine lv_icmp_gt (tgt := 48) hx hb dX1_awayMask_26 (by decide) (fun c_4 => ?_) (fun c_4 => ?_)
        · have nc_4 := z_lt rfl rfl c_4
          obtain ⟨x_5, ex_5⟩ : ∃ y : Int32, y = i3 + Int32.ofInt 1 := ⟨_, rfl⟩
          have hx_5 := z_add ex_5 rfl (zk (x := Int32.ofInt 1) 1 rfl) (by omega) (by omega)
          refine lv_iinc (v := x_5) (lv' := [(3, .int x_5), (4, .ref q_3), (0, .ref (a 1)), (1, .int p0), (2, .int w2)]) hx hb dX1_awayMask_48 hl (k := 4) rfl ex_5.symm (by decide) rfl (fun ls hl => ?_)
          refine lv_goto (tgt := 4) hx hb dX1_awayMask_51 (by decide) ?_
          exact ih_4  w2 x_5 H _ ls (by omega) (by omega) (by omega) hT hS (lv_sub hl [2, 3, 4, 0] rfl)
        · have nc_4 := z_nlt rfl rfl c_4
          refine lv_iload_n hx hb dX1_awayMask_29 rfl (lv_at hl 2 rfl) ?_
          refine lv_aload hx hb dX1_awayMask_30 (lv_at hl 0 rfl) ?_
          refine tw_get (D := (dC, dI)) (v := .int (y q_3 2)) (C := RX0) (T := TX0) (N := 3) hx hb hts (fun _ hh => (List.mem_cons_of_mem _ (List.mem_append_right _ (List.mem_append_right _ (List.mem_append_left _ hh))))) hown hK hT htq_3 (by decide) cl_e3 rfl 2 (by decide) (hts (.fieldLink RX1 49 "TypingPool$Away" "to" "I") (List.mem_cons_of_mem _ (List.mem_append_left _ (List.mem_of_getElem? (i := 3) rfl)))) (fun _ h9 => h9) rfl dX1_awayMask_32 ?_
          refine lv_icmp_ge (tgt := 48) hx hb dX1_awayMask_35 (by decide) (fun c_6 => ?_) (fun c_6 => ?_)
          · have nc_6 := z_le rfl rfl c_6
            obtain ⟨x_7, ex_7⟩ : ∃ y : Int32, y = i3 + Int32.ofInt 1 := ⟨_, rfl⟩
            have hx_7 := z_add ex_7 rfl (zk (x := Int32.ofInt 1) 1 rfl) (by omega) (by omega)
            refine lv_iinc (v := x_7) (lv' := [(3, .int x_7), (4, .ref q_3), (0, .ref (a 1)), (1, .int p0), (2, .int w2)]) hx hb dX1_awayMask_48 hl (k := 4) rfl ex_7.symm (by decide) rfl (fun ls hl => ?_)
            refine lv_goto (tgt := 4) hx hb dX1_awayMask_51 (by decide) ?_
            exact ih_4  w2 x_7 H _ ls (by omega) (by omega) (by omega) hT hS (lv_sub hl [2, 3, 4, 0] rfl)
          · have nc_6 := z_nle rfl rfl c_6
            refine lv_iload_n hx hb dX1_awayMask_38 rfl (lv_at hl 3 rfl) ?_
            refine lv_iconst (v := 1) hx hb dX1_awayMask_39 (by decide) ?_
            refine lv_aload hx hb dX1_awayMask_40 (lv_at hl 0 rfl) ?_
            refine tw_get (D := (dC, dI)) (v := .int (y q_3 0)) (C := RX0) (T := TX0) (N := 3) hx hb hts (fun _ hh => (List.mem_cons_of_mem _ (List.mem_append_right _ (List.mem_append_right _ (List.mem_append_left _ hh))))) hown hK hT htq_3 (by decide) cl_e3 rfl 0 (by decide) (hts (.fieldLink RX1 52 "TypingPool$Away" "hand" "I") (List.mem_cons_of_mem _ (List.mem_append_left _ (List.mem_of_getElem? (i := 4) rfl)))) (fun _ h9 => h9) rfl dX1_awayMask_42 ?_
            refine lv_ishl hx hb dX1_awayMask_45 ?_
            refine lv_topi (fun x_8 ex_8 => ?_)
            refine lv_ior hx hb dX1_awayMask_46 ?_
            refine lv_topi (fun x_9 ex_9 => ?_)
            refine lv_istore_n (lv' := [(2, .int x_9), (4, .ref q_3), (0, .ref (a 1)), (1, .int p0), (3, .int i3)]) hx hb dX1_awayMask_47 rfl hl (by decide) rfl (fun ls hl => ?_)
            obtain ⟨x_10, ex_10⟩ : ∃ y : Int32, y = i3 + Int32.ofInt 1 := ⟨_, rfl⟩
            have hx_10 := z_add ex_10 rfl (zk (x := Int32.ofInt 1) 1 rfl) (by omega) (by omega)
            refine lv_iinc (v := x_10) (lv' := [(3, .int x_10), (2, .int x_9), (4, .ref q_3), (0, .ref (a 1)), (1, .int p0)]) hx hb dX1_awayMask_48 hl (k := 4) rfl ex_10.symm (by decide) rfl (fun ls hl => ?_)
            refine lv_goto (tgt := 4) hx hb dX1_awayMask_51 (by decide) ?_
            exact ih_4  x_9 x_10 H _ ls (by omega) (by omega) (by omega) hT hS (lv_sub hl [3, 4, 1, 0] rfl)
  have hp_11 : (0 : Int32).toInt = 0 := (zk (x := 0) 0 rfl)
  have hp_12 : (0 : Int32).toInt = 0 := (zk (x := 0) 0 rfl)
  exact loop_4 _ (0 : Int32) (0 : Int32) s.heap _ ls (Nat.lt_succ_self _) (by omega) (by omega) hT hS (lv_sub hl [2, 3, 1, 0] rfl)
def wo_c_changeBehind : List Cond := [.fieldLink RX1 34 "TypingPool$Book" "pieceCount" "I", .fieldLink RX1 43 "TypingPool$Book" "awayCount" "I", .fieldLink RX1 39 "TypingPool$Book" "aways" "[LTypingPool$Away;", .fieldLink RX1 46 "TypingPool$Away" "from" "I", .methodLink RX1 58 yX1_earlierBehind, .static yX1_earlierBehind, .initialized RX1, .fieldLink RX1 49 "TypingPool$Away" "to" "I", .fieldLink RX1 30 "TypingPool$Book" "pieces" "[LTypingPool$Piece;", .fieldLink RX1 55 "TypingPool$Piece" "comes" "I"]
def wm_c_changeBehind : List Cond := .code yX1_changeBehind cX1_changeBehind 5 (some .int) :: (wo_c_changeBehind ++ (wsX10 ++ (wsX00 ++ (wm_c_earlierBehind ++ (wsX60 ++ ([] : List Cond))))))
theorem gd_c_changeBehind : ∀ w ∈ wm_c_changeBehind, goodWord w = true := gd_c rfl (gd_a (by decide) (gd_a gd_wsX10 (gd_a gd_wsX00 (gd_a gd_c_earlierBehind (gd_a gd_wsX60 gd_nil)))))
set_option maxRecDepth 20000 in
theorem im_c_changeBehind : ∀ w ∈ wm_c_changeBehind, w ∈ lw_tbl := im_c (in_r [.code yX1_changeBehind cX1_changeBehind 5 (some .int)] [832] (by decide +kernel)) (in_app (in_r wo_c_changeBehind [131, 136, 135, 642, 833, 834, 71, 644, 126, 680] (by decide +kernel)) (in_app im_wsX10 (in_app im_wsX00 (in_app im_c_earlierBehind (in_app im_wsX60 im_nil)))))
set_option maxHeartbeats 4000000 in
set_option maxRecDepth 100000 in
theorem c_changeBehind (l : Launch) (dC : Nat → ClassId) (dI : Nat → Nat → Nat) (ad av : Nat → Nat) (sz : Nat) (a : Nat → Nat) (k : Nat → ClassId) (τ ln : Nat → Nat) (y : Nat → Nat → Int32) (g : Nat → Nat → Option Nat) (u : Nat → Int) (p0 : Int32) (p1 : Int32) (hI : IC a u τ ln y g) : Met l yX1_changeBehind wm_c_changeBehind ({ frames := 1, cells := 0, slots := 0, locals := 60 }) (pw_ ad av (dC, dI) sz [.ref (a 1), .int p0, .int p1] a k τ ln y g) (va_Qi (fun (r u : Int32) => u = r) (fun (r : Int32) (t : State) => (tw (dC, dI) a k τ ln y g t.heap)) (fr τ sz)) 0 0 (fr τ sz) := by
  refine Met.ofW (cc := cX1_changeBehind) (maxL := 5) (ret := (some .int)) (by decide) rfl ?_
  intro p e s m args below meth c s₁ B hml hv
  obtain ⟨rfl, hsz, hT, hK, hM⟩ := hv
  have hx := B.exec
  have hb := B.bytes
  have hr := B.returns
  have hts := atoms_spec (ws := wm_c_changeBehind) B.pre
  have hown : s.vm.findClass RX1 = some m.cls := findClass_of_methodNamed B.named
  have hlocks := B.notSynchronized
  subst hsz
  generalize hAe : fr τ s.heap.size = A at hM ⊢
  have hA : ∀ q : Nat, s.heap.size ≤ q → A q := fun q h => by rw [← hAe]; exact Or.inr h
  have hF : ∀ q, τ q ≠ 0 → A q := fun q h => by rw [← hAe]; exact Or.inl h
  have hS : va_S A s.heap s.heap [] := va_S.rf
  have hX := hI.1
  have hR := ic_r hI
  have hl := lv_entry ([.ref (a 1), .int p0, .int p1]) (n := 5) (Nat.le_of_ble_eq_true rfl)
  rw [lg_entry_eq]
  generalize (lg_sl ([.ref (a 1), .int p0, .int p1]) ++ List.replicate (5 - (lg_sl ([.ref (a 1), .int p0, .int p1])).length) Slot.unset).toArray = ls at hl ⊢
  have hl : lv_has ls 5 [(0, .ref (a 1)), (1, .int p0), (2, .int p1)] := hl
  refine lv_iload_n hx hb dX1_changeBehind_0 rfl (lv_at hl 2 rfl) ?_
  refine lv_istore_n (lv' := [(3, .int p1), (0, .ref (a 1)), (1, .int p0), (2, .int p1)]) hx hb dX1_changeBehind_1 rfl hl (by decide) rfl (fun ls hl => ?_)
  refine lv_iconst (v := 0) hx hb dX1_changeBehind_2 (by decide) ?_
  refine lv_istore (lv' := [(4, .int 0), (3, .int p1), (0, .ref (a 1)), (1, .int p0), (2, .int p1)]) hx hb dX1_changeBehind_3 hl (by decide) rfl (fun ls hl => ?_)
  have loop_5 : ∀ (n : Nat) (w3 : Int32) (i4 : Int32) (H : Heap) (locs : List Loc) (ls : Array Slot), (u 2 - i4.toInt).toNat < n → 0 ≤ i4.toInt → i4.toInt ≤ u 2 → tw (dC, dI) a k τ ln y g H → va_S A s.heap H locs → lv_has ls 5 [(0, .ref (a 1)), (1, .int p0), (2, .int p1), (3, .int w3), (4, .int i4)] → W p l e (headSpec wm_c_changeBehind ({ frames := 1, cells := 0, slots := 0, locals := 60 })).room s m ([.ref (a 1), .int p0, .int p1] : List Value).toArray below meth c H locs 0 0 (MQ below (va_Qi (fun (r u : Int32) => u = r) (fun (r : Int32) (t : State) => (tw (dC, dI) a k τ ln y g t.heap)) A) ([.ref (a 1), .int p0, .int p1] : List Value).toArray s 0 0 A) (F0 m 5 ls []) := by
    intro n
    induction n with
    | zero => intro w3 i4 H locs ls hlt; exact absurd hlt (Nat.not_lt_zero _)
    | succ n ih_5 =>
      intro w3 i4 H locs ls hlt hi5_0 hi5_1 hT hS hl
      refine lv_iload hx hb dX1_changeBehind_5 (lv_at hl 4 rfl) ?_
      refine lv_aload_n hx hb dX1_changeBehind_7 rfl (lv_at hl 0 rfl) ?_
      refine tw_get (D := (dC, dI)) (v := .int (y (a 1) 5)) (C := RX1) (T := TX1) (N := 8) hx hb hts (fun _ hh => (List.mem_cons_of_mem _ (List.mem_append_right _ (List.mem_append_left _ hh)))) hown hK hT (fx_1 hX) (by decide) cl_e11 rfl 5 (by decide) (hts (.fieldLink RX1 34 "TypingPool$Book" "pieceCount" "I") (List.mem_cons_of_mem _ (List.mem_append_left _ (List.mem_of_getElem? (i := 0) rfl)))) (fun _ h9 => h9) rfl dX1_changeBehind_8 ?_
      have hc_1 := ic_2 hI
      refine lv_icmp_ge (tgt := 36) hx hb dX1_changeBehind_11 (by decide) (fun c_2 => ?_) (fun c_2 => ?_)
      · have nc_2 := z_le hc_1 rfl c_2
        refine lv_iconst (v := 0) hx hb dX1_changeBehind_36 (by decide) ?_
        refine lv_istore (lv' := [(4, .int 0), (0, .ref (a 1)), (1, .int p0), (2, .int p1), (3, .int w3)]) hx hb dX1_changeBehind_37 hl (by decide) rfl (fun ls hl => ?_)
        have loop_39 : ∀ (n : Nat) (w3 : Int32) (i4 : Int32) (H : Heap) (locs : List Loc) (ls : Array Slot), (u 3 - i4.toInt).toNat < n → 0 ≤ i4.toInt → i4.toInt ≤ u 3 → tw (dC, dI) a k τ ln y g H → va_S A s.heap H locs → lv_has ls 5 [(0, .ref (a 1)), (1, .int p0), (2, .int p1), (3, .int w3), (4, .int i4)] → W p l e (headSpec wm_c_changeBehind ({ frames := 1, cells := 0, slots := 0, locals := 60 })).room s m ([.ref (a 1), .int p0, .int p1] : List Value).toArray below meth c H locs 0 0 (MQ below (va_Qi (fun (r u : Int32) => u = r) (fun (r : Int32) (t : State) => (tw (dC, dI) a k τ ln y g t.heap)) A) ([.ref (a 1), .int p0, .int p1] : List Value).toArray s 0 0 A) (F0 m 39 ls []) := by
          intro n
          induction n with
          | zero => intro w3 i4 H locs ls hlt; exact absurd hlt (Nat.not_lt_zero _)
          | succ n ih_39 =>
            intro w3 i4 H locs ls hlt hi39_0 hi39_1 hT hS hl
            refine lv_iload hx hb dX1_changeBehind_39 (lv_at hl 4 rfl) ?_
            refine lv_aload_n hx hb dX1_changeBehind_41 rfl (lv_at hl 0 rfl) ?_
            refine tw_get (D := (dC, dI)) (v := .int (y (a 1) 7)) (C := RX1) (T := TX1) (N := 8) hx hb hts (fun _ hh => (List.mem_cons_of_mem _ (List.mem_append_right _ (List.mem_append_left _ hh)))) hown hK hT (fx_1 hX) (by decide) cl_e11 rfl 7 (by decide) (hts (.fieldLink RX1 43 "TypingPool$Book" "awayCount" "I") (List.mem_cons_of_mem _ (List.mem_append_left _ (List.mem_of_getElem? (i := 1) rfl)))) (fun _ h9 => h9) rfl dX1_changeBehind_42 ?_
            have hc_3 := ic_3 hI
            refine lv_icmp_ge (tgt := 86) hx hb dX1_changeBehind_45 (by decide) (fun c_4 => ?_) (fun c_4 => ?_)
            · have nc_4 := z_le hc_3 rfl c_4
              refine lv_iload_n hx hb dX1_changeBehind_86 rfl (lv_at hl 3 rfl) ?_
              exact W.iret (v := w3) hx hb hr (fun t ht hW9 => ⟨⟨w3, w3, rfl, rfl, (tw_at ht hT)⟩, hS.F ht⟩) hS.2.2 dX1_changeBehind_87
            · have nc_4 := z_nle hc_3 rfl c_4
              refine lv_iload_n hx hb dX1_changeBehind_48 rfl (lv_at hl 1 rfl) ?_
              refine lv_aload_n hx hb dX1_changeBehind_49 rfl (lv_at hl 0 rfl) ?_
              refine tw_get (D := (dC, dI)) (v := .ref (a 12)) (C := RX1) (T := TX1) (N := 8) hx hb hts (fun _ hh => (List.mem_cons_of_mem _ (List.mem_append_right _ (List.mem_append_left _ hh)))) hown hK hT (fx_1 hX) (by decide) cl_e11 rfl 6 (by decide) (hts (.fieldLink RX1 39 "TypingPool$Book" "aways" "[LTypingPool$Away;") (List.mem_cons_of_mem _ (List.mem_append_left _ (List.mem_of_getElem? (i := 2) rfl)))) (fun _ h9 => h9) rfl dX1_changeBehind_50 ?_
              refine lv_iload hx hb dX1_changeBehind_53 (lv_at hl 4 rfl) ?_
              refine tw_aald hx hb hK hT 5 (fx_12 hX) (by decide) cl_e22 rfl (z_in rfl (by omega) (by omega)) dX1_changeBehind_55 ?_
              obtain ⟨q_5, hgq_5, htq_5⟩ := ic_l12 hI (x := i4) rfl (by omega) (by omega)
              refine lq_topr hgq_5 ?_
              refine tw_get (D := (dC, dI)) (v := .int (y q_5 1)) (C := RX0) (T := TX0) (N := 3) hx hb hts (fun _ hh => (List.mem_cons_of_mem _ (List.mem_append_right _ (List.mem_append_right _ (List.mem_append_left _ hh))))) hown hK hT htq_5 (by decide) cl_e3 rfl 1 (by decide) (hts (.fieldLink RX1 46 "TypingPool$Away" "from" "I") (List.mem_cons_of_mem _ (List.mem_append_left _ (List.mem_of_getElem? (i := 3) rfl)))) (fun _ h9 => h9) rfl dX1_changeBehind_56 ?_
              refine lv_iload_n hx hb dX1_changeBehind_59 rfl (lv_at hl 3 rfl) ?_
              have hFc := tw_free hF hS hA
              refine va_calli (va_runS (As := [.int p0, .int (y q_5 1), .int w3]) (rest := []) ⟨hx, hb, hml, hown, hts⟩ (c_earlierBehind l dC dI ad av H.size a k τ ln y g u p0 (y q_5 1) w3  ) (va_cwS 3 hts (gi_3 (List.mem_cons_of_mem _ (List.mem_append_left _ (List.mem_of_getElem? (i := 4) rfl))) (List.mem_cons_of_mem _ (List.mem_append_left _ (List.mem_of_getElem? (i := 5) rfl))) (List.mem_cons_of_mem _ (List.mem_append_left _ (List.mem_of_getElem? (i := 6) rfl))) (fun _ hh => (List.mem_cons_of_mem _ (List.mem_append_right _ (List.mem_append_right _ (List.mem_append_right _ (List.mem_append_left _ hh)))))) gd_c_earlierBehind) rfl rfl rfl (by decide +kernel) ⟨Nat.le_of_ble_eq_true rfl, Nat.le_of_ble_eq_true rfl⟩) ⟨pw_blind, pw_use hT hK hFc hS hM⟩ rfl rfl hl.1 rfl (lv_room (Nat.le_of_ble_eq_true rfl)) dX1_changeBehind_60 ⟨Nat.le_of_ble_eq_true rfl, Nat.le_of_ble_eq_true rfl⟩) hS (fun q _ h => hFc q h) hFc (fun r0 r_6 t H locs ht hvm hw hB hz1 hk1 hS => ?_)
              refine W.widen (k := 0) (n := 0) (Nat.le_of_ble_eq_true rfl) (Nat.le_of_ble_eq_true rfl) ?_
              clear hvm hz1 hk1
              subst hw
              have hT := hB
              rw [ht] at hT
              refine lv_istore_n (lv' := [(3, .int r_6), (0, .ref (a 1)), (1, .int p0), (2, .int p1), (4, .int i4)]) hx hb dX1_changeBehind_63 rfl hl (by decide) rfl (fun ls hl => ?_)
              refine lv_iload_n hx hb dX1_changeBehind_64 rfl (lv_at hl 2 rfl) ?_
              refine lv_aload_n hx hb dX1_changeBehind_65 rfl (lv_at hl 1 rfl) ?_
              refine tw_get (D := (dC, dI)) (v := .ref (a 12)) (C := RX1) (T := TX1) (N := 8) hx hb hts (fun _ hh => (List.mem_cons_of_mem _ (List.mem_append_right _ (List.mem_append_left _ hh)))) hown hK hT (fx_1 hX) (by decide) cl_e11 rfl 6 (by decide) (hts (.fieldLink RX1 39 "TypingPool$Book" "aways" "[LTypingPool$Away;") (List.mem_cons_of_mem _ (List.mem_append_left _ (List.mem_of_getElem? (i := 2) rfl)))) (fun _ h9 => h9) rfl dX1_changeBehind_66 ?_
              refine lv_iload hx hb dX1_changeBehind_69 (lv_at hl 4 rfl) ?_
              refine tw_aald hx hb hK hT 5 (fx_12 hX) (by decide) cl_e22 rfl (z_in rfl (by omega) (by omega)) dX1_changeBehind_71 ?_
              obtain ⟨q_7, hgq_7, htq_7⟩ := ic_l12 hI (x := i4) rfl (by omega) (by omega)
              refine lq_topr hgq_7 ?_
              refine tw_get (D := (dC, dI)) (v := .int (y q_7 2)) (C := RX0) (T := TX0) (N := 3) hx hb hts (fun _ hh => (List.mem_cons_of_mem _ (List.mem_append_right _ (List.mem_append_right _ (List.mem_append_left _ hh))))) hown hK hT htq_7 (by decide) cl_e3 rfl 2 (by decide) (hts (.fieldLink RX1 49 "TypingPool$Away" "to" "I") (List.mem_cons_of_mem _ (List.mem_append_left _ (List.mem_of_getElem? (i := 7) rfl)))) (fun _ h9 => h9) rfl dX1_changeBehind_72 ?_
              refine lv_iload_n hx hb dX1_changeBehind_75 rfl (lv_at hl 0 rfl) ?_
              have hFc := tw_free hF hS hA
              refine va_calli (va_runS (As := [.int p0, .int (y q_7 2), .int r_6]) (rest := []) ⟨hx, hb, hml, hown, hts⟩ (c_earlierBehind l dC dI ad av H.size a k τ ln y g u p0 (y q_7 2) r_6  ) (va_cwS 3 hts (gi_3 (List.mem_cons_of_mem _ (List.mem_append_left _ (List.mem_of_getElem? (i := 4) rfl))) (List.mem_cons_of_mem _ (List.mem_append_left _ (List.mem_of_getElem? (i := 5) rfl))) (List.mem_cons_of_mem _ (List.mem_append_left _ (List.mem_of_getElem? (i := 6) rfl))) (fun _ hh => (List.mem_cons_of_mem _ (List.mem_append_right _ (List.mem_append_right _ (List.mem_append_right _ (List.mem_append_left _ hh)))))) gd_c_earlierBehind) rfl rfl rfl (by decide +kernel) ⟨Nat.le_of_ble_eq_true rfl, Nat.le_of_ble_eq_true rfl⟩) ⟨pw_blind, pw_use hT hK hFc hS hM⟩ rfl rfl hl.1 rfl (lv_room (Nat.le_of_ble_eq_true rfl)) dX1_changeBehind_76 ⟨Nat.le_of_ble_eq_true rfl, Nat.le_of_ble_eq_true rfl⟩) hS (fun q _ h => hFc q h) hFc (fun r0 r_8 t H locs ht hvm hw hB hz1 hk1 hS => ?_)
              refine W.widen (k := 0) (n := 0) (Nat.le_of_ble_eq_true rfl) (Nat.le_of_ble_eq_true rfl) ?_
              clear hvm hz1 hk1
              subst hw
              have hT := hB
              rw [ht] at hT
              refine lv_istore_n (lv' := [(3, .int r_8), (0, .ref (a 1)), (1, .int p0), (2, .int p1), (4, .int i4)]) hx hb dX1_changeBehind_79 rfl hl (by decide) rfl (fun ls hl => ?_)
              obtain ⟨x_9, ex_9⟩ : ∃ y : Int32, y = i4 + Int32.ofInt 1 := ⟨_, rfl⟩
              have hx_9 := z_add ex_9 rfl (zk (x := Int32.ofInt 1) 1 rfl) (by omega) (by omega)
              refine lv_iinc (v := x_9) (lv' := [(4, .int x_9), (3, .int r_8), (0, .ref (a 1)), (1, .int p0), (2, .int p1)]) hx hb dX1_changeBehind_80 hl (k := 4) rfl ex_9.symm (by decide) rfl (fun ls hl => ?_)
              refine lv_goto (tgt := 39) hx hb dX1_changeBehind_83 (by decide) ?_
              exact ih_39  r_8 x_9 H _ ls (by omega) (by omega) (by omega) hT hS (lv_sub hl [2, 3, 4, 1, 0] rfl)
        have hp_10 : (0 : Int32).toInt = 0 := (zk (x := 0) 0 rfl)
        exact loop_39 _ w3 (0 : Int32) H _ ls (Nat.lt_succ_self _) (by omega) (by omega) hT hS (lv_sub hl [1, 2, 3, 4, 0] rfl)
      · have nc_2 := z_nle hc_1 rfl c_2
        refine lv_iload_n hx hb dX1_changeBehind_14 rfl (lv_at hl 1 rfl) ?_
        refine lv_aload_n hx hb dX1_changeBehind_15 rfl (lv_at hl 0 rfl) ?_
        refine tw_get (D := (dC, dI)) (v := .ref (a 11)) (C := RX1) (T := TX1) (N := 8) hx hb hts (fun _ hh => (List.mem_cons_of_mem _ (List.mem_append_right _ (List.mem_append_left _ hh)))) hown hK hT (fx_1 hX) (by decide) cl_e11 rfl 4 (by decide) (hts (.fieldLink RX1 30 "TypingPool$Book" "pieces" "[LTypingPool$Piece;") (List.mem_cons_of_mem _ (List.mem_append_left _ (List.mem_of_getElem? (i := 8) rfl)))) (fun _ h9 => h9) rfl dX1_changeBehind_16 ?_
        refine lv_iload hx hb dX1_changeBehind_19 (lv_at hl 4 rfl) ?_
        refine tw_aald hx hb hK hT 4 (fx_11 hX) (by decide) cl_e21 rfl (z_in rfl (by omega) (by omega)) dX1_changeBehind_21 ?_
        obtain ⟨q_11, hgq_11, htq_11⟩ := ic_l11 hI (x := i4) rfl (by omega) (by omega)
        refine lq_topr hgq_11 ?_
        refine tw_get (D := (dC, dI)) (v := .int (y q_11 5)) (C := RX6) (T := TX6) (N := 11) hx hb hts (fun _ hh => (List.mem_cons_of_mem _ (List.mem_append_right _ (List.mem_append_right _ (List.mem_append_right _ (List.mem_append_right _ (List.mem_append_left _ hh))))))) hown hK hT htq_11 (by decide) cl_e2 rfl 5 (by decide) (hts (.fieldLink RX1 55 "TypingPool$Piece" "comes" "I") (List.mem_cons_of_mem _ (List.mem_append_left _ (List.mem_of_getElem? (i := 9) rfl)))) (fun _ h9 => h9) rfl dX1_changeBehind_22 ?_
        refine lv_iload_n hx hb dX1_changeBehind_25 rfl (lv_at hl 3 rfl) ?_
        have hFc := tw_free hF hS hA
        refine va_calli (va_runS (As := [.int p0, .int (y q_11 5), .int w3]) (rest := []) ⟨hx, hb, hml, hown, hts⟩ (c_earlierBehind l dC dI ad av H.size a k τ ln y g u p0 (y q_11 5) w3  ) (va_cwS 3 hts (gi_3 (List.mem_cons_of_mem _ (List.mem_append_left _ (List.mem_of_getElem? (i := 4) rfl))) (List.mem_cons_of_mem _ (List.mem_append_left _ (List.mem_of_getElem? (i := 5) rfl))) (List.mem_cons_of_mem _ (List.mem_append_left _ (List.mem_of_getElem? (i := 6) rfl))) (fun _ hh => (List.mem_cons_of_mem _ (List.mem_append_right _ (List.mem_append_right _ (List.mem_append_right _ (List.mem_append_left _ hh)))))) gd_c_earlierBehind) rfl rfl rfl (by decide +kernel) ⟨Nat.le_of_ble_eq_true rfl, Nat.le_of_ble_eq_true rfl⟩) ⟨pw_blind, pw_use hT hK hFc hS hM⟩ rfl rfl hl.1 rfl (lv_room (Nat.le_of_ble_eq_true rfl)) dX1_changeBehind_26 ⟨Nat.le_of_ble_eq_true rfl, Nat.le_of_ble_eq_true rfl⟩) hS (fun q _ h => hFc q h) hFc (fun r0 r_12 t H locs ht hvm hw hB hz1 hk1 hS => ?_)
        refine W.widen (k := 0) (n := 0) (Nat.le_of_ble_eq_true rfl) (Nat.le_of_ble_eq_true rfl) ?_
        clear hvm hz1 hk1
        subst hw
        have hT := hB
        rw [ht] at hT
        refine lv_istore_n (lv' := [(3, .int r_12), (0, .ref (a 1)), (1, .int p0), (2, .int p1), (4, .int i4)]) hx hb dX1_changeBehind_29 rfl hl (by decide) rfl (fun ls hl => ?_)
        obtain ⟨x_13, ex_13⟩ : ∃ y : Int32, y = i4 + Int32.ofInt 1 := ⟨_, rfl⟩
        have hx_13 := z_add ex_13 rfl (zk (x := Int32.ofInt 1) 1 rfl) (by omega) (by omega)
        refine lv_iinc (v := x_13) (lv' := [(4, .int x_13), (3, .int r_12), (0, .ref (a 1)), (1, .int p0), (2, .int p1)]) hx hb dX1_changeBehind_30 hl (k := 4) rfl ex_13.symm (by decide) rfl (fun ls hl => ?_)
        refine lv_goto (tgt := 5) hx hb dX1_changeBehind_33 (by decide) ?_
        exact ih_5  r_12 x_13 H _ ls (by omega) (by omega) (by omega) hT hS (lv_sub hl [2, 3, 4, 1, 0] rfl)
  have hp_14 : (0 : Int32).toInt = 0 := (zk (x := 0) 0 rfl)
  exact loop_5 _ p1 (0 : Int32) s.heap _ ls (Nat.lt_succ_self _) (by omega) (by omega) hT hS (lv_sub hl [2, 3, 4, 1, 0] rfl)
def wo_c_minuteAfterWork : List Cond := [.fieldLink RX1 43 "TypingPool$Book" "awayCount" "I", .fieldLink RX1 39 "TypingPool$Book" "aways" "[LTypingPool$Away;", .fieldLink RX1 52 "TypingPool$Away" "hand" "I", .fieldLink RX1 49 "TypingPool$Away" "to" "I", .fieldLink RX1 46 "TypingPool$Away" "from" "I"]
def wm_c_minuteAfterWork : List Cond := .code yX1_minuteAfterWork cX1_minuteAfterWork 9 (some .int) :: (wo_c_minuteAfterWork ++ (wsX10 ++ (wsX00 ++ ([] : List Cond))))
theorem gd_c_minuteAfterWork : ∀ w ∈ wm_c_minuteAfterWork, goodWord w = true := gd_c rfl (gd_a (by decide) (gd_a gd_wsX10 (gd_a gd_wsX00 gd_nil)))
set_option maxRecDepth 20000 in
theorem im_c_minuteAfterWork : ∀ w ∈ wm_c_minuteAfterWork, w ∈ lw_tbl := im_c (in_r [.code yX1_minuteAfterWork cX1_minuteAfterWork 9 (some .int)] [1056] (by decide +kernel)) (in_app (in_r wo_c_minuteAfterWork [136, 135, 640, 644, 642] (by decide +kernel)) (in_app im_wsX10 (in_app im_wsX00 im_nil)))
set_option maxHeartbeats 4000000 in
set_option maxRecDepth 100000 in
theorem c_minuteAfterWork (l : Launch) (dC : Nat → ClassId) (dI : Nat → Nat → Nat) (ad av : Nat → Nat) (sz : Nat) (a : Nat → Nat) (k : Nat → ClassId) (τ ln : Nat → Nat) (y : Nat → Nat → Int32) (g : Nat → Nat → Option Nat) (u : Nat → Int) (p0 : Int32) (p1 : Int32) (p2 : Int32) (hI : IC a u τ ln y g) : Met l yX1_minuteAfterWork wm_c_minuteAfterWork ({ frames := 0, cells := 0, slots := 0, locals := 0 }) (pw_ ad av (dC, dI) sz [.ref (a 1), .int p0, .int p1, .int p2] a k τ ln y g) (va_Qi (fun (r u : Int32) => u = r) (fun (r : Int32) (t : State) => (tw (dC, dI) a k τ ln y g t.heap)) (fr τ sz)) 0 0 (fr τ sz) := by
  refine Met.ofW (cc := cX1_minuteAfterWork) (maxL := 9) (ret := (some .int)) (by decide) rfl ?_
  intro p e s m args below meth c s₁ B hml hv
  obtain ⟨rfl, hsz, hT, hK, hM⟩ := hv
  have hx := B.exec
  have hb := B.bytes
  have hr := B.returns
  have hts := atoms_spec (ws := wm_c_minuteAfterWork) B.pre
  have hown : s.vm.findClass RX1 = some m.cls := findClass_of_methodNamed B.named
  have hlocks := B.notSynchronized
  subst hsz
  generalize hAe : fr τ s.heap.size = A at hM ⊢
  have hA : ∀ q : Nat, s.heap.size ≤ q → A q := fun q h => by rw [← hAe]; exact Or.inr h
  have hF : ∀ q, τ q ≠ 0 → A q := fun q h => by rw [← hAe]; exact Or.inl h
  have hS : va_S A s.heap s.heap [] := va_S.rf
  have hX := hI.1
  have hR := ic_r hI
  have hl := lv_entry ([.ref (a 1), .int p0, .int p1, .int p2]) (n := 9) (Nat.le_of_ble_eq_true rfl)
  rw [lg_entry_eq]
  generalize (lg_sl ([.ref (a 1), .int p0, .int p1, .int p2]) ++ List.replicate (9 - (lg_sl ([.ref (a 1), .int p0, .int p1, .int p2])).length) Slot.unset).toArray = ls at hl ⊢
  have hl : lv_has ls 9 [(0, .ref (a 1)), (1, .int p0), (2, .int p1), (3, .int p2)] := hl
  refine lv_iload_n hx hb dX1_minuteAfterWork_0 rfl (lv_at hl 2 rfl) ?_
  refine lv_istore (lv' := [(4, .int p1), (0, .ref (a 1)), (1, .int p0), (2, .int p1), (3, .int p2)]) hx hb dX1_minuteAfterWork_1 hl (by decide) rfl (fun ls hl => ?_)
  refine lv_iload_n hx hb dX1_minuteAfterWork_3 rfl (lv_at hl 4 rfl) ?_
  refine lv_istore (lv' := [(5, .int p2), (4, .int p1), (0, .ref (a 1)), (1, .int p0), (2, .int p1), (3, .int p2)]) hx hb dX1_minuteAfterWork_4 hl (by decide) rfl (fun ls hl => ?_)
  refine lv_iconst (v := 0) hx hb dX1_minuteAfterWork_6 (by decide) ?_
  refine lv_istore (lv' := [(6, .int 0), (5, .int p2), (4, .int p1), (0, .ref (a 1)), (1, .int p0), (2, .int p1), (3, .int p2)]) hx hb dX1_minuteAfterWork_7 hl (by decide) rfl (fun ls hl => ?_)
  have loop_9 : ∀ (n : Nat) (w4 : Int32) (w5 : Int32) (i6 : Int32) (H : Heap) (locs : List Loc) (ls : Array Slot), (u 3 - i6.toInt).toNat < n → 0 ≤ i6.toInt → i6.toInt ≤ u 3 → tw (dC, dI) a k τ ln y g H → va_S A s.heap H locs → lv_has ls 9 [(0, .ref (a 1)), (1, .int p0), (2, .int p1), (3, .int p2), (4, .int w4), (5, .int w5), (6, .int i6)] → W p l e (headSpec wm_c_minuteAfterWork ({ frames := 0, cells := 0, slots := 0, locals := 0 })).room s m ([.ref (a 1), .int p0, .int p1, .int p2] : List Value).toArray below meth c H locs 0 0 (MQ below (va_Qi (fun (r u : Int32) => u = r) (fun (r : Int32) (t : State) => (tw (dC, dI) a k τ ln y g t.heap)) A) ([.ref (a 1), .int p0, .int p1, .int p2] : List Value).toArray s 0 0 A) (F0 m 9 ls []) := by
    intro n
    induction n with
    | zero => intro w4 w5 i6 H locs ls hlt; exact absurd hlt (Nat.not_lt_zero _)
    | succ n ih_9 =>
      intro w4 w5 i6 H locs ls hlt hi9_0 hi9_1 hT hS hl
      refine lv_iload hx hb dX1_minuteAfterWork_9 (lv_at hl 6 rfl) ?_
      refine lv_aload_n hx hb dX1_minuteAfterWork_11 rfl (lv_at hl 0 rfl) ?_
      refine tw_get (D := (dC, dI)) (v := .int (y (a 1) 7)) (C := RX1) (T := TX1) (N := 8) hx hb hts (fun _ hh => (List.mem_cons_of_mem _ (List.mem_append_right _ (List.mem_append_left _ hh)))) hown hK hT (fx_1 hX) (by decide) cl_e11 rfl 7 (by decide) (hts (.fieldLink RX1 43 "TypingPool$Book" "awayCount" "I") (List.mem_cons_of_mem _ (List.mem_append_left _ (List.mem_of_getElem? (i := 0) rfl)))) (fun _ h9 => h9) rfl dX1_minuteAfterWork_12 ?_
      have hc_1 := ic_3 hI
      refine lv_icmp_ge (tgt := 106) hx hb dX1_minuteAfterWork_15 (by decide) (fun c_2 => ?_) (fun c_2 => ?_)
      · have nc_2 := z_le hc_1 rfl c_2
        refine lv_iload hx hb dX1_minuteAfterWork_106 (lv_at hl 4 rfl) ?_
        refine lv_iload hx hb dX1_minuteAfterWork_108 (lv_at hl 5 rfl) ?_
        refine lv_iadd hx hb dX1_minuteAfterWork_110 ?_
        refine lv_topi (fun x_3 ex_3 => ?_)
        exact W.iret (v := x_3) hx hb hr (fun t ht hW9 => ⟨⟨x_3, x_3, rfl, rfl, (tw_at ht hT)⟩, hS.F ht⟩) hS.2.2 dX1_minuteAfterWork_111
      · have nc_2 := z_nle hc_1 rfl c_2
        refine lv_aload_n hx hb dX1_minuteAfterWork_18 rfl (lv_at hl 0 rfl) ?_
        refine tw_get (D := (dC, dI)) (v := .ref (a 12)) (C := RX1) (T := TX1) (N := 8) hx hb hts (fun _ hh => (List.mem_cons_of_mem _ (List.mem_append_right _ (List.mem_append_left _ hh)))) hown hK hT (fx_1 hX) (by decide) cl_e11 rfl 6 (by decide) (hts (.fieldLink RX1 39 "TypingPool$Book" "aways" "[LTypingPool$Away;") (List.mem_cons_of_mem _ (List.mem_append_left _ (List.mem_of_getElem? (i := 1) rfl)))) (fun _ h9 => h9) rfl dX1_minuteAfterWork_19 ?_
        refine lv_iload hx hb dX1_minuteAfterWork_22 (lv_at hl 6 rfl) ?_
        refine tw_aald hx hb hK hT 5 (fx_12 hX) (by decide) cl_e22 rfl (z_in rfl (by omega) (by omega)) dX1_minuteAfterWork_24 ?_
        obtain ⟨q_4, hgq_4, htq_4⟩ := ic_l12 hI (x := i6) rfl (by omega) (by omega)
        refine lq_topr hgq_4 ?_
        refine lv_astore (lv' := [(7, .ref q_4), (0, .ref (a 1)), (1, .int p0), (2, .int p1), (3, .int p2), (4, .int w4), (5, .int w5), (6, .int i6)]) hx hb dX1_minuteAfterWork_25 hl (by decide) rfl (fun ls hl => ?_)
        refine lv_aload hx hb dX1_minuteAfterWork_27 (lv_at hl 0 rfl) ?_
        refine tw_get (D := (dC, dI)) (v := .int (y q_4 0)) (C := RX0) (T := TX0) (N := 3) hx hb hts (fun _ hh => (List.mem_cons_of_mem _ (List.mem_append_right _ (List.mem_append_right _ (List.mem_append_left _ hh))))) hown hK hT htq_4 (by decide) cl_e3 rfl 0 (by decide) (hts (.fieldLink RX1 52 "TypingPool$Away" "hand" "I") (List.mem_cons_of_mem _ (List.mem_append_left _ (List.mem_of_getElem? (i := 2) rfl)))) (fun _ h9 => h9) rfl dX1_minuteAfterWork_29 ?_
        refine lv_iload_n hx hb dX1_minuteAfterWork_32 rfl (lv_at hl 2 rfl) ?_
        refine lv_icmp_ne (tgt := 100) hx hb dX1_minuteAfterWork_33 (by decide) (fun c_5 => ?_) (fun c_5 => ?_)
        · have nc_5 := z_ne rfl rfl c_5
          obtain ⟨x_6, ex_6⟩ : ∃ y : Int32, y = i6 + Int32.ofInt 1 := ⟨_, rfl⟩
          have hx_6 := z_add ex_6 rfl (zk (x := Int32.ofInt 1) 1 rfl) (by omega) (by omega)
          refine lv_iinc (v := x_6) (lv' := [(6, .int x_6), (7, .ref q_4), (0, .ref (a 1)), (1, .int p0), (2, .int p1), (3, .int p2), (4, .int w4), (5, .int w5)]) hx hb dX1_minuteAfterWork_100 hl (k := 7) rfl ex_6.symm (by decide) rfl (fun ls hl => ?_)
          refine lv_goto (tgt := 9) hx hb dX1_minuteAfterWork_103 (by decide) ?_
          exact ih_9  w4 w5 x_6 H _ ls (by omega) (by omega) (by omega) hT hS (lv_sub hl [2, 3, 4, 5, 6, 7, 0] rfl)
        · have nc_5 := z_eq rfl rfl c_5
          refine lv_aload hx hb dX1_minuteAfterWork_36 (lv_at hl 0 rfl) ?_
          refine tw_get (D := (dC, dI)) (v := .int (y q_4 2)) (C := RX0) (T := TX0) (N := 3) hx hb hts (fun _ hh => (List.mem_cons_of_mem _ (List.mem_append_right _ (List.mem_append_right _ (List.mem_append_left _ hh))))) hown hK hT htq_4 (by decide) cl_e3 rfl 2 (by decide) (hts (.fieldLink RX1 49 "TypingPool$Away" "to" "I") (List.mem_cons_of_mem _ (List.mem_append_left _ (List.mem_of_getElem? (i := 3) rfl)))) (fun _ h9 => h9) rfl dX1_minuteAfterWork_38 ?_
          refine lv_iload hx hb dX1_minuteAfterWork_41 (lv_at hl 5 rfl) ?_
          refine lv_icmp_gt (tgt := 49) hx hb dX1_minuteAfterWork_43 (by decide) (fun c_7 => ?_) (fun c_7 => ?_)
          · have nc_7 := z_lt rfl rfl c_7
            refine lv_aload hx hb dX1_minuteAfterWork_49 (lv_at hl 0 rfl) ?_
            refine tw_get (D := (dC, dI)) (v := .int (y q_4 1)) (C := RX0) (T := TX0) (N := 3) hx hb hts (fun _ hh => (List.mem_cons_of_mem _ (List.mem_append_right _ (List.mem_append_right _ (List.mem_append_left _ hh))))) hown hK hT htq_4 (by decide) cl_e3 rfl 1 (by decide) (hts (.fieldLink RX1 46 "TypingPool$Away" "from" "I") (List.mem_cons_of_mem _ (List.mem_append_left _ (List.mem_of_getElem? (i := 4) rfl)))) (fun _ h9 => h9) rfl dX1_minuteAfterWork_51 ?_
            refine lv_iload hx hb dX1_minuteAfterWork_54 (lv_at hl 5 rfl) ?_
            refine lv_icmp_le (tgt := 70) hx hb dX1_minuteAfterWork_56 (by decide) (fun c_8 => ?_) (fun c_8 => ?_)
            · have nc_8 := z_le rfl rfl c_8
              refine lv_iconst (v := 0) hx hb dX1_minuteAfterWork_70 (by decide) ?_
              refine lv_istore (lv' := [(8, .int 0), (7, .ref q_4), (0, .ref (a 1)), (1, .int p0), (2, .int p1), (3, .int p2), (4, .int w4), (5, .int w5), (6, .int i6)]) hx hb dX1_minuteAfterWork_71 hl (by decide) rfl (fun ls hl => ?_)
              refine lv_iload hx hb dX1_minuteAfterWork_73 (lv_at hl 0 rfl) ?_
              refine lv_iload hx hb dX1_minuteAfterWork_75 (lv_at hl 7 rfl) ?_
              refine lv_icmp_lt (tgt := 86) hx hb dX1_minuteAfterWork_77 (by decide) (fun c_9 => ?_) (fun c_9 => ?_)
              · have nc_9 := z_lt (zk (x := 0) 0 rfl) rfl c_9
                refine lv_iload hx hb dX1_minuteAfterWork_86 (lv_at hl 7 rfl) ?_
                refine lv_iload hx hb dX1_minuteAfterWork_88 (lv_at hl 0 rfl) ?_
                refine lv_isub hx hb dX1_minuteAfterWork_90 ?_
                refine lv_topi (fun x_10 ex_10 => ?_)
                refine lv_istore (lv' := [(5, .int x_10), (8, .int 0), (7, .ref q_4), (0, .ref (a 1)), (1, .int p0), (2, .int p1), (3, .int p2), (4, .int w4), (6, .int i6)]) hx hb dX1_minuteAfterWork_91 hl (by decide) rfl (fun ls hl => ?_)
                refine lv_aload hx hb dX1_minuteAfterWork_93 (lv_at hl 2 rfl) ?_
                refine tw_get (D := (dC, dI)) (v := .int (y q_4 2)) (C := RX0) (T := TX0) (N := 3) hx hb hts (fun _ hh => (List.mem_cons_of_mem _ (List.mem_append_right _ (List.mem_append_right _ (List.mem_append_left _ hh))))) hown hK hT htq_4 (by decide) cl_e3 rfl 2 (by decide) (hts (.fieldLink RX1 49 "TypingPool$Away" "to" "I") (List.mem_cons_of_mem _ (List.mem_append_left _ (List.mem_of_getElem? (i := 3) rfl)))) (fun _ h9 => h9) rfl dX1_minuteAfterWork_95 ?_
                refine lv_istore (lv' := [(4, .int (y q_4 2)), (5, .int x_10), (8, .int 0), (7, .ref q_4), (0, .ref (a 1)), (1, .int p0), (2, .int p1), (3, .int p2), (6, .int i6)]) hx hb dX1_minuteAfterWork_98 hl (by decide) rfl (fun ls hl => ?_)
                obtain ⟨x_11, ex_11⟩ : ∃ y : Int32, y = i6 + Int32.ofInt 1 := ⟨_, rfl⟩
                have hx_11 := z_add ex_11 rfl (zk (x := Int32.ofInt 1) 1 rfl) (by omega) (by omega)
                refine lv_iinc (v := x_11) (lv' := [(6, .int x_11), (4, .int (y q_4 2)), (5, .int x_10), (8, .int 0), (7, .ref q_4), (0, .ref (a 1)), (1, .int p0), (2, .int p1), (3, .int p2)]) hx hb dX1_minuteAfterWork_100 hl (k := 8) rfl ex_11.symm (by decide) rfl (fun ls hl => ?_)
                refine lv_goto (tgt := 9) hx hb dX1_minuteAfterWork_103 (by decide) ?_
                exact ih_9  (y q_4 2) x_10 x_11 H _ ls (by omega) (by omega) (by omega) hT hS (lv_sub hl [5, 6, 7, 8, 1, 2, 0] rfl)
              · have nc_9 := z_nlt (zk (x := 0) 0 rfl) rfl c_9
                refine lv_iload hx hb dX1_minuteAfterWork_80 (lv_at hl 6 rfl) ?_
                refine lv_iload hx hb dX1_minuteAfterWork_82 (lv_at hl 7 rfl) ?_
                refine lv_iadd hx hb dX1_minuteAfterWork_84 ?_
                refine lv_topi (fun x_12 ex_12 => ?_)
                exact W.iret (v := x_12) hx hb hr (fun t ht hW9 => ⟨⟨x_12, x_12, rfl, rfl, (tw_at ht hT)⟩, hS.F ht⟩) hS.2.2 dX1_minuteAfterWork_85
            · have nc_8 := z_nle rfl rfl c_8
              refine lv_aload hx hb dX1_minuteAfterWork_59 (lv_at hl 0 rfl) ?_
              refine tw_get (D := (dC, dI)) (v := .int (y q_4 1)) (C := RX0) (T := TX0) (N := 3) hx hb hts (fun _ hh => (List.mem_cons_of_mem _ (List.mem_append_right _ (List.mem_append_right _ (List.mem_append_left _ hh))))) hown hK hT htq_4 (by decide) cl_e3 rfl 1 (by decide) (hts (.fieldLink RX1 46 "TypingPool$Away" "from" "I") (List.mem_cons_of_mem _ (List.mem_append_left _ (List.mem_of_getElem? (i := 4) rfl)))) (fun _ h9 => h9) rfl dX1_minuteAfterWork_61 ?_
              refine lv_iload hx hb dX1_minuteAfterWork_64 (lv_at hl 5 rfl) ?_
              refine lv_isub hx hb dX1_minuteAfterWork_66 ?_
              refine lv_topi (fun x_13 ex_13 => ?_)
              refine lv_goto (tgt := 71) hx hb dX1_minuteAfterWork_67 (by decide) ?_
              refine lv_istore (lv' := [(8, .int x_13), (7, .ref q_4), (0, .ref (a 1)), (1, .int p0), (2, .int p1), (3, .int p2), (4, .int w4), (5, .int w5), (6, .int i6)]) hx hb dX1_minuteAfterWork_71 hl (by decide) rfl (fun ls hl => ?_)
              refine lv_iload hx hb dX1_minuteAfterWork_73 (lv_at hl 0 rfl) ?_
              refine lv_iload hx hb dX1_minuteAfterWork_75 (lv_at hl 7 rfl) ?_
              refine lv_icmp_lt (tgt := 86) hx hb dX1_minuteAfterWork_77 (by decide) (fun c_14 => ?_) (fun c_14 => ?_)
              · have nc_14 := z_lt rfl rfl c_14
                refine lv_iload hx hb dX1_minuteAfterWork_86 (lv_at hl 7 rfl) ?_
                refine lv_iload hx hb dX1_minuteAfterWork_88 (lv_at hl 0 rfl) ?_
                refine lv_isub hx hb dX1_minuteAfterWork_90 ?_
                refine lv_topi (fun x_15 ex_15 => ?_)
                refine lv_istore (lv' := [(5, .int x_15), (8, .int x_13), (7, .ref q_4), (0, .ref (a 1)), (1, .int p0), (2, .int p1), (3, .int p2), (4, .int w4), (6, .int i6)]) hx hb dX1_minuteAfterWork_91 hl (by decide) rfl (fun ls hl => ?_)
                refine lv_aload hx hb dX1_minuteAfterWork_93 (lv_at hl 2 rfl) ?_
                refine tw_get (D := (dC, dI)) (v := .int (y q_4 2)) (C := RX0) (T := TX0) (N := 3) hx hb hts (fun _ hh => (List.mem_cons_of_mem _ (List.mem_append_right _ (List.mem_append_right _ (List.mem_append_left _ hh))))) hown hK hT htq_4 (by decide) cl_e3 rfl 2 (by decide) (hts (.fieldLink RX1 49 "TypingPool$Away" "to" "I") (List.mem_cons_of_mem _ (List.mem_append_left _ (List.mem_of_getElem? (i := 3) rfl)))) (fun _ h9 => h9) rfl dX1_minuteAfterWork_95 ?_
                refine lv_istore (lv' := [(4, .int (y q_4 2)), (5, .int x_15), (8, .int x_13), (7, .ref q_4), (0, .ref (a 1)), (1, .int p0), (2, .int p1), (3, .int p2), (6, .int i6)]) hx hb dX1_minuteAfterWork_98 hl (by decide) rfl (fun ls hl => ?_)
                obtain ⟨x_16, ex_16⟩ : ∃ y : Int32, y = i6 + Int32.ofInt 1 := ⟨_, rfl⟩
                have hx_16 := z_add ex_16 rfl (zk (x := Int32.ofInt 1) 1 rfl) (by omega) (by omega)
                refine lv_iinc (v := x_16) (lv' := [(6, .int x_16), (4, .int (y q_4 2)), (5, .int x_15), (8, .int x_13), (7, .ref q_4), (0, .ref (a 1)), (1, .int p0), (2, .int p1), (3, .int p2)]) hx hb dX1_minuteAfterWork_100 hl (k := 8) rfl ex_16.symm (by decide) rfl (fun ls hl => ?_)
                refine lv_goto (tgt := 9) hx hb dX1_minuteAfterWork_103 (by decide) ?_
                exact ih_9  (y q_4 2) x_15 x_16 H _ ls (by omega) (by omega) (by omega) hT hS (lv_sub hl [5, 6, 7, 8, 1, 2, 0] rfl)
              · have nc_14 := z_nlt rfl rfl c_14
                refine lv_iload hx hb dX1_minuteAfterWork_80 (lv_at hl 6 rfl) ?_
                refine lv_iload hx hb dX1_minuteAfterWork_82 (lv_at hl 7 rfl) ?_
                refine lv_iadd hx hb dX1_minuteAfterWork_84 ?_
                refine lv_topi (fun x_17 ex_17 => ?_)
                exact W.iret (v := x_17) hx hb hr (fun t ht hW9 => ⟨⟨x_17, x_17, rfl, rfl, (tw_at ht hT)⟩, hS.F ht⟩) hS.2.2 dX1_minuteAfterWork_85
          · have nc_7 := z_nlt rfl rfl c_7
            refine lv_goto (tgt := 100) hx hb dX1_minuteAfterWork_46 (by decide) ?_
            obtain ⟨x_18, ex_18⟩ : ∃ y : Int32, y = i6 + Int32.ofInt 1 := ⟨_, rfl⟩
            have hx_18 := z_add ex_18 rfl (zk (x := Int32.ofInt 1) 1 rfl) (by omega) (by omega)
            refine lv_iinc (v := x_18) (lv' := [(6, .int x_18), (7, .ref q_4), (0, .ref (a 1)), (1, .int p0), (2, .int p1), (3, .int p2), (4, .int w4), (5, .int w5)]) hx hb dX1_minuteAfterWork_100 hl (k := 7) rfl ex_18.symm (by decide) rfl (fun ls hl => ?_)
            refine lv_goto (tgt := 9) hx hb dX1_minuteAfterWork_103 (by decide) ?_
            exact ih_9  w4 w5 x_18 H _ ls (by omega) (by omega) (by omega) hT hS (lv_sub hl [2, 3, 4, 5, 6, 7, 0] rfl)
  have hp_19 : (0 : Int32).toInt = 0 := (zk (x := 0) 0 rfl)
  exact loop_9 _ p1 p2 (0 : Int32) s.heap _ ls (Nat.lt_succ_self _) (by omega) (by omega) hT hS (lv_sub hl [3, 4, 5, 6, 2, 1, 0] rfl)
def wo_c_postFrom : List Cond := [.fieldLink RX1 15 "TypingPool$Book" "postCount" "I", .fieldLink RX1 9 "TypingPool$Book" "posts" "[I"]
def wm_c_postFrom : List Cond := .code yX1_postFrom cX1_postFrom 6 (some .int) :: (wo_c_postFrom ++ (wsX10 ++ ([] : List Cond)))
theorem gd_c_postFrom : ∀ w ∈ wm_c_postFrom, goodWord w = true := gd_c rfl (gd_a (by decide) (gd_a gd_wsX10 gd_nil))
set_option maxRecDepth 20000 in
theorem im_c_postFrom : ∀ w ∈ wm_c_postFrom, w ∈ lw_tbl := im_c (in_r [.code yX1_postFrom cX1_postFrom 6 (some .int)] [882] (by decide +kernel)) (in_app (in_r wo_c_postFrom [118, 116] (by decide +kernel)) (in_app im_wsX10 im_nil))
set_option maxHeartbeats 4000000 in
set_option maxRecDepth 100000 in
theorem c_postFrom (l : Launch) (dC : Nat → ClassId) (dI : Nat → Nat → Nat) (ad av : Nat → Nat) (sz : Nat) (a : Nat → Nat) (k : Nat → ClassId) (τ ln : Nat → Nat) (y : Nat → Nat → Int32) (g : Nat → Nat → Option Nat) (u : Nat → Int) (p0 : Int32) (hI : IC a u τ ln y g) : Met l yX1_postFrom wm_c_postFrom ({ frames := 0, cells := 0, slots := 0, locals := 0 }) (pw_ ad av (dC, dI) sz [.ref (a 1), .int p0] a k τ ln y g) (va_Qi (fun (r u : Int32) => u = r) (fun (r : Int32) (t : State) => (tw (dC, dI) a k τ ln y g t.heap)) (fr τ sz)) 0 0 (fr τ sz) := by
  refine Met.ofW (cc := cX1_postFrom) (maxL := 6) (ret := (some .int)) (by decide) rfl ?_
  intro p e s m args below meth c s₁ B hml hv
  obtain ⟨rfl, hsz, hT, hK, hM⟩ := hv
  have hx := B.exec
  have hb := B.bytes
  have hr := B.returns
  have hts := atoms_spec (ws := wm_c_postFrom) B.pre
  have hown : s.vm.findClass RX1 = some m.cls := findClass_of_methodNamed B.named
  have hlocks := B.notSynchronized
  subst hsz
  generalize hAe : fr τ s.heap.size = A at hM ⊢
  have hA : ∀ q : Nat, s.heap.size ≤ q → A q := fun q h => by rw [← hAe]; exact Or.inr h
  have hF : ∀ q, τ q ≠ 0 → A q := fun q h => by rw [← hAe]; exact Or.inl h
  have hS : va_S A s.heap s.heap [] := va_S.rf
  have hX := hI.1
  have hR := ic_r hI
  have hl := lv_entry ([.ref (a 1), .int p0]) (n := 6) (Nat.le_of_ble_eq_true rfl)
  rw [lg_entry_eq]
  generalize (lg_sl ([.ref (a 1), .int p0]) ++ List.replicate (6 - (lg_sl ([.ref (a 1), .int p0])).length) Slot.unset).toArray = ls at hl ⊢
  have hl : lv_has ls 6 [(0, .ref (a 1)), (1, .int p0)] := hl
  refine lv_iload_n hx hb dX1_postFrom_0 rfl (lv_at hl 1 rfl) ?_
  refine lv_iload_n hx hb dX1_postFrom_1 rfl (lv_at hl 1 rfl) ?_
  refine lv_sipush (v := 480) hx hb dX1_postFrom_2 (by decide) ?_
  refine lv_irem hx hb dX1_postFrom_5 (by decide) ?_
  refine lv_topi (fun x_1 ex_1 => ?_)
  refine lv_isub hx hb dX1_postFrom_6 ?_
  refine lv_topi (fun x_2 ex_2 => ?_)
  refine lv_istore_n (lv' := [(2, .int x_2), (0, .ref (a 1)), (1, .int p0)]) hx hb dX1_postFrom_7 rfl hl (by decide) rfl (fun ls hl => ?_)
  refine lv_iconst (v := (-1)) hx hb dX1_postFrom_8 (by decide) ?_
  refine lv_istore_n (lv' := [(3, .int (-1)), (2, .int x_2), (0, .ref (a 1)), (1, .int p0)]) hx hb dX1_postFrom_9 rfl hl (by decide) rfl (fun ls hl => ?_)
  refine lv_iconst (v := 0) hx hb dX1_postFrom_10 (by decide) ?_
  refine lv_istore (lv' := [(4, .int 0), (3, .int (-1)), (2, .int x_2), (0, .ref (a 1)), (1, .int p0)]) hx hb dX1_postFrom_11 hl (by decide) rfl (fun ls hl => ?_)
  have loop_13 : ∀ (n : Nat) (w3 : Int32) (i4 : Int32) (H : Heap) (locs : List Loc) (ls : Array Slot), (u 0 - i4.toInt).toNat < n → 0 ≤ i4.toInt → i4.toInt ≤ u 0 → tw (dC, dI) a k τ ln y g H → va_S A s.heap H locs → lv_has ls 6 [(0, .ref (a 1)), (1, .int p0), (2, .int x_2), (3, .int w3), (4, .int i4)] → W p l e (headSpec wm_c_postFrom ({ frames := 0, cells := 0, slots := 0, locals := 0 })).room s m ([.ref (a 1), .int p0] : List Value).toArray below meth c H locs 0 0 (MQ below (va_Qi (fun (r u : Int32) => u = r) (fun (r : Int32) (t : State) => (tw (dC, dI) a k τ ln y g t.heap)) A) ([.ref (a 1), .int p0] : List Value).toArray s 0 0 A) (F0 m 13 ls []) := by
    intro n
    induction n with
    | zero => intro w3 i4 H locs ls hlt; exact absurd hlt (Nat.not_lt_zero _)
    | succ n ih_13 =>
      intro w3 i4 H locs ls hlt hi13_0 hi13_1 hT hS hl
      refine lv_iload hx hb dX1_postFrom_13 (lv_at hl 4 rfl) ?_
      refine lv_aload_n hx hb dX1_postFrom_15 rfl (lv_at hl 0 rfl) ?_
      refine tw_get (D := (dC, dI)) (v := .int (y (a 1) 1)) (C := RX1) (T := TX1) (N := 8) hx hb hts (fun _ hh => (List.mem_cons_of_mem _ (List.mem_append_right _ (List.mem_append_left _ hh)))) hown hK hT (fx_1 hX) (by decide) cl_e11 rfl 1 (by decide) (hts (.fieldLink RX1 15 "TypingPool$Book" "postCount" "I") (List.mem_cons_of_mem _ (List.mem_append_left _ (List.mem_of_getElem? (i := 0) rfl)))) (fun _ h9 => h9) rfl dX1_postFrom_16 ?_
      have hc_3 := ic_0 hI
      refine lv_icmp_ge (tgt := 65) hx hb dX1_postFrom_19 (by decide) (fun c_4 => ?_) (fun c_4 => ?_)
      · have nc_4 := z_le hc_3 rfl c_4
        refine lv_iload_n hx hb dX1_postFrom_65 rfl (lv_at hl 3 rfl) ?_
        exact W.iret (v := w3) hx hb hr (fun t ht hW9 => ⟨⟨w3, w3, rfl, rfl, (tw_at ht hT)⟩, hS.F ht⟩) hS.2.2 dX1_postFrom_66
      · have nc_4 := z_nle hc_3 rfl c_4
        refine lv_iload_n hx hb dX1_postFrom_22 rfl (lv_at hl 2 rfl) ?_
        refine lv_aload_n hx hb dX1_postFrom_23 rfl (lv_at hl 0 rfl) ?_
        refine tw_get (D := (dC, dI)) (v := .ref (a 9)) (C := RX1) (T := TX1) (N := 8) hx hb hts (fun _ hh => (List.mem_cons_of_mem _ (List.mem_append_right _ (List.mem_append_left _ hh)))) hown hK hT (fx_1 hX) (by decide) cl_e11 rfl 0 (by decide) (hts (.fieldLink RX1 9 "TypingPool$Book" "posts" "[I") (List.mem_cons_of_mem _ (List.mem_append_left _ (List.mem_of_getElem? (i := 1) rfl)))) (fun _ h9 => h9) rfl dX1_postFrom_24 ?_
        refine lv_iload hx hb dX1_postFrom_27 (lv_at hl 4 rfl) ?_
        refine tw_iald hx hb hK hT 0 (fx_9 hX) (by decide) cl_e19 rfl (z_in rfl (by omega) (by omega)) dX1_postFrom_29 ?_
        refine lv_iadd hx hb dX1_postFrom_30 ?_
        refine lv_topi (fun x_5 ex_5 => ?_)
        refine lv_istore (lv' := [(5, .int x_5), (0, .ref (a 1)), (1, .int p0), (2, .int x_2), (3, .int w3), (4, .int i4)]) hx hb dX1_postFrom_31 hl (by decide) rfl (fun ls hl => ?_)
        refine lv_iload hx hb dX1_postFrom_33 (lv_at hl 0 rfl) ?_
        refine lv_iload_n hx hb dX1_postFrom_35 rfl (lv_at hl 2 rfl) ?_
        refine lv_icmp_ge (tgt := 45) hx hb dX1_postFrom_36 (by decide) (fun c_6 => ?_) (fun c_6 => ?_)
        · have nc_6 := z_le rfl rfl c_6
          refine lv_iload_n hx hb dX1_postFrom_45 rfl (lv_at hl 4 rfl) ?_
          refine lv_iconst (v := (-1)) hx hb dX1_postFrom_46 (by decide) ?_
          refine lv_icmp_eq (tgt := 56) hx hb dX1_postFrom_47 (by decide) (fun c_7 => ?_) (fun c_7 => ?_)
          · have nc_7 := z_eq rfl (zk (x := (-1)) (-1) rfl) c_7
            refine lv_iload hx hb dX1_postFrom_56 (lv_at hl 0 rfl) ?_
            refine lv_istore_n (lv' := [(3, .int x_5), (5, .int x_5), (0, .ref (a 1)), (1, .int p0), (2, .int x_2), (4, .int i4)]) hx hb dX1_postFrom_58 rfl hl (by decide) rfl (fun ls hl => ?_)
            obtain ⟨x_8, ex_8⟩ : ∃ y : Int32, y = i4 + Int32.ofInt 1 := ⟨_, rfl⟩
            have hx_8 := z_add ex_8 rfl (zk (x := Int32.ofInt 1) 1 rfl) (by omega) (by omega)
            refine lv_iinc (v := x_8) (lv' := [(4, .int x_8), (3, .int x_5), (5, .int x_5), (0, .ref (a 1)), (1, .int p0), (2, .int x_2)]) hx hb dX1_postFrom_59 hl (k := 5) rfl ex_8.symm (by decide) rfl (fun ls hl => ?_)
            refine lv_goto (tgt := 13) hx hb dX1_postFrom_62 (by decide) ?_
            exact ih_13  x_5 x_8 H _ ls (by omega) (by omega) (by omega) hT hS (lv_sub hl [3, 4, 5, 1, 0] rfl)
          · have nc_7 := z_ne rfl (zk (x := (-1)) (-1) rfl) c_7
            refine lv_iload hx hb dX1_postFrom_50 (lv_at hl 0 rfl) ?_
            refine lv_iload_n hx hb dX1_postFrom_52 rfl (lv_at hl 4 rfl) ?_
            refine lv_icmp_ge (tgt := 59) hx hb dX1_postFrom_53 (by decide) (fun c_9 => ?_) (fun c_9 => ?_)
            · have nc_9 := z_le rfl rfl c_9
              obtain ⟨x_10, ex_10⟩ : ∃ y : Int32, y = i4 + Int32.ofInt 1 := ⟨_, rfl⟩
              have hx_10 := z_add ex_10 rfl (zk (x := Int32.ofInt 1) 1 rfl) (by omega) (by omega)
              refine lv_iinc (v := x_10) (lv' := [(4, .int x_10), (5, .int x_5), (0, .ref (a 1)), (1, .int p0), (2, .int x_2), (3, .int w3)]) hx hb dX1_postFrom_59 hl (k := 5) rfl ex_10.symm (by decide) rfl (fun ls hl => ?_)
              refine lv_goto (tgt := 13) hx hb dX1_postFrom_62 (by decide) ?_
              exact ih_13  w3 x_10 H _ ls (by omega) (by omega) (by omega) hT hS (lv_sub hl [2, 3, 4, 5, 0] rfl)
            · have nc_9 := z_nle rfl rfl c_9
              refine lv_iload hx hb dX1_postFrom_56 (lv_at hl 0 rfl) ?_
              refine lv_istore_n (lv' := [(3, .int x_5), (5, .int x_5), (0, .ref (a 1)), (1, .int p0), (2, .int x_2), (4, .int i4)]) hx hb dX1_postFrom_58 rfl hl (by decide) rfl (fun ls hl => ?_)
              obtain ⟨x_11, ex_11⟩ : ∃ y : Int32, y = i4 + Int32.ofInt 1 := ⟨_, rfl⟩
              have hx_11 := z_add ex_11 rfl (zk (x := Int32.ofInt 1) 1 rfl) (by omega) (by omega)
              refine lv_iinc (v := x_11) (lv' := [(4, .int x_11), (3, .int x_5), (5, .int x_5), (0, .ref (a 1)), (1, .int p0), (2, .int x_2)]) hx hb dX1_postFrom_59 hl (k := 5) rfl ex_11.symm (by decide) rfl (fun ls hl => ?_)
              refine lv_goto (tgt := 13) hx hb dX1_postFrom_62 (by decide) ?_
              exact ih_13  x_5 x_11 H _ ls (by omega) (by omega) (by omega) hT hS (lv_sub hl [3, 4, 5, 1, 0] rfl)
        · have nc_6 := z_nle rfl rfl c_6
          obtain ⟨x_12, ex_12⟩ : ∃ y : Int32, y = x_5 + Int32.ofInt 480 := ⟨_, rfl⟩
          refine lv_iincW (v := x_12) (lv' := [(5, .int x_12), (0, .ref (a 1)), (1, .int p0), (2, .int x_2), (3, .int w3), (4, .int i4)]) hx hb dX1_postFrom_39 hl (k := 0) rfl ex_12.symm (by decide) rfl (fun ls hl => ?_)
          refine lv_iload_n hx hb dX1_postFrom_45 rfl (lv_at hl 4 rfl) ?_
          refine lv_iconst (v := (-1)) hx hb dX1_postFrom_46 (by decide) ?_
          refine lv_icmp_eq (tgt := 56) hx hb dX1_postFrom_47 (by decide) (fun c_13 => ?_) (fun c_13 => ?_)
          · have nc_13 := z_eq rfl (zk (x := (-1)) (-1) rfl) c_13
            refine lv_iload hx hb dX1_postFrom_56 (lv_at hl 0 rfl) ?_
            refine lv_istore_n (lv' := [(3, .int x_12), (5, .int x_12), (0, .ref (a 1)), (1, .int p0), (2, .int x_2), (4, .int i4)]) hx hb dX1_postFrom_58 rfl hl (by decide) rfl (fun ls hl => ?_)
            obtain ⟨x_14, ex_14⟩ : ∃ y : Int32, y = i4 + Int32.ofInt 1 := ⟨_, rfl⟩
            have hx_14 := z_add ex_14 rfl (zk (x := Int32.ofInt 1) 1 rfl) (by omega) (by omega)
            refine lv_iinc (v := x_14) (lv' := [(4, .int x_14), (3, .int x_12), (5, .int x_12), (0, .ref (a 1)), (1, .int p0), (2, .int x_2)]) hx hb dX1_postFrom_59 hl (k := 5) rfl ex_14.symm (by decide) rfl (fun ls hl => ?_)
            refine lv_goto (tgt := 13) hx hb dX1_postFrom_62 (by decide) ?_
            exact ih_13  x_12 x_14 H _ ls (by omega) (by omega) (by omega) hT hS (lv_sub hl [3, 4, 5, 1, 0] rfl)
          · have nc_13 := z_ne rfl (zk (x := (-1)) (-1) rfl) c_13
            refine lv_iload hx hb dX1_postFrom_50 (lv_at hl 0 rfl) ?_
            refine lv_iload_n hx hb dX1_postFrom_52 rfl (lv_at hl 4 rfl) ?_
            refine lv_icmp_ge (tgt := 59) hx hb dX1_postFrom_53 (by decide) (fun c_15 => ?_) (fun c_15 => ?_)
            · have nc_15 := z_le rfl rfl c_15
              obtain ⟨x_16, ex_16⟩ : ∃ y : Int32, y = i4 + Int32.ofInt 1 := ⟨_, rfl⟩
              have hx_16 := z_add ex_16 rfl (zk (x := Int32.ofInt 1) 1 rfl) (by omega) (by omega)
              refine lv_iinc (v := x_16) (lv' := [(4, .int x_16), (5, .int x_12), (0, .ref (a 1)), (1, .int p0), (2, .int x_2), (3, .int w3)]) hx hb dX1_postFrom_59 hl (k := 5) rfl ex_16.symm (by decide) rfl (fun ls hl => ?_)
              refine lv_goto (tgt := 13) hx hb dX1_postFrom_62 (by decide) ?_
              exact ih_13  w3 x_16 H _ ls (by omega) (by omega) (by omega) hT hS (lv_sub hl [2, 3, 4, 5, 0] rfl)
            · have nc_15 := z_nle rfl rfl c_15
              refine lv_iload hx hb dX1_postFrom_56 (lv_at hl 0 rfl) ?_
              refine lv_istore_n (lv' := [(3, .int x_12), (5, .int x_12), (0, .ref (a 1)), (1, .int p0), (2, .int x_2), (4, .int i4)]) hx hb dX1_postFrom_58 rfl hl (by decide) rfl (fun ls hl => ?_)
              obtain ⟨x_17, ex_17⟩ : ∃ y : Int32, y = i4 + Int32.ofInt 1 := ⟨_, rfl⟩
              have hx_17 := z_add ex_17 rfl (zk (x := Int32.ofInt 1) 1 rfl) (by omega) (by omega)
              refine lv_iinc (v := x_17) (lv' := [(4, .int x_17), (3, .int x_12), (5, .int x_12), (0, .ref (a 1)), (1, .int p0), (2, .int x_2)]) hx hb dX1_postFrom_59 hl (k := 5) rfl ex_17.symm (by decide) rfl (fun ls hl => ?_)
              refine lv_goto (tgt := 13) hx hb dX1_postFrom_62 (by decide) ?_
              exact ih_13  x_12 x_17 H _ ls (by omega) (by omega) (by omega) hT hS (lv_sub hl [3, 4, 5, 1, 0] rfl)
  have hp_18 : (-1 : Int32).toInt = (-1) := (zk (x := (-1)) (-1) rfl)
  have hp_19 : (0 : Int32).toInt = 0 := (zk (x := 0) 0 rfl)
  exact loop_13 _ (-1 : Int32) (0 : Int32) s.heap _ ls (Nat.lt_succ_self _) (by omega) (by omega) hT hS (lv_sub hl [3, 4, 2, 1, 0] rfl)
def wo_c_bitCount : List Cond := [.constant RJ6 265 (1431655765), .constant RJ6 266 (858993459), .constant RJ6 267 (252645135)]
def wm_c_bitCount : List Cond := .code yJ6_bitCount_0f7a4 cJ6_bitCount_0f7a4 1 (some .int) :: (wo_c_bitCount ++ ([] : List Cond))
theorem gd_c_bitCount : ∀ w ∈ wm_c_bitCount, goodWord w = true := gd_c rfl (gd_a (by decide) gd_nil)
set_option maxRecDepth 20000 in
theorem im_c_bitCount : ∀ w ∈ wm_c_bitCount, w ∈ lw_tbl := im_c (in_r [.code yJ6_bitCount_0f7a4 cJ6_bitCount_0f7a4 1 (some .int)] [807] (by decide +kernel)) (in_app (in_r wo_c_bitCount [808, 809, 810] (by decide +kernel)) im_nil)
set_option maxHeartbeats 4000000 in
set_option maxRecDepth 100000 in
theorem c_bitCount (l : Launch) (dC : Nat → ClassId) (dI : Nat → Nat → Nat) (ad av : Nat → Nat) (sz : Nat) (a : Nat → Nat) (k : Nat → ClassId) (τ ln : Nat → Nat) (y : Nat → Nat → Int32) (g : Nat → Nat → Option Nat) (u : Nat → Int) (p0 : Int32) : Met l yJ6_bitCount_0f7a4 wm_c_bitCount ({ frames := 0, cells := 0, slots := 0, locals := 0 }) (pw_ ad av (dC, dI) sz [.int p0] a k τ ln y g) (va_Qi (fun (r u : Int32) => u = r) (fun (r : Int32) (t : State) => (0 ≤ r.toInt ∧ r.toInt ≤ 63 ∧ tw (dC, dI) a k τ ln y g t.heap)) (fr τ sz)) 0 0 (fr τ sz) := by
  refine Met.ofW (cc := cJ6_bitCount_0f7a4) (maxL := 1) (ret := (some .int)) (by decide) rfl ?_
  intro p e s m args below meth c s₁ B hml hv
  obtain ⟨rfl, hsz, hT, hK, hM⟩ := hv
  have hx := B.exec
  have hb := B.bytes
  have hr := B.returns
  have hts := atoms_spec (ws := wm_c_bitCount) B.pre
  have hown : s.vm.findClass RJ6 = some m.cls := findClass_of_methodNamed B.named
  have hlocks := B.notSynchronized
  subst hsz
  generalize hAe : fr τ s.heap.size = A at hM ⊢
  have hA : ∀ q : Nat, s.heap.size ≤ q → A q := fun q h => by rw [← hAe]; exact Or.inr h
  have hF : ∀ q, τ q ≠ 0 → A q := fun q h => by rw [← hAe]; exact Or.inl h
  have hS : va_S A s.heap s.heap [] := va_S.rf
  have hl := lv_entry ([.int p0]) (n := 1) (Nat.le_of_ble_eq_true rfl)
  rw [lg_entry_eq]
  generalize (lg_sl ([.int p0]) ++ List.replicate (1 - (lg_sl ([.int p0])).length) Slot.unset).toArray = ls at hl ⊢
  have hl : lv_has ls 1 [(0, .int p0)] := hl
  refine lv_iload_n hx hb dJ6_bitCount_0f7a4_0 rfl (lv_at hl 0 rfl) ?_
  refine lv_iload_n hx hb dJ6_bitCount_0f7a4_1 rfl (lv_at hl 0 rfl) ?_
  refine lv_iconst (v := 1) hx hb dJ6_bitCount_0f7a4_2 (by decide) ?_
  refine lv_iushr hx hb dJ6_bitCount_0f7a4_3 rfl ?_
  refine lv_topi (fun x_1 ex_1 => ?_)
  refine lv_ldcw hx hb hown (hts (.constant RJ6 265 (1431655765)) (List.mem_cons_of_mem _ (List.mem_append_left _ (List.mem_of_getElem? (i := 0) rfl)))) dJ6_bitCount_0f7a4_4 ?_
  refine lv_iand hx hb dJ6_bitCount_0f7a4_7 ?_
  refine lv_topi (fun x_2 ex_2 => ?_)
  have hx_2 := z_and (x := x_1) (zk (x := 1431655765) 1431655765 rfl) (by omega)
  rw [← ex_2] at hx_2
  refine lv_isub hx hb dJ6_bitCount_0f7a4_8 ?_
  refine lv_topi (fun x_3 ex_3 => ?_)
  refine lv_istore_n (lv' := [(0, .int x_3)]) hx hb dJ6_bitCount_0f7a4_9 rfl hl (by decide) rfl (fun ls hl => ?_)
  refine lv_iload_n hx hb dJ6_bitCount_0f7a4_10 rfl (lv_at hl 0 rfl) ?_
  refine lv_ldcw hx hb hown (hts (.constant RJ6 266 (858993459)) (List.mem_cons_of_mem _ (List.mem_append_left _ (List.mem_of_getElem? (i := 1) rfl)))) dJ6_bitCount_0f7a4_11 ?_
  refine lv_iand hx hb dJ6_bitCount_0f7a4_14 ?_
  refine lv_topi (fun x_4 ex_4 => ?_)
  have hx_4 := z_and (x := x_3) (zk (x := 858993459) 858993459 rfl) (by omega)
  rw [← ex_4] at hx_4
  refine lv_iload_n hx hb dJ6_bitCount_0f7a4_15 rfl (lv_at hl 0 rfl) ?_
  refine lv_iconst (v := 2) hx hb dJ6_bitCount_0f7a4_16 (by decide) ?_
  refine lv_iushr hx hb dJ6_bitCount_0f7a4_17 rfl ?_
  refine lv_topi (fun x_5 ex_5 => ?_)
  refine lv_ldcw hx hb hown (hts (.constant RJ6 266 (858993459)) (List.mem_cons_of_mem _ (List.mem_append_left _ (List.mem_of_getElem? (i := 1) rfl)))) dJ6_bitCount_0f7a4_18 ?_
  refine lv_iand hx hb dJ6_bitCount_0f7a4_21 ?_
  refine lv_topi (fun x_6 ex_6 => ?_)
  have hx_6 := z_and (x := x_5) (zk (x := 858993459) 858993459 rfl) (by omega)
  rw [← ex_6] at hx_6
  refine lv_iadd hx hb dJ6_bitCount_0f7a4_22 ?_
  refine lv_topi (fun x_7 ex_7 => ?_)
  have hx_7 := z_add ex_7 rfl rfl (by omega) (by omega)
  refine lv_istore_n (lv' := [(0, .int x_7)]) hx hb dJ6_bitCount_0f7a4_23 rfl hl (by decide) rfl (fun ls hl => ?_)
  refine lv_iload_n hx hb dJ6_bitCount_0f7a4_24 rfl (lv_at hl 0 rfl) ?_
  refine lv_iload_n hx hb dJ6_bitCount_0f7a4_25 rfl (lv_at hl 0 rfl) ?_
  refine lv_iconst (v := 4) hx hb dJ6_bitCount_0f7a4_26 (by decide) ?_
  refine lv_iushr hx hb dJ6_bitCount_0f7a4_27 rfl ?_
  refine lv_topi (fun x_8 ex_8 => ?_)
  refine lv_iadd hx hb dJ6_bitCount_0f7a4_28 ?_
  refine lv_topi (fun x_9 ex_9 => ?_)
  refine lv_ldcw hx hb hown (hts (.constant RJ6 267 (252645135)) (List.mem_cons_of_mem _ (List.mem_append_left _ (List.mem_of_getElem? (i := 2) rfl)))) dJ6_bitCount_0f7a4_29 ?_
  refine lv_iand hx hb dJ6_bitCount_0f7a4_32 ?_
  refine lv_topi (fun x_10 ex_10 => ?_)
  have hx_10 := z_and (x := x_9) (zk (x := 252645135) 252645135 rfl) (by omega)
  rw [← ex_10] at hx_10
  refine lv_istore_n (lv' := [(0, .int x_10)]) hx hb dJ6_bitCount_0f7a4_33 rfl hl (by decide) rfl (fun ls hl => ?_)
  refine lv_iload_n hx hb dJ6_bitCount_0f7a4_34 rfl (lv_at hl 0 rfl) ?_
  refine lv_iload_n hx hb dJ6_bitCount_0f7a4_35 rfl (lv_at hl 0 rfl) ?_
  refine lv_bipush (v := 8) hx hb dJ6_bitCount_0f7a4_36 (by decide) ?_
  refine lv_iushr hx hb dJ6_bitCount_0f7a4_38 rfl ?_
  refine lv_topi (fun x_11 ex_11 => ?_)
  refine lv_iadd hx hb dJ6_bitCount_0f7a4_39 ?_
  refine lv_topi (fun x_12 ex_12 => ?_)
  refine lv_istore_n (lv' := [(0, .int x_12)]) hx hb dJ6_bitCount_0f7a4_40 rfl hl (by decide) rfl (fun ls hl => ?_)
  refine lv_iload_n hx hb dJ6_bitCount_0f7a4_41 rfl (lv_at hl 0 rfl) ?_
  refine lv_iload_n hx hb dJ6_bitCount_0f7a4_42 rfl (lv_at hl 0 rfl) ?_
  refine lv_bipush (v := 16) hx hb dJ6_bitCount_0f7a4_43 (by decide) ?_
  refine lv_iushr hx hb dJ6_bitCount_0f7a4_45 rfl ?_
  refine lv_topi (fun x_13 ex_13 => ?_)
  refine lv_iadd hx hb dJ6_bitCount_0f7a4_46 ?_
  refine lv_topi (fun x_14 ex_14 => ?_)
  refine lv_istore_n (lv' := [(0, .int x_14)]) hx hb dJ6_bitCount_0f7a4_47 rfl hl (by decide) rfl (fun ls hl => ?_)
  refine lv_iload_n hx hb dJ6_bitCount_0f7a4_48 rfl (lv_at hl 0 rfl) ?_
  refine lv_bipush (v := 63) hx hb dJ6_bitCount_0f7a4_49 (by decide) ?_
  refine lv_iand hx hb dJ6_bitCount_0f7a4_51 ?_
  refine lv_topi (fun x_15 ex_15 => ?_)
  have hx_15 := z_and (x := x_14) (zk (x := 63) 63 rfl) (by omega)
  rw [← ex_15] at hx_15
  have hrv : x_15.toInt = x_15.toInt := rfl
  exact W.iret (v := x_15) hx hb hr (fun t ht hW9 => ⟨⟨x_15, x_15, rfl, rfl, ⟨by omega, by omega, tw_at ht hT⟩⟩, hS.F ht⟩) hS.2.2 dJ6_bitCount_0f7a4_52
def wo_c_truth : List Cond := []
def wm_c_truth : List Cond := .code yX10_truth cX10_truth 1 (some .int) :: (wo_c_truth ++ ([] : List Cond))
theorem gd_c_truth : ∀ w ∈ wm_c_truth, goodWord w = true := gd_c rfl (gd_a (by decide) gd_nil)
set_option maxRecDepth 20000 in
theorem im_c_truth : ∀ w ∈ wm_c_truth, w ∈ lw_tbl := im_c (in_r [.code yX10_truth cX10_truth 1 (some .int)] [793] (by decide +kernel)) (in_app (in_r wo_c_truth [] (by decide +kernel)) im_nil)
set_option maxHeartbeats 4000000 in
set_option maxRecDepth 100000 in
theorem c_truth (l : Launch) (dC : Nat → ClassId) (dI : Nat → Nat → Nat) (ad av : Nat → Nat) (sz : Nat) (a : Nat → Nat) (k : Nat → ClassId) (τ ln : Nat → Nat) (y : Nat → Nat → Int32) (g : Nat → Nat → Option Nat) (u : Nat → Int) (p0 : Int32) : Met l yX10_truth wm_c_truth ({ frames := 0, cells := 0, slots := 0, locals := 0 }) (pw_ ad av (dC, dI) sz [.int p0] a k τ ln y g) (va_Qi (fun (r u : Int32) => u = r) (fun (r : Int32) (t : State) => (tw (dC, dI) a k τ ln y g t.heap)) (fr τ sz)) 0 0 (fr τ sz) := by
  refine Met.ofW (cc := cX10_truth) (maxL := 1) (ret := (some .int)) (by decide) rfl ?_
  intro p e s m args below meth c s₁ B hml hv
  obtain ⟨rfl, hsz, hT, hK, hM⟩ := hv
  have hx := B.exec
  have hb := B.bytes
  have hr := B.returns
  have hts := atoms_spec (ws := wm_c_truth) B.pre
  have hown : s.vm.findClass RX10 = some m.cls := findClass_of_methodNamed B.named
  have hlocks := B.notSynchronized
  subst hsz
  generalize hAe : fr τ s.heap.size = A at hM ⊢
  have hA : ∀ q : Nat, s.heap.size ≤ q → A q := fun q h => by rw [← hAe]; exact Or.inr h
  have hF : ∀ q, τ q ≠ 0 → A q := fun q h => by rw [← hAe]; exact Or.inl h
  have hS : va_S A s.heap s.heap [] := va_S.rf
  have hl := lv_entry ([.int p0]) (n := 1) (Nat.le_of_ble_eq_true rfl)
  rw [lg_entry_eq]
  generalize (lg_sl ([.int p0]) ++ List.replicate (1 - (lg_sl ([.int p0])).length) Slot.unset).toArray = ls at hl ⊢
  have hl : lv_has ls 1 [(0, .int p0)] := hl
  refine lv_iload_n hx hb dX10_truth_0 rfl (lv_at hl 0 rfl) ?_
  refine lv_if_eq (tgt := 8) hx hb dX10_truth_1 (by decide) (fun c_1 => ?_) (fun c_1 => ?_)
  · have nc_1 := z_eq rfl (zk (x := 0) 0 rfl) c_1
    refine lv_iconst (v := 0) hx hb dX10_truth_8 (by decide) ?_
    exact W.iret (v := 0) hx hb hr (fun t ht hW9 => ⟨⟨0, 0, rfl, rfl, (tw_at ht hT)⟩, hS.F ht⟩) hS.2.2 dX10_truth_9
  · have nc_1 := z_ne rfl (zk (x := 0) 0 rfl) c_1
    refine lv_iconst (v := 1) hx hb dX10_truth_4 (by decide) ?_
    refine lv_goto (tgt := 9) hx hb dX10_truth_5 (by decide) ?_
    exact W.iret (v := 1) hx hb hr (fun t ht hW9 => ⟨⟨1, 1, rfl, rfl, (tw_at ht hT)⟩, hS.F ht⟩) hS.2.2 dX10_truth_9
def wo_c_joined : List Cond := [.methodLink RX10 91 yX10_truth, .static yX10_truth, .initialized RX10]
def wm_c_joined : List Cond := .code yX10_joined cX10_joined 3 (some .int) :: (wo_c_joined ++ (wm_c_truth ++ ([] : List Cond)))
theorem gd_c_joined : ∀ w ∈ wm_c_joined, goodWord w = true := gd_c rfl (gd_a (by decide) (gd_a gd_c_truth gd_nil))
set_option maxRecDepth 20000 in
theorem im_c_joined : ∀ w ∈ wm_c_joined, w ∈ lw_tbl := im_c (in_r [.code yX10_joined cX10_joined 3 (some .int)] [796] (by decide +kernel)) (in_app (in_r wo_c_joined [791, 792, 72] (by decide +kernel)) (in_app im_c_truth im_nil))
set_option maxHeartbeats 4000000 in
set_option maxRecDepth 100000 in
theorem c_joined (l : Launch) (dC : Nat → ClassId) (dI : Nat → Nat → Nat) (ad av : Nat → Nat) (sz : Nat) (a : Nat → Nat) (k : Nat → ClassId) (τ ln : Nat → Nat) (y : Nat → Nat → Int32) (g : Nat → Nat → Option Nat) (u : Nat → Int) (p0 : Int32) (p1 : Int32) (p2 : Int32) : Met l yX10_joined wm_c_joined ({ frames := 1, cells := 0, slots := 0, locals := 60 }) (pw_ ad av (dC, dI) sz [.int p0, .int p1, .int p2] a k τ ln y g) (va_Qi (fun (r u : Int32) => u = r) (fun (r : Int32) (t : State) => (tw (dC, dI) a k τ ln y g t.heap)) (fr τ sz)) 0 0 (fr τ sz) := by
  refine Met.ofW (cc := cX10_joined) (maxL := 3) (ret := (some .int)) (by decide) rfl ?_
  intro p e s m args below meth c s₁ B hml hv
  obtain ⟨rfl, hsz, hT, hK, hM⟩ := hv
  have hx := B.exec
  have hb := B.bytes
  have hr := B.returns
  have hts := atoms_spec (ws := wm_c_joined) B.pre
  have hown : s.vm.findClass RX10 = some m.cls := findClass_of_methodNamed B.named
  have hlocks := B.notSynchronized
  subst hsz
  generalize hAe : fr τ s.heap.size = A at hM ⊢
  have hA : ∀ q : Nat, s.heap.size ≤ q → A q := fun q h => by rw [← hAe]; exact Or.inr h
  have hF : ∀ q, τ q ≠ 0 → A q := fun q h => by rw [← hAe]; exact Or.inl h
  have hS : va_S A s.heap s.heap [] := va_S.rf
  have hl := lv_entry ([.int p0, .int p1, .int p2]) (n := 3) (Nat.le_of_ble_eq_true rfl)
  rw [lg_entry_eq]
  generalize (lg_sl ([.int p0, .int p1, .int p2]) ++ List.replicate (3 - (lg_sl ([.int p0, .int p1, .int p2])).length) Slot.unset).toArray = ls at hl ⊢
  have hl : lv_has ls 3 [(0, .int p0), (1, .int p1), (2, .int p2)] := hl
  refine lv_iload_n hx hb dX10_joined_0 rfl (lv_at hl 0 rfl) ?_
  by_cases w_1 : p0 = 38
  · refine lq_top (v := 38) w_1 ?_
    refine lv_lookup (tgt := 85) hx hb dX10_joined_1 (by decide) (off := 84) (by decide) (by decide) ?_
    refine lv_iload_n hx hb dX10_joined_85 rfl (lv_at hl 1 rfl) ?_
    refine lv_if_eq (tgt := 97) hx hb dX10_joined_86 (by decide) (fun c_2 => ?_) (fun c_2 => ?_)
    · have nc_2 := z_eq rfl (zk (x := 0) 0 rfl) c_2
      refine lv_iconst (v := 0) hx hb dX10_joined_97 (by decide) ?_
      have hFc := tw_free hF hS hA
      have hp_3 : (0 : Int32).toInt = 0 := (zk (x := 0) 0 rfl)
      refine va_calli (va_runS (As := [.int 0]) (rest := []) ⟨hx, hb, hml, hown, hts⟩ (c_truth l dC dI ad av s.heap.size a k τ ln y g u (0 : Int32)  ) (va_cwS 1 hts (gi_3 (List.mem_cons_of_mem _ (List.mem_append_left _ (List.mem_of_getElem? (i := 0) rfl))) (List.mem_cons_of_mem _ (List.mem_append_left _ (List.mem_of_getElem? (i := 1) rfl))) (List.mem_cons_of_mem _ (List.mem_append_left _ (List.mem_of_getElem? (i := 2) rfl))) (fun _ hh => (List.mem_cons_of_mem _ (List.mem_append_right _ (List.mem_append_left _ hh)))) gd_c_truth) rfl rfl rfl (by decide +kernel) ⟨Nat.le_of_ble_eq_true rfl, Nat.le_of_ble_eq_true rfl⟩) ⟨pw_blind, pw_use hT hK hFc hS hM⟩ rfl rfl hl.1 rfl (lv_room (Nat.le_of_ble_eq_true rfl)) dX10_joined_98 ⟨Nat.le_of_ble_eq_true rfl, Nat.le_of_ble_eq_true rfl⟩) hS (fun q _ h => hFc q h) hFc (fun r0 r_4 t H locs ht hvm hw hB hz1 hk1 hS => ?_)
      refine W.widen (k := 0) (n := 0) (Nat.le_of_ble_eq_true rfl) (Nat.le_of_ble_eq_true rfl) ?_
      clear hvm hz1 hk1
      subst hw
      have hT := hB
      rw [ht] at hT
      clear hp_3
      exact W.iret (v := r_4) hx hb hr (fun t ht hW9 => ⟨⟨r_4, r_4, rfl, rfl, (tw_at ht hT)⟩, hS.F ht⟩) hS.2.2 dX10_joined_101
    · have nc_2 := z_ne rfl (zk (x := 0) 0 rfl) c_2
      refine lv_iload_n hx hb dX10_joined_89 rfl (lv_at hl 2 rfl) ?_
      refine lv_if_eq (tgt := 97) hx hb dX10_joined_90 (by decide) (fun c_5 => ?_) (fun c_5 => ?_)
      · have nc_5 := z_eq rfl (zk (x := 0) 0 rfl) c_5
        refine lv_iconst (v := 0) hx hb dX10_joined_97 (by decide) ?_
        have hFc := tw_free hF hS hA
        have hp_6 : (0 : Int32).toInt = 0 := (zk (x := 0) 0 rfl)
        refine va_calli (va_runS (As := [.int 0]) (rest := []) ⟨hx, hb, hml, hown, hts⟩ (c_truth l dC dI ad av s.heap.size a k τ ln y g u (0 : Int32)  ) (va_cwS 1 hts (gi_3 (List.mem_cons_of_mem _ (List.mem_append_left _ (List.mem_of_getElem? (i := 0) rfl))) (List.mem_cons_of_mem _ (List.mem_append_left _ (List.mem_of_getElem? (i := 1) rfl))) (List.mem_cons_of_mem _ (List.mem_append_left _ (List.mem_of_getElem? (i := 2) rfl))) (fun _ hh => (List.mem_cons_of_mem _ (List.mem_append_right _ (List.mem_append_left _ hh)))) gd_c_truth) rfl rfl rfl (by decide +kernel) ⟨Nat.le_of_ble_eq_true rfl, Nat.le_of_ble_eq_true rfl⟩) ⟨pw_blind, pw_use hT hK hFc hS hM⟩ rfl rfl hl.1 rfl (lv_room (Nat.le_of_ble_eq_true rfl)) dX10_joined_98 ⟨Nat.le_of_ble_eq_true rfl, Nat.le_of_ble_eq_true rfl⟩) hS (fun q _ h => hFc q h) hFc (fun r0 r_7 t H locs ht hvm hw hB hz1 hk1 hS => ?_)
        refine W.widen (k := 0) (n := 0) (Nat.le_of_ble_eq_true rfl) (Nat.le_of_ble_eq_true rfl) ?_
        clear hvm hz1 hk1
        subst hw
        have hT := hB
        rw [ht] at hT
        clear hp_6
        exact W.iret (v := r_7) hx hb hr (fun t ht hW9 => ⟨⟨r_7, r_7, rfl, rfl, (tw_at ht hT)⟩, hS.F ht⟩) hS.2.2 dX10_joined_101
      · have nc_5 := z_ne rfl (zk (x := 0) 0 rfl) c_5
        refine lv_iconst (v := 1) hx hb dX10_joined_93 (by decide) ?_
        refine lv_goto (tgt := 98) hx hb dX10_joined_94 (by decide) ?_
        have hFc := tw_free hF hS hA
        have hp_8 : (1 : Int32).toInt = 1 := (zk (x := 1) 1 rfl)
        refine va_calli (va_runS (As := [.int 1]) (rest := []) ⟨hx, hb, hml, hown, hts⟩ (c_truth l dC dI ad av s.heap.size a k τ ln y g u (1 : Int32)  ) (va_cwS 1 hts (gi_3 (List.mem_cons_of_mem _ (List.mem_append_left _ (List.mem_of_getElem? (i := 0) rfl))) (List.mem_cons_of_mem _ (List.mem_append_left _ (List.mem_of_getElem? (i := 1) rfl))) (List.mem_cons_of_mem _ (List.mem_append_left _ (List.mem_of_getElem? (i := 2) rfl))) (fun _ hh => (List.mem_cons_of_mem _ (List.mem_append_right _ (List.mem_append_left _ hh)))) gd_c_truth) rfl rfl rfl (by decide +kernel) ⟨Nat.le_of_ble_eq_true rfl, Nat.le_of_ble_eq_true rfl⟩) ⟨pw_blind, pw_use hT hK hFc hS hM⟩ rfl rfl hl.1 rfl (lv_room (Nat.le_of_ble_eq_true rfl)) dX10_joined_98 ⟨Nat.le_of_ble_eq_true rfl, Nat.le_of_ble_eq_true rfl⟩) hS (fun q _ h => hFc q h) hFc (fun r0 r_9 t H locs ht hvm hw hB hz1 hk1 hS => ?_)
        refine W.widen (k := 0) (n := 0) (Nat.le_of_ble_eq_true rfl) (Nat.le_of_ble_eq_true rfl) ?_
        clear hvm hz1 hk1
        subst hw
        have hT := hB
        rw [ht] at hT
        clear hp_8
        exact W.iret (v := r_9) hx hb hr (fun t ht hW9 => ⟨⟨r_9, r_9, rfl, rfl, (tw_at ht hT)⟩, hS.F ht⟩) hS.2.2 dX10_joined_101
  by_cases w_10 : p0 = 43
  · refine lq_top (v := 43) w_10 ?_
    refine lv_lookup (tgt := 144) hx hb dX10_joined_1 (by decide) (off := 143) (by decide) (by decide) ?_
    refine lv_iload_n hx hb dX10_joined_144 rfl (lv_at hl 1 rfl) ?_
    refine lv_iload_n hx hb dX10_joined_145 rfl (lv_at hl 2 rfl) ?_
    refine lv_iadd hx hb dX10_joined_146 ?_
    refine lv_topi (fun x_11 ex_11 => ?_)
    exact W.iret (v := x_11) hx hb hr (fun t ht hW9 => ⟨⟨x_11, x_11, rfl, rfl, (tw_at ht hT)⟩, hS.F ht⟩) hS.2.2 dX10_joined_147
  by_cases w_12 : p0 = 45
  · refine lq_top (v := 45) w_12 ?_
    refine lv_lookup (tgt := 148) hx hb dX10_joined_1 (by decide) (off := 147) (by decide) (by decide) ?_
    refine lv_iload_n hx hb dX10_joined_148 rfl (lv_at hl 1 rfl) ?_
    refine lv_iload_n hx hb dX10_joined_149 rfl (lv_at hl 2 rfl) ?_
    refine lv_isub hx hb dX10_joined_150 ?_
    refine lv_topi (fun x_13 ex_13 => ?_)
    exact W.iret (v := x_13) hx hb hr (fun t ht hW9 => ⟨⟨x_13, x_13, rfl, rfl, (tw_at ht hT)⟩, hS.F ht⟩) hS.2.2 dX10_joined_151
  by_cases w_14 : p0 = 60
  · refine lq_top (v := 60) w_14 ?_
    refine lv_lookup (tgt := 102) hx hb dX10_joined_1 (by decide) (off := 101) (by decide) (by decide) ?_
    refine lv_iload_n hx hb dX10_joined_102 rfl (lv_at hl 1 rfl) ?_
    refine lv_iload_n hx hb dX10_joined_103 rfl (lv_at hl 2 rfl) ?_
    refine lv_icmp_ge (tgt := 111) hx hb dX10_joined_104 (by decide) (fun c_15 => ?_) (fun c_15 => ?_)
    · have nc_15 := z_le rfl rfl c_15
      refine lv_iconst (v := 0) hx hb dX10_joined_111 (by decide) ?_
      have hFc := tw_free hF hS hA
      have hp_16 : (0 : Int32).toInt = 0 := (zk (x := 0) 0 rfl)
      refine va_calli (va_runS (As := [.int 0]) (rest := []) ⟨hx, hb, hml, hown, hts⟩ (c_truth l dC dI ad av s.heap.size a k τ ln y g u (0 : Int32)  ) (va_cwS 1 hts (gi_3 (List.mem_cons_of_mem _ (List.mem_append_left _ (List.mem_of_getElem? (i := 0) rfl))) (List.mem_cons_of_mem _ (List.mem_append_left _ (List.mem_of_getElem? (i := 1) rfl))) (List.mem_cons_of_mem _ (List.mem_append_left _ (List.mem_of_getElem? (i := 2) rfl))) (fun _ hh => (List.mem_cons_of_mem _ (List.mem_append_right _ (List.mem_append_left _ hh)))) gd_c_truth) rfl rfl rfl (by decide +kernel) ⟨Nat.le_of_ble_eq_true rfl, Nat.le_of_ble_eq_true rfl⟩) ⟨pw_blind, pw_use hT hK hFc hS hM⟩ rfl rfl hl.1 rfl (lv_room (Nat.le_of_ble_eq_true rfl)) dX10_joined_112 ⟨Nat.le_of_ble_eq_true rfl, Nat.le_of_ble_eq_true rfl⟩) hS (fun q _ h => hFc q h) hFc (fun r0 r_17 t H locs ht hvm hw hB hz1 hk1 hS => ?_)
      refine W.widen (k := 0) (n := 0) (Nat.le_of_ble_eq_true rfl) (Nat.le_of_ble_eq_true rfl) ?_
      clear hvm hz1 hk1
      subst hw
      have hT := hB
      rw [ht] at hT
      clear hp_16
      exact W.iret (v := r_17) hx hb hr (fun t ht hW9 => ⟨⟨r_17, r_17, rfl, rfl, (tw_at ht hT)⟩, hS.F ht⟩) hS.2.2 dX10_joined_115
    · have nc_15 := z_nle rfl rfl c_15
      refine lv_iconst (v := 1) hx hb dX10_joined_107 (by decide) ?_
      refine lv_goto (tgt := 112) hx hb dX10_joined_108 (by decide) ?_
      have hFc := tw_free hF hS hA
      have hp_18 : (1 : Int32).toInt = 1 := (zk (x := 1) 1 rfl)
      refine va_calli (va_runS (As := [.int 1]) (rest := []) ⟨hx, hb, hml, hown, hts⟩ (c_truth l dC dI ad av s.heap.size a k τ ln y g u (1 : Int32)  ) (va_cwS 1 hts (gi_3 (List.mem_cons_of_mem _ (List.mem_append_left _ (List.mem_of_getElem? (i := 0) rfl))) (List.mem_cons_of_mem _ (List.mem_append_left _ (List.mem_of_getElem? (i := 1) rfl))) (List.mem_cons_of_mem _ (List.mem_append_left _ (List.mem_of_getElem? (i := 2) rfl))) (fun _ hh => (List.mem_cons_of_mem _ (List.mem_append_right _ (List.mem_append_left _ hh)))) gd_c_truth) rfl rfl rfl (by decide +kernel) ⟨Nat.le_of_ble_eq_true rfl, Nat.le_of_ble_eq_true rfl⟩) ⟨pw_blind, pw_use hT hK hFc hS hM⟩ rfl rfl hl.1 rfl (lv_room (Nat.le_of_ble_eq_true rfl)) dX10_joined_112 ⟨Nat.le_of_ble_eq_true rfl, Nat.le_of_ble_eq_true rfl⟩) hS (fun q _ h => hFc q h) hFc (fun r0 r_19 t H locs ht hvm hw hB hz1 hk1 hS => ?_)
      refine W.widen (k := 0) (n := 0) (Nat.le_of_ble_eq_true rfl) (Nat.le_of_ble_eq_true rfl) ?_
      clear hvm hz1 hk1
      subst hw
      have hT := hB
      rw [ht] at hT
      clear hp_18
      exact W.iret (v := r_19) hx hb hr (fun t ht hW9 => ⟨⟨r_19, r_19, rfl, rfl, (tw_at ht hT)⟩, hS.F ht⟩) hS.2.2 dX10_joined_115
  by_cases w_20 : p0 = 61
  · refine lq_top (v := 61) w_20 ?_
    refine lv_lookup (tgt := 130) hx hb dX10_joined_1 (by decide) (off := 129) (by decide) (by decide) ?_
    refine lv_iload_n hx hb dX10_joined_130 rfl (lv_at hl 1 rfl) ?_
    refine lv_iload_n hx hb dX10_joined_131 rfl (lv_at hl 2 rfl) ?_
    refine lv_icmp_ne (tgt := 139) hx hb dX10_joined_132 (by decide) (fun c_21 => ?_) (fun c_21 => ?_)
    · have nc_21 := z_ne rfl rfl c_21
      refine lv_iconst (v := 0) hx hb dX10_joined_139 (by decide) ?_
      have hFc := tw_free hF hS hA
      have hp_22 : (0 : Int32).toInt = 0 := (zk (x := 0) 0 rfl)
      refine va_calli (va_runS (As := [.int 0]) (rest := []) ⟨hx, hb, hml, hown, hts⟩ (c_truth l dC dI ad av s.heap.size a k τ ln y g u (0 : Int32)  ) (va_cwS 1 hts (gi_3 (List.mem_cons_of_mem _ (List.mem_append_left _ (List.mem_of_getElem? (i := 0) rfl))) (List.mem_cons_of_mem _ (List.mem_append_left _ (List.mem_of_getElem? (i := 1) rfl))) (List.mem_cons_of_mem _ (List.mem_append_left _ (List.mem_of_getElem? (i := 2) rfl))) (fun _ hh => (List.mem_cons_of_mem _ (List.mem_append_right _ (List.mem_append_left _ hh)))) gd_c_truth) rfl rfl rfl (by decide +kernel) ⟨Nat.le_of_ble_eq_true rfl, Nat.le_of_ble_eq_true rfl⟩) ⟨pw_blind, pw_use hT hK hFc hS hM⟩ rfl rfl hl.1 rfl (lv_room (Nat.le_of_ble_eq_true rfl)) dX10_joined_140 ⟨Nat.le_of_ble_eq_true rfl, Nat.le_of_ble_eq_true rfl⟩) hS (fun q _ h => hFc q h) hFc (fun r0 r_23 t H locs ht hvm hw hB hz1 hk1 hS => ?_)
      refine W.widen (k := 0) (n := 0) (Nat.le_of_ble_eq_true rfl) (Nat.le_of_ble_eq_true rfl) ?_
      clear hvm hz1 hk1
      subst hw
      have hT := hB
      rw [ht] at hT
      clear hp_22
      exact W.iret (v := r_23) hx hb hr (fun t ht hW9 => ⟨⟨r_23, r_23, rfl, rfl, (tw_at ht hT)⟩, hS.F ht⟩) hS.2.2 dX10_joined_143
    · have nc_21 := z_eq rfl rfl c_21
      refine lv_iconst (v := 1) hx hb dX10_joined_135 (by decide) ?_
      refine lv_goto (tgt := 140) hx hb dX10_joined_136 (by decide) ?_
      have hFc := tw_free hF hS hA
      have hp_24 : (1 : Int32).toInt = 1 := (zk (x := 1) 1 rfl)
      refine va_calli (va_runS (As := [.int 1]) (rest := []) ⟨hx, hb, hml, hown, hts⟩ (c_truth l dC dI ad av s.heap.size a k τ ln y g u (1 : Int32)  ) (va_cwS 1 hts (gi_3 (List.mem_cons_of_mem _ (List.mem_append_left _ (List.mem_of_getElem? (i := 0) rfl))) (List.mem_cons_of_mem _ (List.mem_append_left _ (List.mem_of_getElem? (i := 1) rfl))) (List.mem_cons_of_mem _ (List.mem_append_left _ (List.mem_of_getElem? (i := 2) rfl))) (fun _ hh => (List.mem_cons_of_mem _ (List.mem_append_right _ (List.mem_append_left _ hh)))) gd_c_truth) rfl rfl rfl (by decide +kernel) ⟨Nat.le_of_ble_eq_true rfl, Nat.le_of_ble_eq_true rfl⟩) ⟨pw_blind, pw_use hT hK hFc hS hM⟩ rfl rfl hl.1 rfl (lv_room (Nat.le_of_ble_eq_true rfl)) dX10_joined_140 ⟨Nat.le_of_ble_eq_true rfl, Nat.le_of_ble_eq_true rfl⟩) hS (fun q _ h => hFc q h) hFc (fun r0 r_25 t H locs ht hvm hw hB hz1 hk1 hS => ?_)
      refine W.widen (k := 0) (n := 0) (Nat.le_of_ble_eq_true rfl) (Nat.le_of_ble_eq_true rfl) ?_
      clear hvm hz1 hk1
      subst hw
      have hT := hB
      rw [ht] at hT
      clear hp_24
      exact W.iret (v := r_25) hx hb hr (fun t ht hW9 => ⟨⟨r_25, r_25, rfl, rfl, (tw_at ht hT)⟩, hS.F ht⟩) hS.2.2 dX10_joined_143
  by_cases w_26 : p0 = 62
  · refine lq_top (v := 62) w_26 ?_
    refine lv_lookup (tgt := 116) hx hb dX10_joined_1 (by decide) (off := 115) (by decide) (by decide) ?_
    refine lv_iload_n hx hb dX10_joined_116 rfl (lv_at hl 1 rfl) ?_
    refine lv_iload_n hx hb dX10_joined_117 rfl (lv_at hl 2 rfl) ?_
    refine lv_icmp_le (tgt := 125) hx hb dX10_joined_118 (by decide) (fun c_27 => ?_) (fun c_27 => ?_)
    · have nc_27 := z_le rfl rfl c_27
      refine lv_iconst (v := 0) hx hb dX10_joined_125 (by decide) ?_
      have hFc := tw_free hF hS hA
      have hp_28 : (0 : Int32).toInt = 0 := (zk (x := 0) 0 rfl)
      refine va_calli (va_runS (As := [.int 0]) (rest := []) ⟨hx, hb, hml, hown, hts⟩ (c_truth l dC dI ad av s.heap.size a k τ ln y g u (0 : Int32)  ) (va_cwS 1 hts (gi_3 (List.mem_cons_of_mem _ (List.mem_append_left _ (List.mem_of_getElem? (i := 0) rfl))) (List.mem_cons_of_mem _ (List.mem_append_left _ (List.mem_of_getElem? (i := 1) rfl))) (List.mem_cons_of_mem _ (List.mem_append_left _ (List.mem_of_getElem? (i := 2) rfl))) (fun _ hh => (List.mem_cons_of_mem _ (List.mem_append_right _ (List.mem_append_left _ hh)))) gd_c_truth) rfl rfl rfl (by decide +kernel) ⟨Nat.le_of_ble_eq_true rfl, Nat.le_of_ble_eq_true rfl⟩) ⟨pw_blind, pw_use hT hK hFc hS hM⟩ rfl rfl hl.1 rfl (lv_room (Nat.le_of_ble_eq_true rfl)) dX10_joined_126 ⟨Nat.le_of_ble_eq_true rfl, Nat.le_of_ble_eq_true rfl⟩) hS (fun q _ h => hFc q h) hFc (fun r0 r_29 t H locs ht hvm hw hB hz1 hk1 hS => ?_)
      refine W.widen (k := 0) (n := 0) (Nat.le_of_ble_eq_true rfl) (Nat.le_of_ble_eq_true rfl) ?_
      clear hvm hz1 hk1
      subst hw
      have hT := hB
      rw [ht] at hT
      clear hp_28
      exact W.iret (v := r_29) hx hb hr (fun t ht hW9 => ⟨⟨r_29, r_29, rfl, rfl, (tw_at ht hT)⟩, hS.F ht⟩) hS.2.2 dX10_joined_129
    · have nc_27 := z_nle rfl rfl c_27
      refine lv_iconst (v := 1) hx hb dX10_joined_121 (by decide) ?_
      refine lv_goto (tgt := 126) hx hb dX10_joined_122 (by decide) ?_
      have hFc := tw_free hF hS hA
      have hp_30 : (1 : Int32).toInt = 1 := (zk (x := 1) 1 rfl)
      refine va_calli (va_runS (As := [.int 1]) (rest := []) ⟨hx, hb, hml, hown, hts⟩ (c_truth l dC dI ad av s.heap.size a k τ ln y g u (1 : Int32)  ) (va_cwS 1 hts (gi_3 (List.mem_cons_of_mem _ (List.mem_append_left _ (List.mem_of_getElem? (i := 0) rfl))) (List.mem_cons_of_mem _ (List.mem_append_left _ (List.mem_of_getElem? (i := 1) rfl))) (List.mem_cons_of_mem _ (List.mem_append_left _ (List.mem_of_getElem? (i := 2) rfl))) (fun _ hh => (List.mem_cons_of_mem _ (List.mem_append_right _ (List.mem_append_left _ hh)))) gd_c_truth) rfl rfl rfl (by decide +kernel) ⟨Nat.le_of_ble_eq_true rfl, Nat.le_of_ble_eq_true rfl⟩) ⟨pw_blind, pw_use hT hK hFc hS hM⟩ rfl rfl hl.1 rfl (lv_room (Nat.le_of_ble_eq_true rfl)) dX10_joined_126 ⟨Nat.le_of_ble_eq_true rfl, Nat.le_of_ble_eq_true rfl⟩) hS (fun q _ h => hFc q h) hFc (fun r0 r_31 t H locs ht hvm hw hB hz1 hk1 hS => ?_)
      refine W.widen (k := 0) (n := 0) (Nat.le_of_ble_eq_true rfl) (Nat.le_of_ble_eq_true rfl) ?_
      clear hvm hz1 hk1
      subst hw
      have hT := hB
      rw [ht] at hT
      clear hp_30
      exact W.iret (v := r_31) hx hb hr (fun t ht hW9 => ⟨⟨r_31, r_31, rfl, rfl, (tw_at ht hT)⟩, hS.F ht⟩) hS.2.2 dX10_joined_129
  by_cases w_32 : p0 = 124
  · refine lq_top (v := 124) w_32 ?_
    refine lv_lookup (tgt := 68) hx hb dX10_joined_1 (by decide) (off := 67) (by decide) (by decide) ?_
    refine lv_iload_n hx hb dX10_joined_68 rfl (lv_at hl 1 rfl) ?_
    refine lv_if_ne (tgt := 76) hx hb dX10_joined_69 (by decide) (fun c_33 => ?_) (fun c_33 => ?_)
    · have nc_33 := z_ne rfl (zk (x := 0) 0 rfl) c_33
      refine lv_iconst (v := 1) hx hb dX10_joined_76 (by decide) ?_
      refine lv_goto (tgt := 81) hx hb dX10_joined_77 (by decide) ?_
      have hFc := tw_free hF hS hA
      have hp_34 : (1 : Int32).toInt = 1 := (zk (x := 1) 1 rfl)
      refine va_calli (va_runS (As := [.int 1]) (rest := []) ⟨hx, hb, hml, hown, hts⟩ (c_truth l dC dI ad av s.heap.size a k τ ln y g u (1 : Int32)  ) (va_cwS 1 hts (gi_3 (List.mem_cons_of_mem _ (List.mem_append_left _ (List.mem_of_getElem? (i := 0) rfl))) (List.mem_cons_of_mem _ (List.mem_append_left _ (List.mem_of_getElem? (i := 1) rfl))) (List.mem_cons_of_mem _ (List.mem_append_left _ (List.mem_of_getElem? (i := 2) rfl))) (fun _ hh => (List.mem_cons_of_mem _ (List.mem_append_right _ (List.mem_append_left _ hh)))) gd_c_truth) rfl rfl rfl (by decide +kernel) ⟨Nat.le_of_ble_eq_true rfl, Nat.le_of_ble_eq_true rfl⟩) ⟨pw_blind, pw_use hT hK hFc hS hM⟩ rfl rfl hl.1 rfl (lv_room (Nat.le_of_ble_eq_true rfl)) dX10_joined_81 ⟨Nat.le_of_ble_eq_true rfl, Nat.le_of_ble_eq_true rfl⟩) hS (fun q _ h => hFc q h) hFc (fun r0 r_35 t H locs ht hvm hw hB hz1 hk1 hS => ?_)
      refine W.widen (k := 0) (n := 0) (Nat.le_of_ble_eq_true rfl) (Nat.le_of_ble_eq_true rfl) ?_
      clear hvm hz1 hk1
      subst hw
      have hT := hB
      rw [ht] at hT
      clear hp_34
      exact W.iret (v := r_35) hx hb hr (fun t ht hW9 => ⟨⟨r_35, r_35, rfl, rfl, (tw_at ht hT)⟩, hS.F ht⟩) hS.2.2 dX10_joined_84
    · have nc_33 := z_eq rfl (zk (x := 0) 0 rfl) c_33
      refine lv_iload_n hx hb dX10_joined_72 rfl (lv_at hl 2 rfl) ?_
      refine lv_if_eq (tgt := 80) hx hb dX10_joined_73 (by decide) (fun c_36 => ?_) (fun c_36 => ?_)
      · have nc_36 := z_eq rfl (zk (x := 0) 0 rfl) c_36
        refine lv_iconst (v := 0) hx hb dX10_joined_80 (by decide) ?_
        have hFc := tw_free hF hS hA
        have hp_37 : (0 : Int32).toInt = 0 := (zk (x := 0) 0 rfl)
        refine va_calli (va_runS (As := [.int 0]) (rest := []) ⟨hx, hb, hml, hown, hts⟩ (c_truth l dC dI ad av s.heap.size a k τ ln y g u (0 : Int32)  ) (va_cwS 1 hts (gi_3 (List.mem_cons_of_mem _ (List.mem_append_left _ (List.mem_of_getElem? (i := 0) rfl))) (List.mem_cons_of_mem _ (List.mem_append_left _ (List.mem_of_getElem? (i := 1) rfl))) (List.mem_cons_of_mem _ (List.mem_append_left _ (List.mem_of_getElem? (i := 2) rfl))) (fun _ hh => (List.mem_cons_of_mem _ (List.mem_append_right _ (List.mem_append_left _ hh)))) gd_c_truth) rfl rfl rfl (by decide +kernel) ⟨Nat.le_of_ble_eq_true rfl, Nat.le_of_ble_eq_true rfl⟩) ⟨pw_blind, pw_use hT hK hFc hS hM⟩ rfl rfl hl.1 rfl (lv_room (Nat.le_of_ble_eq_true rfl)) dX10_joined_81 ⟨Nat.le_of_ble_eq_true rfl, Nat.le_of_ble_eq_true rfl⟩) hS (fun q _ h => hFc q h) hFc (fun r0 r_38 t H locs ht hvm hw hB hz1 hk1 hS => ?_)
        refine W.widen (k := 0) (n := 0) (Nat.le_of_ble_eq_true rfl) (Nat.le_of_ble_eq_true rfl) ?_
        clear hvm hz1 hk1
        subst hw
        have hT := hB
        rw [ht] at hT
        clear hp_37
        exact W.iret (v := r_38) hx hb hr (fun t ht hW9 => ⟨⟨r_38, r_38, rfl, rfl, (tw_at ht hT)⟩, hS.F ht⟩) hS.2.2 dX10_joined_84
      · have nc_36 := z_ne rfl (zk (x := 0) 0 rfl) c_36
        refine lv_iconst (v := 1) hx hb dX10_joined_76 (by decide) ?_
        refine lv_goto (tgt := 81) hx hb dX10_joined_77 (by decide) ?_
        have hFc := tw_free hF hS hA
        have hp_39 : (1 : Int32).toInt = 1 := (zk (x := 1) 1 rfl)
        refine va_calli (va_runS (As := [.int 1]) (rest := []) ⟨hx, hb, hml, hown, hts⟩ (c_truth l dC dI ad av s.heap.size a k τ ln y g u (1 : Int32)  ) (va_cwS 1 hts (gi_3 (List.mem_cons_of_mem _ (List.mem_append_left _ (List.mem_of_getElem? (i := 0) rfl))) (List.mem_cons_of_mem _ (List.mem_append_left _ (List.mem_of_getElem? (i := 1) rfl))) (List.mem_cons_of_mem _ (List.mem_append_left _ (List.mem_of_getElem? (i := 2) rfl))) (fun _ hh => (List.mem_cons_of_mem _ (List.mem_append_right _ (List.mem_append_left _ hh)))) gd_c_truth) rfl rfl rfl (by decide +kernel) ⟨Nat.le_of_ble_eq_true rfl, Nat.le_of_ble_eq_true rfl⟩) ⟨pw_blind, pw_use hT hK hFc hS hM⟩ rfl rfl hl.1 rfl (lv_room (Nat.le_of_ble_eq_true rfl)) dX10_joined_81 ⟨Nat.le_of_ble_eq_true rfl, Nat.le_of_ble_eq_true rfl⟩) hS (fun q _ h => hFc q h) hFc (fun r0 r_40 t H locs ht hvm hw hB hz1 hk1 hS => ?_)
        refine W.widen (k := 0) (n := 0) (Nat.le_of_ble_eq_true rfl) (Nat.le_of_ble_eq_true rfl) ?_
        clear hvm hz1 hk1
        subst hw
        have hT := hB
        rw [ht] at hT
        clear hp_39
        exact W.iret (v := r_40) hx hb hr (fun t ht hW9 => ⟨⟨r_40, r_40, rfl, rfl, (tw_at ht hT)⟩, hS.F ht⟩) hS.2.2 dX10_joined_84
  refine lv_lookup (tgt := 152) hx hb dX10_joined_1 (by decide) (off := 151) ((lv_osw w_1 rfl).trans ((lv_osw w_10 rfl).trans ((lv_osw w_12 rfl).trans ((lv_osw w_14 rfl).trans ((lv_osw w_20 rfl).trans ((lv_osw w_26 rfl).trans ((lv_osw w_32 rfl).trans (rfl)))))))) (by decide) ?_
  refine lv_iload_n hx hb dX10_joined_152 rfl (lv_at hl 1 rfl) ?_
  refine lv_iload_n hx hb dX10_joined_153 rfl (lv_at hl 2 rfl) ?_
  refine lv_imul hx hb dX10_joined_154 ?_
  refine lv_topi (fun x_41 ex_41 => ?_)
  exact W.iret (v := x_41) hx hb hr (fun t ht hW9 => ⟨⟨x_41, x_41, rfl, rfl, (tw_at ht hT)⟩, hS.F ht⟩) hS.2.2 dX10_joined_155
def wo_c_thing : List Cond := [.fieldLink RX10 21 "TypingPool$Rules" "letters" "[I"]
def wm_c_thing : List Cond := .code yX10_thing cX10_thing 2 (some .int) :: (wo_c_thing ++ (wsX100 ++ ([] : List Cond)))
theorem gd_c_thing : ∀ w ∈ wm_c_thing, goodWord w = true := gd_c rfl (gd_a (by decide) (gd_a gd_wsX100 gd_nil))
set_option maxRecDepth 20000 in
theorem im_c_thing : ∀ w ∈ wm_c_thing, w ∈ lw_tbl := im_c (in_r [.code yX10_thing cX10_thing 2 (some .int)] [790] (by decide +kernel)) (in_app (in_r wo_c_thing [401] (by decide +kernel)) (in_app im_wsX100 im_nil))
set_option maxHeartbeats 4000000 in
set_option maxRecDepth 100000 in
theorem c_thing (l : Launch) (dC : Nat → ClassId) (dI : Nat → Nat → Nat) (ad av : Nat → Nat) (sz : Nat) (a : Nat → Nat) (k : Nat → ClassId) (τ ln : Nat → Nat) (y : Nat → Nat → Int32) (g : Nat → Nat → Option Nat) (u : Nat → Int) (p0 : Int32) (hI : IC a u τ ln y g) : Met l yX10_thing wm_c_thing ({ frames := 0, cells := 0, slots := 0, locals := 0 }) (pw_ ad av (dC, dI) sz [.ref (a 2), .int p0] a k τ ln y g) (va_Qi (fun (r u : Int32) => u = r) (fun (r : Int32) (t : State) => (tw (dC, dI) a k τ ln y g t.heap)) (fr τ sz)) 0 0 (fr τ sz) := by
  refine Met.ofW (cc := cX10_thing) (maxL := 2) (ret := (some .int)) (by decide) rfl ?_
  intro p e s m args below meth c s₁ B hml hv
  obtain ⟨rfl, hsz, hT, hK, hM⟩ := hv
  have hx := B.exec
  have hb := B.bytes
  have hr := B.returns
  have hts := atoms_spec (ws := wm_c_thing) B.pre
  have hown : s.vm.findClass RX10 = some m.cls := findClass_of_methodNamed B.named
  have hlocks := B.notSynchronized
  subst hsz
  generalize hAe : fr τ s.heap.size = A at hM ⊢
  have hA : ∀ q : Nat, s.heap.size ≤ q → A q := fun q h => by rw [← hAe]; exact Or.inr h
  have hF : ∀ q, τ q ≠ 0 → A q := fun q h => by rw [← hAe]; exact Or.inl h
  have hS : va_S A s.heap s.heap [] := va_S.rf
  have hX := hI.1
  have hR := ic_r hI
  have hl := lv_entry ([.ref (a 2), .int p0]) (n := 2) (Nat.le_of_ble_eq_true rfl)
  rw [lg_entry_eq]
  generalize (lg_sl ([.ref (a 2), .int p0]) ++ List.replicate (2 - (lg_sl ([.ref (a 2), .int p0])).length) Slot.unset).toArray = ls at hl ⊢
  have hl : lv_has ls 2 [(0, .ref (a 2)), (1, .int p0)] := hl
  refine lv_iload_n hx hb dX10_thing_0 rfl (lv_at hl 1 rfl) ?_
  refine lv_sipush (v := 10000) hx hb dX10_thing_1 (by decide) ?_
  refine lv_icmp_ge (tgt := 11) hx hb dX10_thing_4 (by decide) (fun c_1 => ?_) (fun c_1 => ?_)
  · have nc_1 := z_le (zk (x := 10000) 10000 rfl) rfl c_1
    refine lv_aload_n hx hb dX10_thing_11 rfl (lv_at hl 0 rfl) ?_
    refine tw_get (D := (dC, dI)) (v := .ref (a 14)) (C := RX10) (T := TX10) (N := 6) hx hb hts (fun _ hh => (List.mem_cons_of_mem _ (List.mem_append_right _ (List.mem_append_left _ hh)))) hown hK hT (fx_2 hX) (by decide) cl_e12 rfl 2 (by decide) (hts (.fieldLink RX10 21 "TypingPool$Rules" "letters" "[I") (List.mem_cons_of_mem _ (List.mem_append_left _ (List.mem_of_getElem? (i := 0) rfl)))) (fun _ h9 => h9) rfl dX10_thing_12 ?_
    refine lv_iload_n hx hb dX10_thing_15 rfl (lv_at hl 1 rfl) ?_
    refine lv_sipush (v := 10000) hx hb dX10_thing_16 (by decide) ?_
    refine lv_isub hx hb dX10_thing_19 ?_
    refine lv_topi (fun x_2 ex_2 => ?_)
    refine lv_bipush (v := 7) hx hb dX10_thing_20 (by decide) ?_
    refine lv_iand hx hb dX10_thing_22 ?_
    refine lv_topi (fun x_3 ex_3 => ?_)
    have hx_3 := z_and (x := x_2) (zk (x := 7) 7 rfl) (by omega)
    rw [← ex_3] at hx_3
    refine tw_iald hx hb hK hT 0 (fx_14 hX) (by decide) cl_e24 rfl (z_in rfl (by omega) (by omega)) dX10_thing_23 ?_
    exact W.iret (v := y (a 14) x_3.toNatClampNeg) hx hb hr (fun t ht hW9 => ⟨⟨y (a 14) x_3.toNatClampNeg, y (a 14) x_3.toNatClampNeg, rfl, rfl, (tw_at ht hT)⟩, hS.F ht⟩) hS.2.2 dX10_thing_24
  · have nc_1 := z_nle (zk (x := 10000) 10000 rfl) rfl c_1
    refine lv_iload_n hx hb dX10_thing_7 rfl (lv_at hl 1 rfl) ?_
    refine lv_goto (tgt := 24) hx hb dX10_thing_8 (by decide) ?_
    exact W.iret (v := p0) hx hb hr (fun t ht hW9 => ⟨⟨p0, p0, rfl, rfl, (tw_at ht hT)⟩, hS.F ht⟩) hS.2.2 dX10_thing_24
def wo_c_isTriable : List Cond := [.fieldLink RX10 17 "TypingPool$Rules" "count" "I", .fieldLink RX10 11 "TypingPool$Rules" "told" "[LTypingPool$Rule;", .fieldLink RX10 78 "TypingPool$Rule" "kind" "I"]
def wm_c_isTriable : List Cond := .code yX10_isTriable cX10_isTriable 2 (some .boolean) :: (wo_c_isTriable ++ (wsX100 ++ (wsX90 ++ ([] : List Cond))))
theorem gd_c_isTriable : ∀ w ∈ wm_c_isTriable, goodWord w = true := gd_c rfl (gd_a (by decide) (gd_a gd_wsX100 (gd_a gd_wsX90 gd_nil)))
set_option maxRecDepth 20000 in
theorem im_c_isTriable : ∀ w ∈ wm_c_isTriable, w ∈ lw_tbl := im_c (in_r [.code yX10_isTriable cX10_isTriable 2 (some .boolean)] [1076] (by decide +kernel)) (in_app (in_r wo_c_isTriable [399, 397, 384] (by decide +kernel)) (in_app im_wsX100 (in_app im_wsX90 im_nil)))
set_option maxHeartbeats 4000000 in
set_option maxRecDepth 100000 in
theorem c_isTriable (l : Launch) (dC : Nat → ClassId) (dI : Nat → Nat → Nat) (ad av : Nat → Nat) (sz : Nat) (a : Nat → Nat) (k : Nat → ClassId) (τ ln : Nat → Nat) (y : Nat → Nat → Int32) (g : Nat → Nat → Option Nat) (u : Nat → Int) (p0 : Int32) (hI : IC a u τ ln y g) : Met l yX10_isTriable wm_c_isTriable ({ frames := 0, cells := 0, slots := 0, locals := 0 }) (pw_ ad av (dC, dI) sz [.ref (a 2), .int p0] a k τ ln y g) (va_Qi (fun (r u : Int32) => u = r) (fun (r : Int32) (t : State) => (r = 1 ∧ 0 ≤ p0.toInt ∧ p0.toInt < u 4 ∧ tw (dC, dI) a k τ ln y g t.heap) ∨ (r = 0 ∧ tw (dC, dI) a k τ ln y g t.heap)) (fr τ sz)) 0 0 (fr τ sz) := by
  refine Met.ofW (cc := cX10_isTriable) (maxL := 2) (ret := (some .boolean)) (by decide) rfl ?_
  intro p e s m args below meth c s₁ B hml hv
  obtain ⟨rfl, hsz, hT, hK, hM⟩ := hv
  have hx := B.exec
  have hb := B.bytes
  have hr := B.returns
  have hts := atoms_spec (ws := wm_c_isTriable) B.pre
  have hown : s.vm.findClass RX10 = some m.cls := findClass_of_methodNamed B.named
  have hlocks := B.notSynchronized
  subst hsz
  generalize hAe : fr τ s.heap.size = A at hM ⊢
  have hA : ∀ q : Nat, s.heap.size ≤ q → A q := fun q h => by rw [← hAe]; exact Or.inr h
  have hF : ∀ q, τ q ≠ 0 → A q := fun q h => by rw [← hAe]; exact Or.inl h
  have hS : va_S A s.heap s.heap [] := va_S.rf
  have hX := hI.1
  have hR := ic_r hI
  have hl := lv_entry ([.ref (a 2), .int p0]) (n := 2) (Nat.le_of_ble_eq_true rfl)
  rw [lg_entry_eq]
  generalize (lg_sl ([.ref (a 2), .int p0]) ++ List.replicate (2 - (lg_sl ([.ref (a 2), .int p0])).length) Slot.unset).toArray = ls at hl ⊢
  have hl : lv_has ls 2 [(0, .ref (a 2)), (1, .int p0)] := hl
  refine lv_iload_n hx hb dX10_isTriable_0 rfl (lv_at hl 1 rfl) ?_
  refine lv_if_lt (tgt := 41) hx hb dX10_isTriable_1 (by decide) (fun c_1 => ?_) (fun c_1 => ?_)
  · have nc_1 := z_lt rfl (zk (x := 0) 0 rfl) c_1
    refine lv_iconst (v := 0) hx hb dX10_isTriable_41 (by decide) ?_
    exact W.zret (v := 0) hx hb hr (by decide) (fun t ht hW9 => ⟨⟨0, 0, rfl, rfl, Or.inr (⟨rfl, tw_at ht hT⟩)⟩, hS.F ht⟩) hS.2.2 dX10_isTriable_42
  · have nc_1 := z_nlt rfl (zk (x := 0) 0 rfl) c_1
    refine lv_iload_n hx hb dX10_isTriable_4 rfl (lv_at hl 1 rfl) ?_
    refine lv_aload_n hx hb dX10_isTriable_5 rfl (lv_at hl 0 rfl) ?_
    refine tw_get (D := (dC, dI)) (v := .int (y (a 2) 1)) (C := RX10) (T := TX10) (N := 6) hx hb hts (fun _ hh => (List.mem_cons_of_mem _ (List.mem_append_right _ (List.mem_append_left _ hh)))) hown hK hT (fx_2 hX) (by decide) cl_e12 rfl 1 (by decide) (hts (.fieldLink RX10 17 "TypingPool$Rules" "count" "I") (List.mem_cons_of_mem _ (List.mem_append_left _ (List.mem_of_getElem? (i := 0) rfl)))) (fun _ h9 => h9) rfl dX10_isTriable_6 ?_
    have hc_2 := ic_4 hI
    refine lv_icmp_ge (tgt := 41) hx hb dX10_isTriable_9 (by decide) (fun c_3 => ?_) (fun c_3 => ?_)
    · have nc_3 := z_le hc_2 rfl c_3
      refine lv_iconst (v := 0) hx hb dX10_isTriable_41 (by decide) ?_
      exact W.zret (v := 0) hx hb hr (by decide) (fun t ht hW9 => ⟨⟨0, 0, rfl, rfl, Or.inr (⟨rfl, tw_at ht hT⟩)⟩, hS.F ht⟩) hS.2.2 dX10_isTriable_42
    · have nc_3 := z_nle hc_2 rfl c_3
      refine lv_aload_n hx hb dX10_isTriable_12 rfl (lv_at hl 0 rfl) ?_
      refine tw_get (D := (dC, dI)) (v := .ref (a 13)) (C := RX10) (T := TX10) (N := 6) hx hb hts (fun _ hh => (List.mem_cons_of_mem _ (List.mem_append_right _ (List.mem_append_left _ hh)))) hown hK hT (fx_2 hX) (by decide) cl_e12 rfl 0 (by decide) (hts (.fieldLink RX10 11 "TypingPool$Rules" "told" "[LTypingPool$Rule;") (List.mem_cons_of_mem _ (List.mem_append_left _ (List.mem_of_getElem? (i := 1) rfl)))) (fun _ h9 => h9) rfl dX10_isTriable_13 ?_
      refine lv_iload_n hx hb dX10_isTriable_16 rfl (lv_at hl 1 rfl) ?_
      refine tw_aald hx hb hK hT 6 (fx_13 hX) (by decide) cl_e23 rfl (z_in rfl (by omega) (by omega)) dX10_isTriable_17 ?_
      obtain ⟨q_4, hgq_4, htq_4⟩ := ic_l13 hI (x := p0) rfl (by omega) (by omega)
      refine lq_topr hgq_4 ?_
      refine tw_get (D := (dC, dI)) (v := .int (y q_4 0)) (C := RX9) (T := TX9) (N := 3) hx hb hts (fun _ hh => (List.mem_cons_of_mem _ (List.mem_append_right _ (List.mem_append_right _ (List.mem_append_left _ hh))))) hown hK hT htq_4 (by decide) cl_e5 rfl 0 (by decide) (hts (.fieldLink RX10 78 "TypingPool$Rule" "kind" "I") (List.mem_cons_of_mem _ (List.mem_append_left _ (List.mem_of_getElem? (i := 2) rfl)))) (fun _ h9 => h9) rfl dX10_isTriable_18 ?_
      refine lv_if_eq (tgt := 37) hx hb dX10_isTriable_21 (by decide) (fun c_5 => ?_) (fun c_5 => ?_)
      · have nc_5 := z_eq rfl (zk (x := 0) 0 rfl) c_5
        refine lv_iconst (v := 1) hx hb dX10_isTriable_37 (by decide) ?_
        refine lv_goto (tgt := 42) hx hb dX10_isTriable_38 (by decide) ?_
        have hrv : (1 : Int32).toInt = 1 := (zk (x := 1) 1 rfl)
        exact W.zret (v := 1) hx hb hr (by decide) (fun t ht hW9 => ⟨⟨1, 1, rfl, rfl, Or.inl ⟨rfl, by omega, by omega, tw_at ht hT⟩⟩, hS.F ht⟩) hS.2.2 dX10_isTriable_42
      · have nc_5 := z_ne rfl (zk (x := 0) 0 rfl) c_5
        refine lv_aload_n hx hb dX10_isTriable_24 rfl (lv_at hl 0 rfl) ?_
        refine tw_get (D := (dC, dI)) (v := .ref (a 13)) (C := RX10) (T := TX10) (N := 6) hx hb hts (fun _ hh => (List.mem_cons_of_mem _ (List.mem_append_right _ (List.mem_append_left _ hh)))) hown hK hT (fx_2 hX) (by decide) cl_e12 rfl 0 (by decide) (hts (.fieldLink RX10 11 "TypingPool$Rules" "told" "[LTypingPool$Rule;") (List.mem_cons_of_mem _ (List.mem_append_left _ (List.mem_of_getElem? (i := 1) rfl)))) (fun _ h9 => h9) rfl dX10_isTriable_25 ?_
        refine lv_iload_n hx hb dX10_isTriable_28 rfl (lv_at hl 1 rfl) ?_
        refine tw_aald hx hb hK hT 6 (fx_13 hX) (by decide) cl_e23 rfl (z_in rfl (by omega) (by omega)) dX10_isTriable_29 ?_
        obtain ⟨q_6, hgq_6, htq_6⟩ := ic_l13 hI (x := p0) rfl (by omega) (by omega)
        refine lq_topr hgq_6 ?_
        refine tw_get (D := (dC, dI)) (v := .int (y q_6 0)) (C := RX9) (T := TX9) (N := 3) hx hb hts (fun _ hh => (List.mem_cons_of_mem _ (List.mem_append_right _ (List.mem_append_right _ (List.mem_append_left _ hh))))) hown hK hT htq_6 (by decide) cl_e5 rfl 0 (by decide) (hts (.fieldLink RX10 78 "TypingPool$Rule" "kind" "I") (List.mem_cons_of_mem _ (List.mem_append_left _ (List.mem_of_getElem? (i := 2) rfl)))) (fun _ h9 => h9) rfl dX10_isTriable_30 ?_
        refine lv_iconst (v := 1) hx hb dX10_isTriable_33 (by decide) ?_
        refine lv_icmp_ne (tgt := 41) hx hb dX10_isTriable_34 (by decide) (fun c_7 => ?_) (fun c_7 => ?_)
        · have nc_7 := z_ne rfl (zk (x := 1) 1 rfl) c_7
          refine lv_iconst (v := 0) hx hb dX10_isTriable_41 (by decide) ?_
          exact W.zret (v := 0) hx hb hr (by decide) (fun t ht hW9 => ⟨⟨0, 0, rfl, rfl, Or.inr (⟨rfl, tw_at ht hT⟩)⟩, hS.F ht⟩) hS.2.2 dX10_isTriable_42
        · have nc_7 := z_eq rfl (zk (x := 1) 1 rfl) c_7
          refine lv_iconst (v := 1) hx hb dX10_isTriable_37 (by decide) ?_
          refine lv_goto (tgt := 42) hx hb dX10_isTriable_38 (by decide) ?_
          have hrv : (1 : Int32).toInt = 1 := (zk (x := 1) 1 rfl)
          exact W.zret (v := 1) hx hb hr (by decide) (fun t ht hW9 => ⟨⟨1, 1, rfl, rfl, Or.inl ⟨rfl, by omega, by omega, tw_at ht hT⟩⟩, hS.F ht⟩) hS.2.2 dX10_isTriable_42
def wo_c_holdingN : List Cond := [.fieldLink RX10 25 "TypingPool$Rules" "atFirst" "[LTypingPool$Rule;", .fieldLink RX10 17 "TypingPool$Rules" "count" "I", .fieldLink RX10 11 "TypingPool$Rules" "told" "[LTypingPool$Rule;", .fieldLink RX10 78 "TypingPool$Rule" "kind" "I", .fieldLink RX10 81 "TypingPool$Rule" "day" "I"]
def wm_c_holdingN : List Cond := .code yX10_holding cX10_holding 7 (some (.object "TypingPool$Rule")) :: (wo_c_holdingN ++ (wsX100 ++ (wsX90 ++ ([] : List Cond))))
theorem gd_c_holdingN : ∀ w ∈ wm_c_holdingN, goodWord w = true := gd_c rfl (gd_a (by decide) (gd_a gd_wsX100 (gd_a gd_wsX90 gd_nil)))
set_option maxRecDepth 20000 in
theorem im_c_holdingN : ∀ w ∈ wm_c_holdingN, w ∈ lw_tbl := im_c (in_r [.code yX10_holding cX10_holding 7 (some (.object "TypingPool$Rule"))] [782] (by decide +kernel)) (in_app (in_r wo_c_holdingN [404, 399, 397, 384, 386] (by decide +kernel)) (in_app im_wsX100 (in_app im_wsX90 im_nil)))
set_option maxHeartbeats 4000000 in
set_option maxRecDepth 100000 in
theorem c_holdingN (l : Launch) (dC : Nat → ClassId) (dI : Nat → Nat → Nat) (ad av : Nat → Nat) (sz : Nat) (a : Nat → Nat) (k : Nat → ClassId) (τ ln : Nat → Nat) (y : Nat → Nat → Int32) (g : Nat → Nat → Option Nat) (u : Nat → Int) (p0 : Int32) (p1 : Int32) (hI : IC a u τ ln y g) (hlp0 : 0 ≤ p0.toInt) (hup0 : p0.toInt < 4) : Met l yX10_holding wm_c_holdingN ({ frames := 0, cells := 0, slots := 0, locals := 0 }) (pw_ ad av (dC, dI) sz [.ref (a 2), .int p0, .int p1, .null] a k τ ln y g) (va_Qr (fun (_ : Unit) => True) (fun (_ : Unit) (r : Nat) (t : State) => (τ r = 5 ∧ tw (dC, dI) a k τ ln y g t.heap)) (fr τ sz)) 0 0 (fr τ sz) := by
  refine Met.ofW (cc := cX10_holding) (maxL := 7) (ret := (some (.object "TypingPool$Rule"))) (by decide) rfl ?_
  intro p e s m args below meth c s₁ B hml hv
  obtain ⟨rfl, hsz, hT, hK, hM⟩ := hv
  have hx := B.exec
  have hb := B.bytes
  have hr := B.returns
  have hts := atoms_spec (ws := wm_c_holdingN) B.pre
  have hown : s.vm.findClass RX10 = some m.cls := findClass_of_methodNamed B.named
  have hlocks := B.notSynchronized
  subst hsz
  generalize hAe : fr τ s.heap.size = A at hM ⊢
  have hA : ∀ q : Nat, s.heap.size ≤ q → A q := fun q h => by rw [← hAe]; exact Or.inr h
  have hF : ∀ q, τ q ≠ 0 → A q := fun q h => by rw [← hAe]; exact Or.inl h
  have hS : va_S A s.heap s.heap [] := va_S.rf
  have hX := hI.1
  have hR := ic_r hI
  have hl := lv_entry ([.ref (a 2), .int p0, .int p1, .null]) (n := 7) (Nat.le_of_ble_eq_true rfl)
  rw [lg_entry_eq]
  generalize (lg_sl ([.ref (a 2), .int p0, .int p1, .null]) ++ List.replicate (7 - (lg_sl ([.ref (a 2), .int p0, .int p1, .null])).length) Slot.unset).toArray = ls at hl ⊢
  have hl : lv_has ls 7 [(0, .ref (a 2)), (1, .int p0), (2, .int p1), (3, .null)] := hl
  refine lv_aload_nN hx hb dX10_holding_0 rfl (lv_at hl 3 rfl) ?_
  refine lv_ifnullN (tgt := 14) hx hb dX10_holding_1 (by decide) ?_
  refine lv_aload_n hx hb dX10_holding_14 rfl (lv_at hl 0 rfl) ?_
  refine tw_get (D := (dC, dI)) (v := .ref (a 15)) (C := RX10) (T := TX10) (N := 6) hx hb hts (fun _ hh => (List.mem_cons_of_mem _ (List.mem_append_right _ (List.mem_append_left _ hh)))) hown hK hT (fx_2 hX) (by decide) cl_e12 rfl 3 (by decide) (hts (.fieldLink RX10 25 "TypingPool$Rules" "atFirst" "[LTypingPool$Rule;") (List.mem_cons_of_mem _ (List.mem_append_left _ (List.mem_of_getElem? (i := 0) rfl)))) (fun _ h9 => h9) rfl dX10_holding_15 ?_
  refine lv_iload_n hx hb dX10_holding_18 rfl (lv_at hl 1 rfl) ?_
  refine tw_aald hx hb hK hT 6 (fx_15 hX) (by decide) cl_e25 rfl (z_in rfl (by omega) (by omega)) dX10_holding_19 ?_
  obtain ⟨q_1, hgq_1, htq_1⟩ := ic_l15 hI (x := p0) rfl (by omega) (by omega)
  refine lq_topr hgq_1 ?_
  refine lv_astore (lv' := [(4, .ref q_1), (0, .ref (a 2)), (1, .int p0), (2, .int p1), (3, .null)]) hx hb dX10_holding_20 hl (by decide) rfl (fun ls hl => ?_)
  refine lv_iconst (v := 0) hx hb dX10_holding_22 (by decide) ?_
  refine lv_istore (lv' := [(5, .int 0), (4, .ref q_1), (0, .ref (a 2)), (1, .int p0), (2, .int p1), (3, .null)]) hx hb dX10_holding_23 hl (by decide) rfl (fun ls hl => ?_)
  have loop_25 : ∀ (n : Nat) (i5 : Int32) (q4 : Nat) (H : Heap) (locs : List Loc) (ls : Array Slot), (u 4 - i5.toInt).toNat < n → τ q4 = 5 → 0 ≤ i5.toInt → i5.toInt ≤ u 4 → tw (dC, dI) a k τ ln y g H → va_S A s.heap H locs → lv_has ls 7 [(0, .ref (a 2)), (1, .int p0), (2, .int p1), (3, .null), (4, .ref q4), (5, .int i5)] → W p l e (headSpec wm_c_holdingN ({ frames := 0, cells := 0, slots := 0, locals := 0 })).room s m ([.ref (a 2), .int p0, .int p1, .null] : List Value).toArray below meth c H locs 0 0 (MQ below (va_Qr (fun (_ : Unit) => True) (fun (_ : Unit) (r : Nat) (t : State) => (τ r = 5 ∧ tw (dC, dI) a k τ ln y g t.heap)) A) ([.ref (a 2), .int p0, .int p1, .null] : List Value).toArray s 0 0 A) (F0 m 25 ls []) := by
    intro n
    induction n with
    | zero => intro i5 q4 H locs ls hlt; exact absurd hlt (Nat.not_lt_zero _)
    | succ n ih_25 =>
      intro i5 q4 H locs ls hlt h_q4 hi25_0 hi25_1 hT hS hl
      refine lv_iload hx hb dX10_holding_25 (lv_at hl 5 rfl) ?_
      refine lv_aload_n hx hb dX10_holding_27 rfl (lv_at hl 0 rfl) ?_
      refine tw_get (D := (dC, dI)) (v := .int (y (a 2) 1)) (C := RX10) (T := TX10) (N := 6) hx hb hts (fun _ hh => (List.mem_cons_of_mem _ (List.mem_append_right _ (List.mem_append_left _ hh)))) hown hK hT (fx_2 hX) (by decide) cl_e12 rfl 1 (by decide) (hts (.fieldLink RX10 17 "TypingPool$Rules" "count" "I") (List.mem_cons_of_mem _ (List.mem_append_left _ (List.mem_of_getElem? (i := 1) rfl)))) (fun _ h9 => h9) rfl dX10_holding_28 ?_
      have hc_2 := ic_4 hI
      refine lv_icmp_ge (tgt := 84) hx hb dX10_holding_31 (by decide) (fun c_3 => ?_) (fun c_3 => ?_)
      · have nc_3 := z_le hc_2 rfl c_3
        refine lv_aload hx hb dX10_holding_84 (lv_at hl 4 rfl) ?_
        exact W.aret (v := .ref q4) hx hb hr (by first | exact Or.inl ⟨_, rfl⟩ | exact Or.inr ⟨_, rfl⟩) (Or.inr ⟨_, rfl⟩) (fun t ht hW9 => ⟨⟨(), q4, rfl, trivial, ⟨h_q4, tw_at ht hT⟩⟩, hS.F ht⟩) hS.2.2 dX10_holding_86
      · have nc_3 := z_nle hc_2 rfl c_3
        refine lv_aload_n hx hb dX10_holding_34 rfl (lv_at hl 0 rfl) ?_
        refine tw_get (D := (dC, dI)) (v := .ref (a 13)) (C := RX10) (T := TX10) (N := 6) hx hb hts (fun _ hh => (List.mem_cons_of_mem _ (List.mem_append_right _ (List.mem_append_left _ hh)))) hown hK hT (fx_2 hX) (by decide) cl_e12 rfl 0 (by decide) (hts (.fieldLink RX10 11 "TypingPool$Rules" "told" "[LTypingPool$Rule;") (List.mem_cons_of_mem _ (List.mem_append_left _ (List.mem_of_getElem? (i := 2) rfl)))) (fun _ h9 => h9) rfl dX10_holding_35 ?_
        refine lv_iload hx hb dX10_holding_38 (lv_at hl 5 rfl) ?_
        refine tw_aald hx hb hK hT 6 (fx_13 hX) (by decide) cl_e23 rfl (z_in rfl (by omega) (by omega)) dX10_holding_40 ?_
        obtain ⟨q_4, hgq_4, htq_4⟩ := ic_l13 hI (x := i5) rfl (by omega) (by omega)
        refine lq_topr hgq_4 ?_
        refine lv_astore (lv' := [(6, .ref q_4), (0, .ref (a 2)), (1, .int p0), (2, .int p1), (3, .null), (4, .ref q4), (5, .int i5)]) hx hb dX10_holding_41 hl (by decide) rfl (fun ls hl => ?_)
        refine lv_aload hx hb dX10_holding_43 (lv_at hl 0 rfl) ?_
        refine tw_get (D := (dC, dI)) (v := .int (y q_4 0)) (C := RX9) (T := TX9) (N := 3) hx hb hts (fun _ hh => (List.mem_cons_of_mem _ (List.mem_append_right _ (List.mem_append_right _ (List.mem_append_left _ hh))))) hown hK hT htq_4 (by decide) cl_e5 rfl 0 (by decide) (hts (.fieldLink RX10 78 "TypingPool$Rule" "kind" "I") (List.mem_cons_of_mem _ (List.mem_append_left _ (List.mem_of_getElem? (i := 3) rfl)))) (fun _ h9 => h9) rfl dX10_holding_45 ?_
        refine lv_iload_n hx hb dX10_holding_48 rfl (lv_at hl 2 rfl) ?_
        refine lv_icmp_ne (tgt := 78) hx hb dX10_holding_49 (by decide) (fun c_5 => ?_) (fun c_5 => ?_)
        · have nc_5 := z_ne rfl rfl c_5
          obtain ⟨x_6, ex_6⟩ : ∃ y : Int32, y = i5 + Int32.ofInt 1 := ⟨_, rfl⟩
          have hx_6 := z_add ex_6 rfl (zk (x := Int32.ofInt 1) 1 rfl) (by omega) (by omega)
          refine lv_iinc (v := x_6) (lv' := [(5, .int x_6), (6, .ref q_4), (0, .ref (a 2)), (1, .int p0), (2, .int p1), (3, .null), (4, .ref q4)]) hx hb dX10_holding_78 hl (k := 6) rfl ex_6.symm (by decide) rfl (fun ls hl => ?_)
          refine lv_goto (tgt := 25) hx hb dX10_holding_81 (by decide) ?_
          exact ih_25  x_6 q4 H _ ls (by omega) h_q4 (by omega) (by omega) hT hS (lv_sub hl [2, 3, 4, 5, 6, 0] rfl)
        · have nc_5 := z_eq rfl rfl c_5
          refine lv_aload hx hb dX10_holding_52 (lv_at hl 0 rfl) ?_
          refine tw_get (D := (dC, dI)) (v := .int (y q_4 1)) (C := RX9) (T := TX9) (N := 3) hx hb hts (fun _ hh => (List.mem_cons_of_mem _ (List.mem_append_right _ (List.mem_append_right _ (List.mem_append_left _ hh))))) hown hK hT htq_4 (by decide) cl_e5 rfl 1 (by decide) (hts (.fieldLink RX10 81 "TypingPool$Rule" "day" "I") (List.mem_cons_of_mem _ (List.mem_append_left _ (List.mem_of_getElem? (i := 4) rfl)))) (fun _ h9 => h9) rfl dX10_holding_54 ?_
          refine lv_iload_n hx hb dX10_holding_57 rfl (lv_at hl 3 rfl) ?_
          refine lv_icmp_gt (tgt := 78) hx hb dX10_holding_58 (by decide) (fun c_7 => ?_) (fun c_7 => ?_)
          · have nc_7 := z_lt rfl rfl c_7
            obtain ⟨x_8, ex_8⟩ : ∃ y : Int32, y = i5 + Int32.ofInt 1 := ⟨_, rfl⟩
            have hx_8 := z_add ex_8 rfl (zk (x := Int32.ofInt 1) 1 rfl) (by omega) (by omega)
            refine lv_iinc (v := x_8) (lv' := [(5, .int x_8), (6, .ref q_4), (0, .ref (a 2)), (1, .int p0), (2, .int p1), (3, .null), (4, .ref q4)]) hx hb dX10_holding_78 hl (k := 6) rfl ex_8.symm (by decide) rfl (fun ls hl => ?_)
            refine lv_goto (tgt := 25) hx hb dX10_holding_81 (by decide) ?_
            exact ih_25  x_8 q4 H _ ls (by omega) h_q4 (by omega) (by omega) hT hS (lv_sub hl [2, 3, 4, 5, 6, 0] rfl)
          · have nc_7 := z_nlt rfl rfl c_7
            refine lv_aload hx hb dX10_holding_61 (lv_at hl 0 rfl) ?_
            refine tw_get (D := (dC, dI)) (v := .int (y q_4 1)) (C := RX9) (T := TX9) (N := 3) hx hb hts (fun _ hh => (List.mem_cons_of_mem _ (List.mem_append_right _ (List.mem_append_right _ (List.mem_append_left _ hh))))) hown hK hT htq_4 (by decide) cl_e5 rfl 1 (by decide) (hts (.fieldLink RX10 81 "TypingPool$Rule" "day" "I") (List.mem_cons_of_mem _ (List.mem_append_left _ (List.mem_of_getElem? (i := 4) rfl)))) (fun _ h9 => h9) rfl dX10_holding_63 ?_
            refine lv_aload hx hb dX10_holding_66 (lv_at hl 5 rfl) ?_
            refine tw_get (D := (dC, dI)) (v := .int (y q4 1)) (C := RX9) (T := TX9) (N := 3) hx hb hts (fun _ hh => (List.mem_cons_of_mem _ (List.mem_append_right _ (List.mem_append_right _ (List.mem_append_left _ hh))))) hown hK hT h_q4 (by decide) cl_e5 rfl 1 (by decide) (hts (.fieldLink RX10 81 "TypingPool$Rule" "day" "I") (List.mem_cons_of_mem _ (List.mem_append_left _ (List.mem_of_getElem? (i := 4) rfl)))) (fun _ h9 => h9) rfl dX10_holding_68 ?_
            refine lv_icmp_lt (tgt := 78) hx hb dX10_holding_71 (by decide) (fun c_9 => ?_) (fun c_9 => ?_)
            · have nc_9 := z_lt rfl rfl c_9
              obtain ⟨x_10, ex_10⟩ : ∃ y : Int32, y = i5 + Int32.ofInt 1 := ⟨_, rfl⟩
              have hx_10 := z_add ex_10 rfl (zk (x := Int32.ofInt 1) 1 rfl) (by omega) (by omega)
              refine lv_iinc (v := x_10) (lv' := [(5, .int x_10), (6, .ref q_4), (0, .ref (a 2)), (1, .int p0), (2, .int p1), (3, .null), (4, .ref q4)]) hx hb dX10_holding_78 hl (k := 6) rfl ex_10.symm (by decide) rfl (fun ls hl => ?_)
              refine lv_goto (tgt := 25) hx hb dX10_holding_81 (by decide) ?_
              exact ih_25  x_10 q4 H _ ls (by omega) h_q4 (by omega) (by omega) hT hS (lv_sub hl [2, 3, 4, 5, 6, 0] rfl)
            · have nc_9 := z_nlt rfl rfl c_9
              refine lv_aload hx hb dX10_holding_74 (lv_at hl 0 rfl) ?_
              refine lv_astore (lv' := [(4, .ref q_4), (6, .ref q_4), (0, .ref (a 2)), (1, .int p0), (2, .int p1), (3, .null), (5, .int i5)]) hx hb dX10_holding_76 hl (by decide) rfl (fun ls hl => ?_)
              obtain ⟨x_11, ex_11⟩ : ∃ y : Int32, y = i5 + Int32.ofInt 1 := ⟨_, rfl⟩
              have hx_11 := z_add ex_11 rfl (zk (x := Int32.ofInt 1) 1 rfl) (by omega) (by omega)
              refine lv_iinc (v := x_11) (lv' := [(5, .int x_11), (4, .ref q_4), (6, .ref q_4), (0, .ref (a 2)), (1, .int p0), (2, .int p1), (3, .null)]) hx hb dX10_holding_78 hl (k := 6) rfl ex_11.symm (by decide) rfl (fun ls hl => ?_)
              refine lv_goto (tgt := 25) hx hb dX10_holding_81 (by decide) ?_
              exact ih_25  x_11 q_4 H _ ls (by omega) htq_4 (by omega) (by omega) hT hS (lv_sub hl [3, 4, 5, 6, 1, 0] rfl)
  have hp_12 : (0 : Int32).toInt = 0 := (zk (x := 0) 0 rfl)
  exact loop_25 _ (0 : Int32) q_1 s.heap _ ls (Nat.lt_succ_self _) htq_1 (by omega) (by omega) hT hS (lv_sub hl [2, 3, 4, 5, 1, 0] rfl)
def wo_c_holdingR : List Cond := [.fieldLink RX10 78 "TypingPool$Rule" "kind" "I", .fieldLink RX10 25 "TypingPool$Rules" "atFirst" "[LTypingPool$Rule;", .fieldLink RX10 17 "TypingPool$Rules" "count" "I", .fieldLink RX10 11 "TypingPool$Rules" "told" "[LTypingPool$Rule;", .fieldLink RX10 81 "TypingPool$Rule" "day" "I"]
def wm_c_holdingR : List Cond := .code yX10_holding cX10_holding 7 (some (.object "TypingPool$Rule")) :: (wo_c_holdingR ++ (wsX90 ++ (wsX100 ++ ([] : List Cond))))
theorem gd_c_holdingR : ∀ w ∈ wm_c_holdingR, goodWord w = true := gd_c rfl (gd_a (by decide) (gd_a gd_wsX90 (gd_a gd_wsX100 gd_nil)))
set_option maxRecDepth 20000 in
theorem im_c_holdingR : ∀ w ∈ wm_c_holdingR, w ∈ lw_tbl := im_c (in_r [.code yX10_holding cX10_holding 7 (some (.object "TypingPool$Rule"))] [782] (by decide +kernel)) (in_app (in_r wo_c_holdingR [384, 404, 399, 397, 386] (by decide +kernel)) (in_app im_wsX90 (in_app im_wsX100 im_nil)))
set_option maxHeartbeats 4000000 in
set_option maxRecDepth 100000 in
theorem c_holdingR (l : Launch) (dC : Nat → ClassId) (dI : Nat → Nat → Nat) (ad av : Nat → Nat) (sz : Nat) (a : Nat → Nat) (k : Nat → ClassId) (τ ln : Nat → Nat) (y : Nat → Nat → Int32) (g : Nat → Nat → Option Nat) (u : Nat → Int) (p0 : Int32) (p1 : Int32) (b0 : Nat) (hI : IC a u τ ln y g) (h_b0 : τ b0 = 5) (hlp0 : 0 ≤ p0.toInt) (hup0 : p0.toInt < 4) : Met l yX10_holding wm_c_holdingR ({ frames := 0, cells := 0, slots := 0, locals := 0 }) (pw_ ad av (dC, dI) sz [.ref (a 2), .int p0, .int p1, .ref b0] a k τ ln y g) (va_Qr (fun (_ : Unit) => True) (fun (_ : Unit) (r : Nat) (t : State) => (τ r = 5 ∧ tw (dC, dI) a k τ ln y g t.heap)) (fr τ sz)) 0 0 (fr τ sz) := by
  refine Met.ofW (cc := cX10_holding) (maxL := 7) (ret := (some (.object "TypingPool$Rule"))) (by decide) rfl ?_
  intro p e s m args below meth c s₁ B hml hv
  obtain ⟨rfl, hsz, hT, hK, hM⟩ := hv
  have hx := B.exec
  have hb := B.bytes
  have hr := B.returns
  have hts := atoms_spec (ws := wm_c_holdingR) B.pre
  have hown : s.vm.findClass RX10 = some m.cls := findClass_of_methodNamed B.named
  have hlocks := B.notSynchronized
  subst hsz
  generalize hAe : fr τ s.heap.size = A at hM ⊢
  have hA : ∀ q : Nat, s.heap.size ≤ q → A q := fun q h => by rw [← hAe]; exact Or.inr h
  have hF : ∀ q, τ q ≠ 0 → A q := fun q h => by rw [← hAe]; exact Or.inl h
  have hS : va_S A s.heap s.heap [] := va_S.rf
  have hX := hI.1
  have hR := ic_r hI
  have hl := lv_entry ([.ref (a 2), .int p0, .int p1, .ref b0]) (n := 7) (Nat.le_of_ble_eq_true rfl)
  rw [lg_entry_eq]
  generalize (lg_sl ([.ref (a 2), .int p0, .int p1, .ref b0]) ++ List.replicate (7 - (lg_sl ([.ref (a 2), .int p0, .int p1, .ref b0])).length) Slot.unset).toArray = ls at hl ⊢
  have hl : lv_has ls 7 [(0, .ref (a 2)), (1, .int p0), (2, .int p1), (3, .ref b0)] := hl
  refine lv_aload_n hx hb dX10_holding_0 rfl (lv_at hl 3 rfl) ?_
  refine lv_ifnull hx hb dX10_holding_1 ?_
  refine lv_aload_n hx hb dX10_holding_4 rfl (lv_at hl 3 rfl) ?_
  refine tw_get (D := (dC, dI)) (v := .int (y b0 0)) (C := RX9) (T := TX9) (N := 3) hx hb hts (fun _ hh => (List.mem_cons_of_mem _ (List.mem_append_right _ (List.mem_append_left _ hh)))) hown hK hT h_b0 (by decide) cl_e5 rfl 0 (by decide) (hts (.fieldLink RX10 78 "TypingPool$Rule" "kind" "I") (List.mem_cons_of_mem _ (List.mem_append_left _ (List.mem_of_getElem? (i := 0) rfl)))) (fun _ h9 => h9) rfl dX10_holding_5 ?_
  refine lv_iload_n hx hb dX10_holding_8 rfl (lv_at hl 1 rfl) ?_
  refine lv_icmp_ne (tgt := 14) hx hb dX10_holding_9 (by decide) (fun c_1 => ?_) (fun c_1 => ?_)
  · have nc_1 := z_ne rfl rfl c_1
    refine lv_aload_n hx hb dX10_holding_14 rfl (lv_at hl 0 rfl) ?_
    refine tw_get (D := (dC, dI)) (v := .ref (a 15)) (C := RX10) (T := TX10) (N := 6) hx hb hts (fun _ hh => (List.mem_cons_of_mem _ (List.mem_append_right _ (List.mem_append_right _ (List.mem_append_left _ hh))))) hown hK hT (fx_2 hX) (by decide) cl_e12 rfl 3 (by decide) (hts (.fieldLink RX10 25 "TypingPool$Rules" "atFirst" "[LTypingPool$Rule;") (List.mem_cons_of_mem _ (List.mem_append_left _ (List.mem_of_getElem? (i := 1) rfl)))) (fun _ h9 => h9) rfl dX10_holding_15 ?_
    refine lv_iload_n hx hb dX10_holding_18 rfl (lv_at hl 1 rfl) ?_
    refine tw_aald hx hb hK hT 6 (fx_15 hX) (by decide) cl_e25 rfl (z_in rfl (by omega) (by omega)) dX10_holding_19 ?_
    obtain ⟨q_2, hgq_2, htq_2⟩ := ic_l15 hI (x := p0) rfl (by omega) (by omega)
    refine lq_topr hgq_2 ?_
    refine lv_astore (lv' := [(4, .ref q_2), (0, .ref (a 2)), (1, .int p0), (2, .int p1), (3, .ref b0)]) hx hb dX10_holding_20 hl (by decide) rfl (fun ls hl => ?_)
    refine lv_iconst (v := 0) hx hb dX10_holding_22 (by decide) ?_
    refine lv_istore (lv' := [(5, .int 0), (4, .ref q_2), (0, .ref (a 2)), (1, .int p0), (2, .int p1), (3, .ref b0)]) hx hb dX10_holding_23 hl (by decide) rfl (fun ls hl => ?_)
    have loop_25 : ∀ (n : Nat) (i5 : Int32) (q4 : Nat) (H : Heap) (locs : List Loc) (ls : Array Slot), (u 4 - i5.toInt).toNat < n → τ q4 = 5 → 0 ≤ i5.toInt → i5.toInt ≤ u 4 → tw (dC, dI) a k τ ln y g H → va_S A s.heap H locs → lv_has ls 7 [(0, .ref (a 2)), (1, .int p0), (2, .int p1), (3, .ref b0), (4, .ref q4), (5, .int i5)] → W p l e (headSpec wm_c_holdingR ({ frames := 0, cells := 0, slots := 0, locals := 0 })).room s m ([.ref (a 2), .int p0, .int p1, .ref b0] : List Value).toArray below meth c H locs 0 0 (MQ below (va_Qr (fun (_ : Unit) => True) (fun (_ : Unit) (r : Nat) (t : State) => (τ r = 5 ∧ tw (dC, dI) a k τ ln y g t.heap)) A) ([.ref (a 2), .int p0, .int p1, .ref b0] : List Value).toArray s 0 0 A) (F0 m 25 ls []) := by
      intro n
      induction n with
      | zero => intro i5 q4 H locs ls hlt; exact absurd hlt (Nat.not_lt_zero _)
      | succ n ih_25 =>
        intro i5 q4 H locs ls hlt h_q4 hi25_0 hi25_1 hT hS hl
        refine lv_iload hx hb dX10_holding_25 (lv_at hl 5 rfl) ?_
        refine lv_aload_n hx hb dX10_holding_27 rfl (lv_at hl 0 rfl) ?_
        refine tw_get (D := (dC, dI)) (v := .int (y (a 2) 1)) (C := RX10) (T := TX10) (N := 6) hx hb hts (fun _ hh => (List.mem_cons_of_mem _ (List.mem_append_right _ (List.mem_append_right _ (List.mem_append_left _ hh))))) hown hK hT (fx_2 hX) (by decide) cl_e12 rfl 1 (by decide) (hts (.fieldLink RX10 17 "TypingPool$Rules" "count" "I") (List.mem_cons_of_mem _ (List.mem_append_left _ (List.mem_of_getElem? (i := 2) rfl)))) (fun _ h9 => h9) rfl dX10_holding_28 ?_
        have hc_3 := ic_4 hI
        refine lv_icmp_ge (tgt := 84) hx hb dX10_holding_31 (by decide) (fun c_4 => ?_) (fun c_4 => ?_)
        · have nc_4 := z_le hc_3 rfl c_4
          refine lv_aload hx hb dX10_holding_84 (lv_at hl 4 rfl) ?_
          exact W.aret (v := .ref q4) hx hb hr (by first | exact Or.inl ⟨_, rfl⟩ | exact Or.inr ⟨_, rfl⟩) (Or.inr ⟨_, rfl⟩) (fun t ht hW9 => ⟨⟨(), q4, rfl, trivial, ⟨h_q4, tw_at ht hT⟩⟩, hS.F ht⟩) hS.2.2 dX10_holding_86
        · have nc_4 := z_nle hc_3 rfl c_4
          refine lv_aload_n hx hb dX10_holding_34 rfl (lv_at hl 0 rfl) ?_
          refine tw_get (D := (dC, dI)) (v := .ref (a 13)) (C := RX10) (T := TX10) (N := 6) hx hb hts (fun _ hh => (List.mem_cons_of_mem _ (List.mem_append_right _ (List.mem_append_right _ (List.mem_append_left _ hh))))) hown hK hT (fx_2 hX) (by decide) cl_e12 rfl 0 (by decide) (hts (.fieldLink RX10 11 "TypingPool$Rules" "told" "[LTypingPool$Rule;") (List.mem_cons_of_mem _ (List.mem_append_left _ (List.mem_of_getElem? (i := 3) rfl)))) (fun _ h9 => h9) rfl dX10_holding_35 ?_
          refine lv_iload hx hb dX10_holding_38 (lv_at hl 5 rfl) ?_
          refine tw_aald hx hb hK hT 6 (fx_13 hX) (by decide) cl_e23 rfl (z_in rfl (by omega) (by omega)) dX10_holding_40 ?_
          obtain ⟨q_5, hgq_5, htq_5⟩ := ic_l13 hI (x := i5) rfl (by omega) (by omega)
          refine lq_topr hgq_5 ?_
          refine lv_astore (lv' := [(6, .ref q_5), (0, .ref (a 2)), (1, .int p0), (2, .int p1), (3, .ref b0), (4, .ref q4), (5, .int i5)]) hx hb dX10_holding_41 hl (by decide) rfl (fun ls hl => ?_)
          refine lv_aload hx hb dX10_holding_43 (lv_at hl 0 rfl) ?_
          refine tw_get (D := (dC, dI)) (v := .int (y q_5 0)) (C := RX9) (T := TX9) (N := 3) hx hb hts (fun _ hh => (List.mem_cons_of_mem _ (List.mem_append_right _ (List.mem_append_left _ hh)))) hown hK hT htq_5 (by decide) cl_e5 rfl 0 (by decide) (hts (.fieldLink RX10 78 "TypingPool$Rule" "kind" "I") (List.mem_cons_of_mem _ (List.mem_append_left _ (List.mem_of_getElem? (i := 0) rfl)))) (fun _ h9 => h9) rfl dX10_holding_45 ?_
          refine lv_iload_n hx hb dX10_holding_48 rfl (lv_at hl 2 rfl) ?_
          refine lv_icmp_ne (tgt := 78) hx hb dX10_holding_49 (by decide) (fun c_6 => ?_) (fun c_6 => ?_)
          · have nc_6 := z_ne rfl rfl c_6
            obtain ⟨x_7, ex_7⟩ : ∃ y : Int32, y = i5 + Int32.ofInt 1 := ⟨_, rfl⟩
            have hx_7 := z_add ex_7 rfl (zk (x := Int32.ofInt 1) 1 rfl) (by omega) (by omega)
            refine lv_iinc (v := x_7) (lv' := [(5, .int x_7), (6, .ref q_5), (0, .ref (a 2)), (1, .int p0), (2, .int p1), (3, .ref b0), (4, .ref q4)]) hx hb dX10_holding_78 hl (k := 6) rfl ex_7.symm (by decide) rfl (fun ls hl => ?_)
            refine lv_goto (tgt := 25) hx hb dX10_holding_81 (by decide) ?_
            exact ih_25  x_7 q4 H _ ls (by omega) h_q4 (by omega) (by omega) hT hS (lv_sub hl [2, 3, 4, 5, 6, 0] rfl)
          · have nc_6 := z_eq rfl rfl c_6
            refine lv_aload hx hb dX10_holding_52 (lv_at hl 0 rfl) ?_
            refine tw_get (D := (dC, dI)) (v := .int (y q_5 1)) (C := RX9) (T := TX9) (N := 3) hx hb hts (fun _ hh => (List.mem_cons_of_mem _ (List.mem_append_right _ (List.mem_append_left _ hh)))) hown hK hT htq_5 (by decide) cl_e5 rfl 1 (by decide) (hts (.fieldLink RX10 81 "TypingPool$Rule" "day" "I") (List.mem_cons_of_mem _ (List.mem_append_left _ (List.mem_of_getElem? (i := 4) rfl)))) (fun _ h9 => h9) rfl dX10_holding_54 ?_
            refine lv_iload_n hx hb dX10_holding_57 rfl (lv_at hl 3 rfl) ?_
            refine lv_icmp_gt (tgt := 78) hx hb dX10_holding_58 (by decide) (fun c_8 => ?_) (fun c_8 => ?_)
            · have nc_8 := z_lt rfl rfl c_8
              obtain ⟨x_9, ex_9⟩ : ∃ y : Int32, y = i5 + Int32.ofInt 1 := ⟨_, rfl⟩
              have hx_9 := z_add ex_9 rfl (zk (x := Int32.ofInt 1) 1 rfl) (by omega) (by omega)
              refine lv_iinc (v := x_9) (lv' := [(5, .int x_9), (6, .ref q_5), (0, .ref (a 2)), (1, .int p0), (2, .int p1), (3, .ref b0), (4, .ref q4)]) hx hb dX10_holding_78 hl (k := 6) rfl ex_9.symm (by decide) rfl (fun ls hl => ?_)
              refine lv_goto (tgt := 25) hx hb dX10_holding_81 (by decide) ?_
              exact ih_25  x_9 q4 H _ ls (by omega) h_q4 (by omega) (by omega) hT hS (lv_sub hl [2, 3, 4, 5, 6, 0] rfl)
            · have nc_8 := z_nlt rfl rfl c_8
              refine lv_aload hx hb dX10_holding_61 (lv_at hl 0 rfl) ?_
              refine tw_get (D := (dC, dI)) (v := .int (y q_5 1)) (C := RX9) (T := TX9) (N := 3) hx hb hts (fun _ hh => (List.mem_cons_of_mem _ (List.mem_append_right _ (List.mem_append_left _ hh)))) hown hK hT htq_5 (by decide) cl_e5 rfl 1 (by decide) (hts (.fieldLink RX10 81 "TypingPool$Rule" "day" "I") (List.mem_cons_of_mem _ (List.mem_append_left _ (List.mem_of_getElem? (i := 4) rfl)))) (fun _ h9 => h9) rfl dX10_holding_63 ?_
              refine lv_aload hx hb dX10_holding_66 (lv_at hl 5 rfl) ?_
              refine tw_get (D := (dC, dI)) (v := .int (y q4 1)) (C := RX9) (T := TX9) (N := 3) hx hb hts (fun _ hh => (List.mem_cons_of_mem _ (List.mem_append_right _ (List.mem_append_left _ hh)))) hown hK hT h_q4 (by decide) cl_e5 rfl 1 (by decide) (hts (.fieldLink RX10 81 "TypingPool$Rule" "day" "I") (List.mem_cons_of_mem _ (List.mem_append_left _ (List.mem_of_getElem? (i := 4) rfl)))) (fun _ h9 => h9) rfl dX10_holding_68 ?_
              refine lv_icmp_lt (tgt := 78) hx hb dX10_holding_71 (by decide) (fun c_10 => ?_) (fun c_10 => ?_)
              · have nc_10 := z_lt rfl rfl c_10
                obtain ⟨x_11, ex_11⟩ : ∃ y : Int32, y = i5 + Int32.ofInt 1 := ⟨_, rfl⟩
                have hx_11 := z_add ex_11 rfl (zk (x := Int32.ofInt 1) 1 rfl) (by omega) (by omega)
                refine lv_iinc (v := x_11) (lv' := [(5, .int x_11), (6, .ref q_5), (0, .ref (a 2)), (1, .int p0), (2, .int p1), (3, .ref b0), (4, .ref q4)]) hx hb dX10_holding_78 hl (k := 6) rfl ex_11.symm (by decide) rfl (fun ls hl => ?_)
                refine lv_goto (tgt := 25) hx hb dX10_holding_81 (by decide) ?_
                exact ih_25  x_11 q4 H _ ls (by omega) h_q4 (by omega) (by omega) hT hS (lv_sub hl [2, 3, 4, 5, 6, 0] rfl)
              · have nc_10 := z_nlt rfl rfl c_10
                refine lv_aload hx hb dX10_holding_74 (lv_at hl 0 rfl) ?_
                refine lv_astore (lv' := [(4, .ref q_5), (6, .ref q_5), (0, .ref (a 2)), (1, .int p0), (2, .int p1), (3, .ref b0), (5, .int i5)]) hx hb dX10_holding_76 hl (by decide) rfl (fun ls hl => ?_)
                obtain ⟨x_12, ex_12⟩ : ∃ y : Int32, y = i5 + Int32.ofInt 1 := ⟨_, rfl⟩
                have hx_12 := z_add ex_12 rfl (zk (x := Int32.ofInt 1) 1 rfl) (by omega) (by omega)
                refine lv_iinc (v := x_12) (lv' := [(5, .int x_12), (4, .ref q_5), (6, .ref q_5), (0, .ref (a 2)), (1, .int p0), (2, .int p1), (3, .ref b0)]) hx hb dX10_holding_78 hl (k := 6) rfl ex_12.symm (by decide) rfl (fun ls hl => ?_)
                refine lv_goto (tgt := 25) hx hb dX10_holding_81 (by decide) ?_
                exact ih_25  x_12 q_5 H _ ls (by omega) htq_5 (by omega) (by omega) hT hS (lv_sub hl [3, 4, 5, 6, 1, 0] rfl)
    have hp_13 : (0 : Int32).toInt = 0 := (zk (x := 0) 0 rfl)
    exact loop_25 _ (0 : Int32) q_2 s.heap _ ls (Nat.lt_succ_self _) htq_2 (by omega) (by omega) hT hS (lv_sub hl [2, 3, 4, 5, 1, 0] rfl)
  · have nc_1 := z_eq rfl rfl c_1
    refine lv_aload_n hx hb dX10_holding_12 rfl (lv_at hl 3 rfl) ?_
    exact W.aret (v := .ref b0) hx hb hr (by first | exact Or.inl ⟨_, rfl⟩ | exact Or.inr ⟨_, rfl⟩) (Or.inr ⟨_, rfl⟩) (fun t ht hW9 => ⟨⟨(), b0, rfl, trivial, ⟨h_b0, tw_at ht hT⟩⟩, hS.F ht⟩) hS.2.2 dX10_holding_13
def wo_c_give : List Cond := [.fieldLink RX10 84 "TypingPool$Rule" "code" "[I", .fieldLink RX10 35 "TypingPool$Rules" "stack" "[I", .methodLink RX10 91 yX10_truth, .static yX10_truth, .initialized RX10, .methodLink RX10 95 yX10_joined, .static yX10_joined, .methodLink RX10 87 yX10_thing, .instanceMethod yX10_thing, .selects RX10 yX10_thing yX10_thing]
def wm_c_give : List Cond := .code yX10_give cX10_give 6 (some .int) :: (wo_c_give ++ (wsX90 ++ (wsX100 ++ (wm_c_truth ++ (wm_c_joined ++ (wm_c_thing ++ ([] : List Cond)))))))
theorem gd_c_give : ∀ w ∈ wm_c_give, goodWord w = true := gd_c rfl (gd_a (by decide) (gd_a gd_wsX90 (gd_a gd_wsX100 (gd_a gd_c_truth (gd_a gd_c_joined (gd_a gd_c_thing gd_nil))))))
set_option maxRecDepth 20000 in
theorem im_c_give : ∀ w ∈ wm_c_give, w ∈ lw_tbl := im_c (in_r [.code yX10_give cX10_give 6 (some .int)] [786] (by decide +kernel)) (in_app (in_r wo_c_give [388, 406, 791, 792, 72, 794, 795, 787, 789, 10] (by decide +kernel)) (in_app im_wsX90 (in_app im_wsX100 (in_app im_c_truth (in_app im_c_joined (in_app im_c_thing im_nil))))))
set_option maxHeartbeats 4000000 in
set_option maxRecDepth 100000 in
theorem c_give (l : Launch) (dC : Nat → ClassId) (dI : Nat → Nat → Nat) (ad av : Nat → Nat) (sz : Nat) (a : Nat → Nat) (k : Nat → ClassId) (τ ln : Nat → Nat) (y : Nat → Nat → Int32) (g : Nat → Nat → Option Nat) (u : Nat → Int) (b0 : Nat) (hI : IC a u τ ln y g) (h_b0 : τ b0 = 5) : Met l yX10_give wm_c_give ({ frames := 2, cells := 0, slots := 0, locals := 120 }) (pw_ ad av (dC, dI) sz [.ref (a 2), .ref b0] a k τ ln y g) (va_Qi (fun (r u : Int32) => u = r) (fun (r : Int32) (t : State) => (∃ (y' : Nat → Nat → Int32), ag τ [27] y y' ∧ tw (dC, dI) a k τ ln y' g t.heap)) (fr τ sz)) 0 0 (fr τ sz) := by
  refine Met.ofW (cc := cX10_give) (maxL := 6) (ret := (some .int)) (by decide) rfl ?_
  intro p e s m args below meth c s₁ B hml hv
  obtain ⟨rfl, hsz, hT, hK, hM⟩ := hv
  have hx := B.exec
  have hb := B.bytes
  have hr := B.returns
  have hts := atoms_spec (ws := wm_c_give) B.pre
  have hown : s.vm.findClass RX10 = some m.cls := findClass_of_methodNamed B.named
  have hlocks := B.notSynchronized
  subst hsz
  generalize hAe : fr τ s.heap.size = A at hM ⊢
  have hA : ∀ q : Nat, s.heap.size ≤ q → A q := fun q h => by rw [← hAe]; exact Or.inr h
  have hF : ∀ q, τ q ≠ 0 → A q := fun q h => by rw [← hAe]; exact Or.inl h
  have hS : va_S A s.heap s.heap [] := va_S.rf
  have hX := hI.1
  have hR := ic_r hI
  have hG : ag τ [27] y y := ag.rf
  have hl := lv_entry ([.ref (a 2), .ref b0]) (n := 6) (Nat.le_of_ble_eq_true rfl)
  rw [lg_entry_eq]
  generalize (lg_sl ([.ref (a 2), .ref b0]) ++ List.replicate (6 - (lg_sl ([.ref (a 2), .ref b0])).length) Slot.unset).toArray = ls at hl ⊢
  have hl : lv_has ls 6 [(0, .ref (a 2)), (1, .ref b0)] := hl
  obtain ⟨qc, hgqc, htqc, hnqc⟩ := ic_rul hI h_b0
  refine lv_iconst (v := 0) hx hb dX10_give_0 (by decide) ?_
  refine lv_istore_n (lv' := [(2, .int 0), (0, .ref (a 2)), (1, .ref b0)]) hx hb dX10_give_1 rfl hl (by decide) rfl (fun ls hl => ?_)
  refine lv_iconst (v := 0) hx hb dX10_give_2 (by decide) ?_
  refine lv_istore_n (lv' := [(3, .int 0), (2, .int 0), (0, .ref (a 2)), (1, .ref b0)]) hx hb dX10_give_3 rfl hl (by decide) rfl (fun ls hl => ?_)
  have loop_4 : ∀ (n : Nat) (i2 : Int32) (i3 : Int32) (y_L4 : Nat → Nat → Int32) (H : Heap) (locs : List Loc) (ls : Array Slot), ((ln qc : Int) - i3.toInt).toNat < n → ag τ [27] y y_L4 → IC a u τ ln y_L4 g → 0 ≤ i3.toInt → i3.toInt ≤ (ln qc : Int) → 0 ≤ i2.toInt → i2.toInt ≤ 60 → tw (dC, dI) a k τ ln y_L4 g H → va_S A s.heap H locs → lv_has ls 6 [(0, .ref (a 2)), (1, .ref b0), (2, .int i2), (3, .int i3)] → W p l e (headSpec wm_c_give ({ frames := 2, cells := 0, slots := 0, locals := 120 })).room s m ([.ref (a 2), .ref b0] : List Value).toArray below meth c H locs 0 0 (MQ below (va_Qi (fun (r u : Int32) => u = r) (fun (r : Int32) (t : State) => (∃ (y' : Nat → Nat → Int32), ag τ [27] y y' ∧ tw (dC, dI) a k τ ln y' g t.heap)) A) ([.ref (a 2), .ref b0] : List Value).toArray s 0 0 A) (F0 m 4 ls []) := by
    intro n
    induction n with
    | zero => intro i2 i3 y_L4 H locs ls hlt; exact absurd hlt (Nat.not_lt_zero _)
    | succ n ih_4 =>
      intro i2 i3 y_L4 H locs ls hlt hG hI hi4_0 hi4_1 hi4_2 hi4_3 hT hS hl
      refine lv_iload_n hx hb dX10_give_4 rfl (lv_at hl 3 rfl) ?_
      refine lv_aload_n hx hb dX10_give_5 rfl (lv_at hl 1 rfl) ?_
      refine tw_get (D := (dC, dI)) (v := va_rf (g b0 2)) (C := RX9) (T := TX9) (N := 3) hx hb hts (fun _ hh => (List.mem_cons_of_mem _ (List.mem_append_right _ (List.mem_append_left _ hh)))) hown hK hT h_b0 (by decide) cl_e5 rfl 2 (by decide) (hts (.fieldLink RX10 84 "TypingPool$Rule" "code" "[I") (List.mem_cons_of_mem _ (List.mem_append_left _ (List.mem_of_getElem? (i := 0) rfl)))) (fun _ h9 => h9) rfl dX10_give_6 ?_
      refine lq_topr hgqc ?_
      refine tw_alen hx hb hK hT 0 htqc (by decide) cl_e6 rfl rfl dX10_give_9 ?_
      refine lv_topi (fun x_1 ex_1 => ?_)
      have hx_1 : x_1.toInt = (ln qc : Int) := by rw [ex_1]; exact z_of _ (by omega)
      refine lv_icmp_ge (tgt := 176) hx hb dX10_give_10 (by decide) (fun c_2 => ?_) (fun c_2 => ?_)
      · have nc_2 := z_le rfl rfl c_2
        refine lv_aload_n hx hb dX10_give_176 rfl (lv_at hl 0 rfl) ?_
        refine tw_get (D := (dC, dI)) (v := .ref (a 17)) (C := RX10) (T := TX10) (N := 6) hx hb hts (fun _ hh => (List.mem_cons_of_mem _ (List.mem_append_right _ (List.mem_append_right _ (List.mem_append_left _ hh))))) hown hK hT (fx_2 hX) (by decide) cl_e12 rfl 5 (by decide) (hts (.fieldLink RX10 35 "TypingPool$Rules" "stack" "[I") (List.mem_cons_of_mem _ (List.mem_append_left _ (List.mem_of_getElem? (i := 1) rfl)))) (fun _ h9 => h9) rfl dX10_give_177 ?_
        refine lv_iconst (v := 0) hx hb dX10_give_180 (by decide) ?_
        refine tw_iald hx hb hK hT 0 (fx_17 hX) (by decide) cl_e27 rfl (z_in (zk (x := 0) 0 rfl) (by omega) (by omega)) dX10_give_181 ?_
        exact W.iret (v := y_L4 (a 17) (0 : Int32).toNatClampNeg) hx hb hr (fun t ht hW9 => ⟨⟨y_L4 (a 17) (0 : Int32).toNatClampNeg, y_L4 (a 17) (0 : Int32).toNatClampNeg, rfl, rfl, ⟨y_L4, hG, tw_at ht hT⟩⟩, hS.F ht⟩) hS.2.2 dX10_give_182
      · have nc_2 := z_nle rfl rfl c_2
        refine lv_aload_n hx hb dX10_give_13 rfl (lv_at hl 1 rfl) ?_
        refine tw_get (D := (dC, dI)) (v := va_rf (g b0 2)) (C := RX9) (T := TX9) (N := 3) hx hb hts (fun _ hh => (List.mem_cons_of_mem _ (List.mem_append_right _ (List.mem_append_left _ hh)))) hown hK hT h_b0 (by decide) cl_e5 rfl 2 (by decide) (hts (.fieldLink RX10 84 "TypingPool$Rule" "code" "[I") (List.mem_cons_of_mem _ (List.mem_append_left _ (List.mem_of_getElem? (i := 0) rfl)))) (fun _ h9 => h9) rfl dX10_give_14 ?_
        refine lq_topr hgqc ?_
        refine lv_iload_n hx hb dX10_give_17 rfl (lv_at hl 3 rfl) ?_
        refine tw_iald hx hb hK hT 0 htqc (by decide) cl_e6 rfl (z_in rfl (by omega) (by omega)) dX10_give_18 ?_
        refine lv_istore (lv' := [(4, .int (y_L4 qc i3.toNatClampNeg)), (0, .ref (a 2)), (1, .ref b0), (2, .int i2), (3, .int i3)]) hx hb dX10_give_19 hl (by decide) rfl (fun ls hl => ?_)
        refine lv_iload hx hb dX10_give_21 (lv_at hl 0 rfl) ?_
        refine lv_sipush (v := 20000) hx hb dX10_give_23 (by decide) ?_
        refine lv_icmp_ge (tgt := 58) hx hb dX10_give_26 (by decide) (fun c_3 => ?_) (fun c_3 => ?_)
        · have nc_3 := z_le (zk (x := 20000) 20000 rfl) rfl c_3
          refine lv_iload hx hb dX10_give_58 (lv_at hl 0 rfl) ?_
          refine lv_sipush (v := 20033) hx hb dX10_give_60 (by decide) ?_
          refine lv_icmp_eq (tgt := 74) hx hb dX10_give_63 (by decide) (fun c_4 => ?_) (fun c_4 => ?_)
          · have nc_4 := z_eq rfl (zk (x := 20033) 20033 rfl) c_4
            refine lv_iload_n hx hb dX10_give_74 rfl (lv_at hl 3 rfl) ?_
            refine lv_iconst (v := 1) hx hb dX10_give_75 (by decide) ?_
            refine lv_icmp_ge (tgt := 81) hx hb dX10_give_76 (by decide) (fun c_5 => ?_) (fun c_5 => ?_)
            · have nc_5 := z_le (zk (x := 1) 1 rfl) rfl c_5
              refine lv_aload_n hx hb dX10_give_81 rfl (lv_at hl 1 rfl) ?_
              refine tw_get (D := (dC, dI)) (v := .ref (a 17)) (C := RX10) (T := TX10) (N := 6) hx hb hts (fun _ hh => (List.mem_cons_of_mem _ (List.mem_append_right _ (List.mem_append_right _ (List.mem_append_left _ hh))))) hown hK hT (fx_2 hX) (by decide) cl_e12 rfl 5 (by decide) (hts (.fieldLink RX10 35 "TypingPool$Rules" "stack" "[I") (List.mem_cons_of_mem _ (List.mem_append_left _ (List.mem_of_getElem? (i := 1) rfl)))) (fun _ h9 => h9) rfl dX10_give_82 ?_
              refine lv_iload_n hx hb dX10_give_85 rfl (lv_at hl 3 rfl) ?_
              refine lv_iconst (v := 1) hx hb dX10_give_86 (by decide) ?_
              refine lv_isub hx hb dX10_give_87 ?_
              refine lv_topi (fun x_6 ex_6 => ?_)
              have hx_6 := z_sub ex_6 rfl (zk (x := 1) 1 rfl) (by omega) (by omega)
              refine tw_iald hx hb hK hT 0 (fx_17 hX) (by decide) cl_e27 rfl (z_in rfl (by omega) (by omega)) dX10_give_88 ?_
              refine lv_istore (lv' := [(5, .int (y_L4 (a 17) x_6.toNatClampNeg)), (4, .int (y_L4 qc i3.toNatClampNeg)), (0, .ref (a 2)), (1, .ref b0), (2, .int i2), (3, .int i3)]) hx hb dX10_give_89 hl (by decide) rfl (fun ls hl => ?_)
              refine lv_aload_n hx hb dX10_give_91 rfl (lv_at hl 2 rfl) ?_
              refine tw_get (D := (dC, dI)) (v := .ref (a 17)) (C := RX10) (T := TX10) (N := 6) hx hb hts (fun _ hh => (List.mem_cons_of_mem _ (List.mem_append_right _ (List.mem_append_right _ (List.mem_append_left _ hh))))) hown hK hT (fx_2 hX) (by decide) cl_e12 rfl 5 (by decide) (hts (.fieldLink RX10 35 "TypingPool$Rules" "stack" "[I") (List.mem_cons_of_mem _ (List.mem_append_left _ (List.mem_of_getElem? (i := 1) rfl)))) (fun _ h9 => h9) rfl dX10_give_92 ?_
              refine lv_iload_n hx hb dX10_give_95 rfl (lv_at hl 4 rfl) ?_
              refine lv_iconst (v := 1) hx hb dX10_give_96 (by decide) ?_
              refine lv_isub hx hb dX10_give_97 ?_
              refine lv_topi (fun x_7 ex_7 => ?_)
              have hx_7 := z_sub ex_7 rfl (zk (x := 1) 1 rfl) (by omega) (by omega)
              refine lv_iload hx hb dX10_give_98 (lv_at hl 1 rfl) ?_
              refine lv_sipush (v := 20033) hx hb dX10_give_100 (by decide) ?_
              refine lv_icmp_ne (tgt := 122) hx hb dX10_give_103 (by decide) (fun c_8 => ?_) (fun c_8 => ?_)
              · have nc_8 := z_ne rfl (zk (x := 20033) 20033 rfl) c_8
                refine lv_iload hx hb dX10_give_122 (lv_at hl 0 rfl) ?_
                refine lv_ineg hx hb dX10_give_124 ?_
                refine lv_topi (fun x_9 ex_9 => ?_)
                refine tw_iast hx hb hK hT hF hS 0 (fx_17 hX) (by decide) (fun _ => cl_e27) rfl (z_in rfl (by omega) (by omega)) dX10_give_125 (fun H locs hT hS => ?_)
                obtain ⟨y_10, hy_10, hT⟩ : ∃ z : Nat → Nat → Int32, z = up2 y_L4 (a 17) x_7.toNatClampNeg x_9 ∧ tw (dC, dI) a k τ ln z g H := ⟨_, rfl, hT⟩
                have hG : ag τ [27] y y_10 := by rw [hy_10]; exact hG.up (fx_17 hX) (by decide)
                have hI := hI.ag (S := [27]) (y' := y_10) (by rw [hy_10]; exact ag.one (fx_17 hX)) (by decide)
                refine lv_goto (tgt := 170) hx hb dX10_give_126 (by decide) ?_
                obtain ⟨x_11, ex_11⟩ : ∃ y : Int32, y = i3 + Int32.ofInt 1 := ⟨_, rfl⟩
                have hx_11 := z_add ex_11 rfl (zk (x := Int32.ofInt 1) 1 rfl) (by omega) (by omega)
                refine lv_iinc (v := x_11) (lv' := [(3, .int x_11), (5, .int (y_L4 (a 17) x_6.toNatClampNeg)), (4, .int (y_L4 qc i3.toNatClampNeg)), (0, .ref (a 2)), (1, .ref b0), (2, .int i2)]) hx hb dX10_give_170 hl (k := 5) rfl ex_11.symm (by decide) rfl (fun ls hl => ?_)
                refine lv_goto (tgt := 4) hx hb dX10_give_173 (by decide) ?_
                exact ih_4  i2 x_11 y_10 H _ ls (by omega) hG hI (by omega) (by omega) (by omega) (by omega) hT hS (lv_sub hl [3, 4, 5, 0] rfl)
              · have nc_8 := z_eq rfl (zk (x := 20033) 20033 rfl) c_8
                refine lv_iload hx hb dX10_give_106 (lv_at hl 0 rfl) ?_
                refine lv_if_ne (tgt := 115) hx hb dX10_give_108 (by decide) (fun c_12 => ?_) (fun c_12 => ?_)
                · have nc_12 := z_ne rfl (zk (x := 0) 0 rfl) c_12
                  refine lv_iconst (v := 0) hx hb dX10_give_115 (by decide) ?_
                  have hFc := tw_free hF hS hA
                  have hp_13 : (0 : Int32).toInt = 0 := (zk (x := 0) 0 rfl)
                  refine va_calli (va_runS (As := [.int 0]) (rest := [.int x_7, .ref (a 17)]) ⟨hx, hb, hml, hown, hts⟩ (c_truth l dC dI ad av H.size a k τ ln y_L4 g u (0 : Int32)  ) (va_cwS 1 hts (gi_3 (List.mem_cons_of_mem _ (List.mem_append_left _ (List.mem_of_getElem? (i := 2) rfl))) (List.mem_cons_of_mem _ (List.mem_append_left _ (List.mem_of_getElem? (i := 3) rfl))) (List.mem_cons_of_mem _ (List.mem_append_left _ (List.mem_of_getElem? (i := 4) rfl))) (fun _ hh => (List.mem_cons_of_mem _ (List.mem_append_right _ (List.mem_append_right _ (List.mem_append_right _ (List.mem_append_left _ hh)))))) gd_c_truth) rfl rfl rfl (by decide +kernel) ⟨Nat.le_of_ble_eq_true rfl, Nat.le_of_ble_eq_true rfl⟩) ⟨pw_blind, pw_use hT hK hFc hS hM⟩ rfl rfl hl.1 rfl (lv_room (Nat.le_of_ble_eq_true rfl)) dX10_give_116 ⟨Nat.le_of_ble_eq_true rfl, Nat.le_of_ble_eq_true rfl⟩) hS (fun q _ h => hFc q h) hFc (fun r0 r_14 t H locs ht hvm hw hB hz1 hk1 hS => ?_)
                  refine W.widen (k := 0) (n := 0) (Nat.le_of_ble_eq_true rfl) (Nat.le_of_ble_eq_true rfl) ?_
                  clear hvm hz1 hk1
                  subst hw
                  have hT := hB
                  rw [ht] at hT
                  clear hp_13
                  refine lv_goto (tgt := 125) hx hb dX10_give_119 (by decide) ?_
                  refine tw_iast hx hb hK hT hF hS 0 (fx_17 hX) (by decide) (fun _ => cl_e27) rfl (z_in rfl (by omega) (by omega)) dX10_give_125 (fun H locs hT hS => ?_)
                  obtain ⟨y_15, hy_15, hT⟩ : ∃ z : Nat → Nat → Int32, z = up2 y_L4 (a 17) x_7.toNatClampNeg r_14 ∧ tw (dC, dI) a k τ ln z g H := ⟨_, rfl, hT⟩
                  have hG : ag τ [27] y y_15 := by rw [hy_15]; exact hG.up (fx_17 hX) (by decide)
                  have hI := hI.ag (S := [27]) (y' := y_15) (by rw [hy_15]; exact ag.one (fx_17 hX)) (by decide)
                  refine lv_goto (tgt := 170) hx hb dX10_give_126 (by decide) ?_
                  obtain ⟨x_16, ex_16⟩ : ∃ y : Int32, y = i3 + Int32.ofInt 1 := ⟨_, rfl⟩
                  have hx_16 := z_add ex_16 rfl (zk (x := Int32.ofInt 1) 1 rfl) (by omega) (by omega)
                  refine lv_iinc (v := x_16) (lv' := [(3, .int x_16), (5, .int (y_L4 (a 17) x_6.toNatClampNeg)), (4, .int (y_L4 qc i3.toNatClampNeg)), (0, .ref (a 2)), (1, .ref b0), (2, .int i2)]) hx hb dX10_give_170 hl (k := 5) rfl ex_16.symm (by decide) rfl (fun ls hl => ?_)
                  refine lv_goto (tgt := 4) hx hb dX10_give_173 (by decide) ?_
                  exact ih_4  i2 x_16 y_15 H _ ls (by omega) hG hI (by omega) (by omega) (by omega) (by omega) hT hS (lv_sub hl [3, 4, 5, 0] rfl)
                · have nc_12 := z_eq rfl (zk (x := 0) 0 rfl) c_12
                  refine lv_iconst (v := 1) hx hb dX10_give_111 (by decide) ?_
                  refine lv_goto (tgt := 116) hx hb dX10_give_112 (by decide) ?_
                  have hFc := tw_free hF hS hA
                  have hp_17 : (1 : Int32).toInt = 1 := (zk (x := 1) 1 rfl)
                  refine va_calli (va_runS (As := [.int 1]) (rest := [.int x_7, .ref (a 17)]) ⟨hx, hb, hml, hown, hts⟩ (c_truth l dC dI ad av H.size a k τ ln y_L4 g u (1 : Int32)  ) (va_cwS 1 hts (gi_3 (List.mem_cons_of_mem _ (List.mem_append_left _ (List.mem_of_getElem? (i := 2) rfl))) (List.mem_cons_of_mem _ (List.mem_append_left _ (List.mem_of_getElem? (i := 3) rfl))) (List.mem_cons_of_mem _ (List.mem_append_left _ (List.mem_of_getElem? (i := 4) rfl))) (fun _ hh => (List.mem_cons_of_mem _ (List.mem_append_right _ (List.mem_append_right _ (List.mem_append_right _ (List.mem_append_left _ hh)))))) gd_c_truth) rfl rfl rfl (by decide +kernel) ⟨Nat.le_of_ble_eq_true rfl, Nat.le_of_ble_eq_true rfl⟩) ⟨pw_blind, pw_use hT hK hFc hS hM⟩ rfl rfl hl.1 rfl (lv_room (Nat.le_of_ble_eq_true rfl)) dX10_give_116 ⟨Nat.le_of_ble_eq_true rfl, Nat.le_of_ble_eq_true rfl⟩) hS (fun q _ h => hFc q h) hFc (fun r0 r_18 t H locs ht hvm hw hB hz1 hk1 hS => ?_)
                  refine W.widen (k := 0) (n := 0) (Nat.le_of_ble_eq_true rfl) (Nat.le_of_ble_eq_true rfl) ?_
                  clear hvm hz1 hk1
                  subst hw
                  have hT := hB
                  rw [ht] at hT
                  clear hp_17
                  refine lv_goto (tgt := 125) hx hb dX10_give_119 (by decide) ?_
                  refine tw_iast hx hb hK hT hF hS 0 (fx_17 hX) (by decide) (fun _ => cl_e27) rfl (z_in rfl (by omega) (by omega)) dX10_give_125 (fun H locs hT hS => ?_)
                  obtain ⟨y_19, hy_19, hT⟩ : ∃ z : Nat → Nat → Int32, z = up2 y_L4 (a 17) x_7.toNatClampNeg r_18 ∧ tw (dC, dI) a k τ ln z g H := ⟨_, rfl, hT⟩
                  have hG : ag τ [27] y y_19 := by rw [hy_19]; exact hG.up (fx_17 hX) (by decide)
                  have hI := hI.ag (S := [27]) (y' := y_19) (by rw [hy_19]; exact ag.one (fx_17 hX)) (by decide)
                  refine lv_goto (tgt := 170) hx hb dX10_give_126 (by decide) ?_
                  obtain ⟨x_20, ex_20⟩ : ∃ y : Int32, y = i3 + Int32.ofInt 1 := ⟨_, rfl⟩
                  have hx_20 := z_add ex_20 rfl (zk (x := Int32.ofInt 1) 1 rfl) (by omega) (by omega)
                  refine lv_iinc (v := x_20) (lv' := [(3, .int x_20), (5, .int (y_L4 (a 17) x_6.toNatClampNeg)), (4, .int (y_L4 qc i3.toNatClampNeg)), (0, .ref (a 2)), (1, .ref b0), (2, .int i2)]) hx hb dX10_give_170 hl (k := 5) rfl ex_20.symm (by decide) rfl (fun ls hl => ?_)
                  refine lv_goto (tgt := 4) hx hb dX10_give_173 (by decide) ?_
                  exact ih_4  i2 x_20 y_19 H _ ls (by omega) hG hI (by omega) (by omega) (by omega) (by omega) hT hS (lv_sub hl [3, 4, 5, 0] rfl)
            · have nc_5 := z_nle (zk (x := 1) 1 rfl) rfl c_5
              refine lv_iconst (v := 0) hx hb dX10_give_79 (by decide) ?_
              exact W.iret (v := 0) hx hb hr (fun t ht hW9 => ⟨⟨0, 0, rfl, rfl, ⟨y_L4, hG, tw_at ht hT⟩⟩, hS.F ht⟩) hS.2.2 dX10_give_80
          · have nc_4 := z_ne rfl (zk (x := 20033) 20033 rfl) c_4
            refine lv_iload hx hb dX10_give_66 (lv_at hl 0 rfl) ?_
            refine lv_sipush (v := 20126) hx hb dX10_give_68 (by decide) ?_
            refine lv_icmp_ne (tgt := 129) hx hb dX10_give_71 (by decide) (fun c_21 => ?_) (fun c_21 => ?_)
            · have nc_21 := z_ne rfl (zk (x := 20126) 20126 rfl) c_21
              refine lv_iload_n hx hb dX10_give_129 rfl (lv_at hl 3 rfl) ?_
              refine lv_iconst (v := 2) hx hb dX10_give_130 (by decide) ?_
              refine lv_icmp_ge (tgt := 136) hx hb dX10_give_131 (by decide) (fun c_22 => ?_) (fun c_22 => ?_)
              · have nc_22 := z_le (zk (x := 2) 2 rfl) rfl c_22
                obtain ⟨x_23, ex_23⟩ : ∃ y : Int32, y = i2 + Int32.ofInt (-1) := ⟨_, rfl⟩
                have hx_23 := z_add ex_23 rfl (zk (x := Int32.ofInt (-1)) (-1) rfl) (by omega) (by omega)
                refine lv_iinc (v := x_23) (lv' := [(2, .int x_23), (4, .int (y_L4 qc i3.toNatClampNeg)), (0, .ref (a 2)), (1, .ref b0), (3, .int i3)]) hx hb dX10_give_136 hl (k := 3) rfl ex_23.symm (by decide) rfl (fun ls hl => ?_)
                refine lv_aload_n hx hb dX10_give_139 rfl (lv_at hl 2 rfl) ?_
                refine tw_get (D := (dC, dI)) (v := .ref (a 17)) (C := RX10) (T := TX10) (N := 6) hx hb hts (fun _ hh => (List.mem_cons_of_mem _ (List.mem_append_right _ (List.mem_append_right _ (List.mem_append_left _ hh))))) hown hK hT (fx_2 hX) (by decide) cl_e12 rfl 5 (by decide) (hts (.fieldLink RX10 35 "TypingPool$Rules" "stack" "[I") (List.mem_cons_of_mem _ (List.mem_append_left _ (List.mem_of_getElem? (i := 1) rfl)))) (fun _ h9 => h9) rfl dX10_give_140 ?_
                refine lv_iload_n hx hb dX10_give_143 rfl (lv_at hl 0 rfl) ?_
                refine lv_iconst (v := 1) hx hb dX10_give_144 (by decide) ?_
                refine lv_isub hx hb dX10_give_145 ?_
                refine lv_topi (fun x_24 ex_24 => ?_)
                have hx_24 := z_sub ex_24 rfl (zk (x := 1) 1 rfl) (by omega) (by omega)
                refine lv_iload hx hb dX10_give_146 (lv_at hl 1 rfl) ?_
                refine lv_sipush (v := 20000) hx hb dX10_give_148 (by decide) ?_
                refine lv_isub hx hb dX10_give_151 ?_
                refine lv_topi (fun x_25 ex_25 => ?_)
                refine lv_aload_n hx hb dX10_give_152 rfl (lv_at hl 2 rfl) ?_
                refine tw_get (D := (dC, dI)) (v := .ref (a 17)) (C := RX10) (T := TX10) (N := 6) hx hb hts (fun _ hh => (List.mem_cons_of_mem _ (List.mem_append_right _ (List.mem_append_right _ (List.mem_append_left _ hh))))) hown hK hT (fx_2 hX) (by decide) cl_e12 rfl 5 (by decide) (hts (.fieldLink RX10 35 "TypingPool$Rules" "stack" "[I") (List.mem_cons_of_mem _ (List.mem_append_left _ (List.mem_of_getElem? (i := 1) rfl)))) (fun _ h9 => h9) rfl dX10_give_153 ?_
                refine lv_iload_n hx hb dX10_give_156 rfl (lv_at hl 0 rfl) ?_
                refine lv_iconst (v := 1) hx hb dX10_give_157 (by decide) ?_
                refine lv_isub hx hb dX10_give_158 ?_
                refine lv_topi (fun x_26 ex_26 => ?_)
                have hx_26 := z_sub ex_26 rfl (zk (x := 1) 1 rfl) (by omega) (by omega)
                refine tw_iald hx hb hK hT 0 (fx_17 hX) (by decide) cl_e27 rfl (z_in rfl (by omega) (by omega)) dX10_give_159 ?_
                refine lv_aload_n hx hb dX10_give_160 rfl (lv_at hl 2 rfl) ?_
                refine tw_get (D := (dC, dI)) (v := .ref (a 17)) (C := RX10) (T := TX10) (N := 6) hx hb hts (fun _ hh => (List.mem_cons_of_mem _ (List.mem_append_right _ (List.mem_append_right _ (List.mem_append_left _ hh))))) hown hK hT (fx_2 hX) (by decide) cl_e12 rfl 5 (by decide) (hts (.fieldLink RX10 35 "TypingPool$Rules" "stack" "[I") (List.mem_cons_of_mem _ (List.mem_append_left _ (List.mem_of_getElem? (i := 1) rfl)))) (fun _ h9 => h9) rfl dX10_give_161 ?_
                refine lv_iload_n hx hb dX10_give_164 rfl (lv_at hl 0 rfl) ?_
                refine tw_iald hx hb hK hT 0 (fx_17 hX) (by decide) cl_e27 rfl (z_in rfl (by omega) (by omega)) dX10_give_165 ?_
                have hFc := tw_free hF hS hA
                refine va_calli (va_runS (As := [.int x_25, .int (y_L4 (a 17) x_26.toNatClampNeg), .int (y_L4 (a 17) x_23.toNatClampNeg)]) (rest := [.int x_24, .ref (a 17)]) ⟨hx, hb, hml, hown, hts⟩ (c_joined l dC dI ad av H.size a k τ ln y_L4 g u x_25 (y_L4 (a 17) x_26.toNatClampNeg) (y_L4 (a 17) x_23.toNatClampNeg)  ) (va_cwS 3 hts (gi_3 (List.mem_cons_of_mem _ (List.mem_append_left _ (List.mem_of_getElem? (i := 5) rfl))) (List.mem_cons_of_mem _ (List.mem_append_left _ (List.mem_of_getElem? (i := 6) rfl))) (List.mem_cons_of_mem _ (List.mem_append_left _ (List.mem_of_getElem? (i := 4) rfl))) (fun _ hh => (List.mem_cons_of_mem _ (List.mem_append_right _ (List.mem_append_right _ (List.mem_append_right _ (List.mem_append_right _ (List.mem_append_left _ hh))))))) gd_c_joined) rfl rfl rfl (by decide +kernel) ⟨Nat.le_of_ble_eq_true rfl, Nat.le_of_ble_eq_true rfl⟩) ⟨pw_blind, pw_use hT hK hFc hS hM⟩ rfl rfl hl.1 rfl (lv_room (Nat.le_of_ble_eq_true rfl)) dX10_give_166 ⟨Nat.le_of_ble_eq_true rfl, Nat.le_of_ble_eq_true rfl⟩) hS (fun q _ h => hFc q h) hFc (fun r0 r_27 t H locs ht hvm hw hB hz1 hk1 hS => ?_)
                refine W.widen (k := 0) (n := 0) (Nat.le_of_ble_eq_true rfl) (Nat.le_of_ble_eq_true rfl) ?_
                clear hvm hz1 hk1
                subst hw
                have hT := hB
                rw [ht] at hT
                refine tw_iast hx hb hK hT hF hS 0 (fx_17 hX) (by decide) (fun _ => cl_e27) rfl (z_in rfl (by omega) (by omega)) dX10_give_169 (fun H locs hT hS => ?_)
                obtain ⟨y_28, hy_28, hT⟩ : ∃ z : Nat → Nat → Int32, z = up2 y_L4 (a 17) x_24.toNatClampNeg r_27 ∧ tw (dC, dI) a k τ ln z g H := ⟨_, rfl, hT⟩
                have hG : ag τ [27] y y_28 := by rw [hy_28]; exact hG.up (fx_17 hX) (by decide)
                have hI := hI.ag (S := [27]) (y' := y_28) (by rw [hy_28]; exact ag.one (fx_17 hX)) (by decide)
                obtain ⟨x_29, ex_29⟩ : ∃ y : Int32, y = i3 + Int32.ofInt 1 := ⟨_, rfl⟩
                have hx_29 := z_add ex_29 rfl (zk (x := Int32.ofInt 1) 1 rfl) (by omega) (by omega)
                refine lv_iinc (v := x_29) (lv' := [(3, .int x_29), (2, .int x_23), (4, .int (y_L4 qc i3.toNatClampNeg)), (0, .ref (a 2)), (1, .ref b0)]) hx hb dX10_give_170 hl (k := 4) rfl ex_29.symm (by decide) rfl (fun ls hl => ?_)
                refine lv_goto (tgt := 4) hx hb dX10_give_173 (by decide) ?_
                exact ih_4  x_23 x_29 y_28 H _ ls (by omega) hG hI (by omega) (by omega) (by omega) (by omega) hT hS (lv_sub hl [3, 4, 1, 0] rfl)
              · have nc_22 := z_nle (zk (x := 2) 2 rfl) rfl c_22
                refine lv_iconst (v := 0) hx hb dX10_give_134 (by decide) ?_
                exact W.iret (v := 0) hx hb hr (fun t ht hW9 => ⟨⟨0, 0, rfl, rfl, ⟨y_L4, hG, tw_at ht hT⟩⟩, hS.F ht⟩) hS.2.2 dX10_give_135
            · have nc_21 := z_eq rfl (zk (x := 20126) 20126 rfl) c_21
              refine lv_iload_n hx hb dX10_give_74 rfl (lv_at hl 3 rfl) ?_
              refine lv_iconst (v := 1) hx hb dX10_give_75 (by decide) ?_
              refine lv_icmp_ge (tgt := 81) hx hb dX10_give_76 (by decide) (fun c_30 => ?_) (fun c_30 => ?_)
              · have nc_30 := z_le (zk (x := 1) 1 rfl) rfl c_30
                refine lv_aload_n hx hb dX10_give_81 rfl (lv_at hl 1 rfl) ?_
                refine tw_get (D := (dC, dI)) (v := .ref (a 17)) (C := RX10) (T := TX10) (N := 6) hx hb hts (fun _ hh => (List.mem_cons_of_mem _ (List.mem_append_right _ (List.mem_append_right _ (List.mem_append_left _ hh))))) hown hK hT (fx_2 hX) (by decide) cl_e12 rfl 5 (by decide) (hts (.fieldLink RX10 35 "TypingPool$Rules" "stack" "[I") (List.mem_cons_of_mem _ (List.mem_append_left _ (List.mem_of_getElem? (i := 1) rfl)))) (fun _ h9 => h9) rfl dX10_give_82 ?_
                refine lv_iload_n hx hb dX10_give_85 rfl (lv_at hl 3 rfl) ?_
                refine lv_iconst (v := 1) hx hb dX10_give_86 (by decide) ?_
                refine lv_isub hx hb dX10_give_87 ?_
                refine lv_topi (fun x_31 ex_31 => ?_)
                have hx_31 := z_sub ex_31 rfl (zk (x := 1) 1 rfl) (by omega) (by omega)
                refine tw_iald hx hb hK hT 0 (fx_17 hX) (by decide) cl_e27 rfl (z_in rfl (by omega) (by omega)) dX10_give_88 ?_
                refine lv_istore (lv' := [(5, .int (y_L4 (a 17) x_31.toNatClampNeg)), (4, .int (y_L4 qc i3.toNatClampNeg)), (0, .ref (a 2)), (1, .ref b0), (2, .int i2), (3, .int i3)]) hx hb dX10_give_89 hl (by decide) rfl (fun ls hl => ?_)
                refine lv_aload_n hx hb dX10_give_91 rfl (lv_at hl 2 rfl) ?_
                refine tw_get (D := (dC, dI)) (v := .ref (a 17)) (C := RX10) (T := TX10) (N := 6) hx hb hts (fun _ hh => (List.mem_cons_of_mem _ (List.mem_append_right _ (List.mem_append_right _ (List.mem_append_left _ hh))))) hown hK hT (fx_2 hX) (by decide) cl_e12 rfl 5 (by decide) (hts (.fieldLink RX10 35 "TypingPool$Rules" "stack" "[I") (List.mem_cons_of_mem _ (List.mem_append_left _ (List.mem_of_getElem? (i := 1) rfl)))) (fun _ h9 => h9) rfl dX10_give_92 ?_
                refine lv_iload_n hx hb dX10_give_95 rfl (lv_at hl 4 rfl) ?_
                refine lv_iconst (v := 1) hx hb dX10_give_96 (by decide) ?_
                refine lv_isub hx hb dX10_give_97 ?_
                refine lv_topi (fun x_32 ex_32 => ?_)
                have hx_32 := z_sub ex_32 rfl (zk (x := 1) 1 rfl) (by omega) (by omega)
                refine lv_iload hx hb dX10_give_98 (lv_at hl 1 rfl) ?_
                refine lv_sipush (v := 20033) hx hb dX10_give_100 (by decide) ?_
                refine lv_icmp_ne (tgt := 122) hx hb dX10_give_103 (by decide) (fun c_33 => ?_) (fun c_33 => ?_)
                · have nc_33 := z_ne rfl (zk (x := 20033) 20033 rfl) c_33
                  refine lv_iload hx hb dX10_give_122 (lv_at hl 0 rfl) ?_
                  refine lv_ineg hx hb dX10_give_124 ?_
                  refine lv_topi (fun x_34 ex_34 => ?_)
                  refine tw_iast hx hb hK hT hF hS 0 (fx_17 hX) (by decide) (fun _ => cl_e27) rfl (z_in rfl (by omega) (by omega)) dX10_give_125 (fun H locs hT hS => ?_)
                  obtain ⟨y_35, hy_35, hT⟩ : ∃ z : Nat → Nat → Int32, z = up2 y_L4 (a 17) x_32.toNatClampNeg x_34 ∧ tw (dC, dI) a k τ ln z g H := ⟨_, rfl, hT⟩
                  have hG : ag τ [27] y y_35 := by rw [hy_35]; exact hG.up (fx_17 hX) (by decide)
                  have hI := hI.ag (S := [27]) (y' := y_35) (by rw [hy_35]; exact ag.one (fx_17 hX)) (by decide)
                  refine lv_goto (tgt := 170) hx hb dX10_give_126 (by decide) ?_
                  obtain ⟨x_36, ex_36⟩ : ∃ y : Int32, y = i3 + Int32.ofInt 1 := ⟨_, rfl⟩
                  have hx_36 := z_add ex_36 rfl (zk (x := Int32.ofInt 1) 1 rfl) (by omega) (by omega)
                  refine lv_iinc (v := x_36) (lv' := [(3, .int x_36), (5, .int (y_L4 (a 17) x_31.toNatClampNeg)), (4, .int (y_L4 qc i3.toNatClampNeg)), (0, .ref (a 2)), (1, .ref b0), (2, .int i2)]) hx hb dX10_give_170 hl (k := 5) rfl ex_36.symm (by decide) rfl (fun ls hl => ?_)
                  refine lv_goto (tgt := 4) hx hb dX10_give_173 (by decide) ?_
                  exact ih_4  i2 x_36 y_35 H _ ls (by omega) hG hI (by omega) (by omega) (by omega) (by omega) hT hS (lv_sub hl [3, 4, 5, 0] rfl)
                · have nc_33 := z_eq rfl (zk (x := 20033) 20033 rfl) c_33
                  refine lv_iload hx hb dX10_give_106 (lv_at hl 0 rfl) ?_
                  refine lv_if_ne (tgt := 115) hx hb dX10_give_108 (by decide) (fun c_37 => ?_) (fun c_37 => ?_)
                  · have nc_37 := z_ne rfl (zk (x := 0) 0 rfl) c_37
                    refine lv_iconst (v := 0) hx hb dX10_give_115 (by decide) ?_
                    have hFc := tw_free hF hS hA
                    have hp_38 : (0 : Int32).toInt = 0 := (zk (x := 0) 0 rfl)
                    refine va_calli (va_runS (As := [.int 0]) (rest := [.int x_32, .ref (a 17)]) ⟨hx, hb, hml, hown, hts⟩ (c_truth l dC dI ad av H.size a k τ ln y_L4 g u (0 : Int32)  ) (va_cwS 1 hts (gi_3 (List.mem_cons_of_mem _ (List.mem_append_left _ (List.mem_of_getElem? (i := 2) rfl))) (List.mem_cons_of_mem _ (List.mem_append_left _ (List.mem_of_getElem? (i := 3) rfl))) (List.mem_cons_of_mem _ (List.mem_append_left _ (List.mem_of_getElem? (i := 4) rfl))) (fun _ hh => (List.mem_cons_of_mem _ (List.mem_append_right _ (List.mem_append_right _ (List.mem_append_right _ (List.mem_append_left _ hh)))))) gd_c_truth) rfl rfl rfl (by decide +kernel) ⟨Nat.le_of_ble_eq_true rfl, Nat.le_of_ble_eq_true rfl⟩) ⟨pw_blind, pw_use hT hK hFc hS hM⟩ rfl rfl hl.1 rfl (lv_room (Nat.le_of_ble_eq_true rfl)) dX10_give_116 ⟨Nat.le_of_ble_eq_true rfl, Nat.le_of_ble_eq_true rfl⟩) hS (fun q _ h => hFc q h) hFc (fun r0 r_39 t H locs ht hvm hw hB hz1 hk1 hS => ?_)
                    refine W.widen (k := 0) (n := 0) (Nat.le_of_ble_eq_true rfl) (Nat.le_of_ble_eq_true rfl) ?_
                    clear hvm hz1 hk1
                    subst hw
                    have hT := hB
                    rw [ht] at hT
                    clear hp_38
                    refine lv_goto (tgt := 125) hx hb dX10_give_119 (by decide) ?_
                    refine tw_iast hx hb hK hT hF hS 0 (fx_17 hX) (by decide) (fun _ => cl_e27) rfl (z_in rfl (by omega) (by omega)) dX10_give_125 (fun H locs hT hS => ?_)
                    obtain ⟨y_40, hy_40, hT⟩ : ∃ z : Nat → Nat → Int32, z = up2 y_L4 (a 17) x_32.toNatClampNeg r_39 ∧ tw (dC, dI) a k τ ln z g H := ⟨_, rfl, hT⟩
                    have hG : ag τ [27] y y_40 := by rw [hy_40]; exact hG.up (fx_17 hX) (by decide)
                    have hI := hI.ag (S := [27]) (y' := y_40) (by rw [hy_40]; exact ag.one (fx_17 hX)) (by decide)
                    refine lv_goto (tgt := 170) hx hb dX10_give_126 (by decide) ?_
                    obtain ⟨x_41, ex_41⟩ : ∃ y : Int32, y = i3 + Int32.ofInt 1 := ⟨_, rfl⟩
                    have hx_41 := z_add ex_41 rfl (zk (x := Int32.ofInt 1) 1 rfl) (by omega) (by omega)
                    refine lv_iinc (v := x_41) (lv' := [(3, .int x_41), (5, .int (y_L4 (a 17) x_31.toNatClampNeg)), (4, .int (y_L4 qc i3.toNatClampNeg)), (0, .ref (a 2)), (1, .ref b0), (2, .int i2)]) hx hb dX10_give_170 hl (k := 5) rfl ex_41.symm (by decide) rfl (fun ls hl => ?_)
                    refine lv_goto (tgt := 4) hx hb dX10_give_173 (by decide) ?_
                    exact ih_4  i2 x_41 y_40 H _ ls (by omega) hG hI (by omega) (by omega) (by omega) (by omega) hT hS (lv_sub hl [3, 4, 5, 0] rfl)
                  · have nc_37 := z_eq rfl (zk (x := 0) 0 rfl) c_37
                    refine lv_iconst (v := 1) hx hb dX10_give_111 (by decide) ?_
                    refine lv_goto (tgt := 116) hx hb dX10_give_112 (by decide) ?_
                    have hFc := tw_free hF hS hA
                    have hp_42 : (1 : Int32).toInt = 1 := (zk (x := 1) 1 rfl)
                    refine va_calli (va_runS (As := [.int 1]) (rest := [.int x_32, .ref (a 17)]) ⟨hx, hb, hml, hown, hts⟩ (c_truth l dC dI ad av H.size a k τ ln y_L4 g u (1 : Int32)  ) (va_cwS 1 hts (gi_3 (List.mem_cons_of_mem _ (List.mem_append_left _ (List.mem_of_getElem? (i := 2) rfl))) (List.mem_cons_of_mem _ (List.mem_append_left _ (List.mem_of_getElem? (i := 3) rfl))) (List.mem_cons_of_mem _ (List.mem_append_left _ (List.mem_of_getElem? (i := 4) rfl))) (fun _ hh => (List.mem_cons_of_mem _ (List.mem_append_right _ (List.mem_append_right _ (List.mem_append_right _ (List.mem_append_left _ hh)))))) gd_c_truth) rfl rfl rfl (by decide +kernel) ⟨Nat.le_of_ble_eq_true rfl, Nat.le_of_ble_eq_true rfl⟩) ⟨pw_blind, pw_use hT hK hFc hS hM⟩ rfl rfl hl.1 rfl (lv_room (Nat.le_of_ble_eq_true rfl)) dX10_give_116 ⟨Nat.le_of_ble_eq_true rfl, Nat.le_of_ble_eq_true rfl⟩) hS (fun q _ h => hFc q h) hFc (fun r0 r_43 t H locs ht hvm hw hB hz1 hk1 hS => ?_)
                    refine W.widen (k := 0) (n := 0) (Nat.le_of_ble_eq_true rfl) (Nat.le_of_ble_eq_true rfl) ?_
                    clear hvm hz1 hk1
                    subst hw
                    have hT := hB
                    rw [ht] at hT
                    clear hp_42
                    refine lv_goto (tgt := 125) hx hb dX10_give_119 (by decide) ?_
                    refine tw_iast hx hb hK hT hF hS 0 (fx_17 hX) (by decide) (fun _ => cl_e27) rfl (z_in rfl (by omega) (by omega)) dX10_give_125 (fun H locs hT hS => ?_)
                    obtain ⟨y_44, hy_44, hT⟩ : ∃ z : Nat → Nat → Int32, z = up2 y_L4 (a 17) x_32.toNatClampNeg r_43 ∧ tw (dC, dI) a k τ ln z g H := ⟨_, rfl, hT⟩
                    have hG : ag τ [27] y y_44 := by rw [hy_44]; exact hG.up (fx_17 hX) (by decide)
                    have hI := hI.ag (S := [27]) (y' := y_44) (by rw [hy_44]; exact ag.one (fx_17 hX)) (by decide)
                    refine lv_goto (tgt := 170) hx hb dX10_give_126 (by decide) ?_
                    obtain ⟨x_45, ex_45⟩ : ∃ y : Int32, y = i3 + Int32.ofInt 1 := ⟨_, rfl⟩
                    have hx_45 := z_add ex_45 rfl (zk (x := Int32.ofInt 1) 1 rfl) (by omega) (by omega)
                    refine lv_iinc (v := x_45) (lv' := [(3, .int x_45), (5, .int (y_L4 (a 17) x_31.toNatClampNeg)), (4, .int (y_L4 qc i3.toNatClampNeg)), (0, .ref (a 2)), (1, .ref b0), (2, .int i2)]) hx hb dX10_give_170 hl (k := 5) rfl ex_45.symm (by decide) rfl (fun ls hl => ?_)
                    refine lv_goto (tgt := 4) hx hb dX10_give_173 (by decide) ?_
                    exact ih_4  i2 x_45 y_44 H _ ls (by omega) hG hI (by omega) (by omega) (by omega) (by omega) hT hS (lv_sub hl [3, 4, 5, 0] rfl)
              · have nc_30 := z_nle (zk (x := 1) 1 rfl) rfl c_30
                refine lv_iconst (v := 0) hx hb dX10_give_79 (by decide) ?_
                exact W.iret (v := 0) hx hb hr (fun t ht hW9 => ⟨⟨0, 0, rfl, rfl, ⟨y_L4, hG, tw_at ht hT⟩⟩, hS.F ht⟩) hS.2.2 dX10_give_80
        · have nc_3 := z_nle (zk (x := 20000) 20000 rfl) rfl c_3
          refine lv_iload_n hx hb dX10_give_29 rfl (lv_at hl 3 rfl) ?_
          refine lv_aload_n hx hb dX10_give_30 rfl (lv_at hl 1 rfl) ?_
          refine tw_get (D := (dC, dI)) (v := .ref (a 17)) (C := RX10) (T := TX10) (N := 6) hx hb hts (fun _ hh => (List.mem_cons_of_mem _ (List.mem_append_right _ (List.mem_append_right _ (List.mem_append_left _ hh))))) hown hK hT (fx_2 hX) (by decide) cl_e12 rfl 5 (by decide) (hts (.fieldLink RX10 35 "TypingPool$Rules" "stack" "[I") (List.mem_cons_of_mem _ (List.mem_append_left _ (List.mem_of_getElem? (i := 1) rfl)))) (fun _ h9 => h9) rfl dX10_give_31 ?_
          refine tw_alen (v := 60) hx hb hK hT 0 (fx_17 hX) (by decide) cl_e27 rfl rfl dX10_give_34 ?_
          refine lv_icmp_lt (tgt := 40) hx hb dX10_give_35 (by decide) (fun c_46 => ?_) (fun c_46 => ?_)
          · have nc_46 := z_lt rfl (zk (x := 60) 60 rfl) c_46
            refine lv_aload_n hx hb dX10_give_40 rfl (lv_at hl 1 rfl) ?_
            refine tw_get (D := (dC, dI)) (v := .ref (a 17)) (C := RX10) (T := TX10) (N := 6) hx hb hts (fun _ hh => (List.mem_cons_of_mem _ (List.mem_append_right _ (List.mem_append_right _ (List.mem_append_left _ hh))))) hown hK hT (fx_2 hX) (by decide) cl_e12 rfl 5 (by decide) (hts (.fieldLink RX10 35 "TypingPool$Rules" "stack" "[I") (List.mem_cons_of_mem _ (List.mem_append_left _ (List.mem_of_getElem? (i := 1) rfl)))) (fun _ h9 => h9) rfl dX10_give_41 ?_
            refine lv_iload_n hx hb dX10_give_44 rfl (lv_at hl 3 rfl) ?_
            refine lv_aload_n hx hb dX10_give_45 rfl (lv_at hl 1 rfl) ?_
            refine lv_iload hx hb dX10_give_46 (lv_at hl 0 rfl) ?_
            have hFc := tw_free hF hS hA
            refine va_calli (va_runV (As := [.int (y_L4 qc i3.toNatClampNeg)]) (rest := [.int i2, .ref (a 17)]) ⟨hx, hb, hml, hown, hts⟩ (c_thing l dC dI ad av H.size a k τ ln y_L4 g u (y_L4 qc i3.toNatClampNeg) hI ) (cwV 1 hts (gi_4 (List.mem_cons_of_mem _ (List.mem_append_left _ (List.mem_of_getElem? (i := 7) rfl))) (List.mem_cons_of_mem _ (List.mem_append_left _ (List.mem_of_getElem? (i := 8) rfl))) (List.mem_cons_of_mem _ (List.mem_append_left _ (List.mem_of_getElem? (i := 9) rfl))) (List.mem_cons_of_mem _ (List.mem_append_left _ (List.mem_of_getElem? (i := 4) rfl))) (fun _ hh => (List.mem_cons_of_mem _ (List.mem_append_right _ (List.mem_append_right _ (List.mem_append_right _ (List.mem_append_right _ (List.mem_append_right _ (List.mem_append_left _ hh)))))))) gd_c_thing) rfl rfl rfl (by decide +kernel) ⟨Nat.le_of_ble_eq_true rfl, Nat.le_of_ble_eq_true rfl⟩) ⟨pw_blind, tw_recv hK hT (fx_2 hX) (by decide) cl_e12 rfl, pw_use hT hK hFc hS hM⟩ rfl rfl hl.1 rfl (lv_room (Nat.le_of_ble_eq_true rfl)) dX10_give_48 ⟨Nat.le_of_ble_eq_true rfl, Nat.le_of_ble_eq_true rfl⟩) hS (fun q _ h => hFc q h) hFc (fun r0 r_47 t H locs ht hvm hw hB hz1 hk1 hS => ?_)
            refine W.widen (k := 0) (n := 0) (Nat.le_of_ble_eq_true rfl) (Nat.le_of_ble_eq_true rfl) ?_
            clear hvm hz1 hk1
            subst hw
            have hT := hB
            rw [ht] at hT
            refine tw_iast hx hb hK hT hF hS 0 (fx_17 hX) (by decide) (fun _ => cl_e27) rfl (z_in rfl (by omega) (by omega)) dX10_give_51 (fun H locs hT hS => ?_)
            obtain ⟨y_48, hy_48, hT⟩ : ∃ z : Nat → Nat → Int32, z = up2 y_L4 (a 17) i2.toNatClampNeg r_47 ∧ tw (dC, dI) a k τ ln z g H := ⟨_, rfl, hT⟩
            have hG : ag τ [27] y y_48 := by rw [hy_48]; exact hG.up (fx_17 hX) (by decide)
            have hI := hI.ag (S := [27]) (y' := y_48) (by rw [hy_48]; exact ag.one (fx_17 hX)) (by decide)
            obtain ⟨x_49, ex_49⟩ : ∃ y : Int32, y = i2 + Int32.ofInt 1 := ⟨_, rfl⟩
            have hx_49 := z_add ex_49 rfl (zk (x := Int32.ofInt 1) 1 rfl) (by omega) (by omega)
            refine lv_iinc (v := x_49) (lv' := [(2, .int x_49), (4, .int (y_L4 qc i3.toNatClampNeg)), (0, .ref (a 2)), (1, .ref b0), (3, .int i3)]) hx hb dX10_give_52 hl (k := 3) rfl ex_49.symm (by decide) rfl (fun ls hl => ?_)
            refine lv_goto (tgt := 170) hx hb dX10_give_55 (by decide) ?_
            obtain ⟨x_50, ex_50⟩ : ∃ y : Int32, y = i3 + Int32.ofInt 1 := ⟨_, rfl⟩
            have hx_50 := z_add ex_50 rfl (zk (x := Int32.ofInt 1) 1 rfl) (by omega) (by omega)
            refine lv_iinc (v := x_50) (lv' := [(3, .int x_50), (2, .int x_49), (4, .int (y_L4 qc i3.toNatClampNeg)), (0, .ref (a 2)), (1, .ref b0)]) hx hb dX10_give_170 hl (k := 4) rfl ex_50.symm (by decide) rfl (fun ls hl => ?_)
            refine lv_goto (tgt := 4) hx hb dX10_give_173 (by decide) ?_
            exact ih_4  x_49 x_50 y_48 H _ ls (by omega) hG hI (by omega) (by omega) (by omega) (by omega) hT hS (lv_sub hl [3, 4, 1, 0] rfl)
          · have nc_46 := z_nlt rfl (zk (x := 60) 60 rfl) c_46
            refine lv_iconst (v := 0) hx hb dX10_give_38 (by decide) ?_
            exact W.iret (v := 0) hx hb hr (fun t ht hW9 => ⟨⟨0, 0, rfl, rfl, ⟨y_L4, hG, tw_at ht hT⟩⟩, hS.F ht⟩) hS.2.2 dX10_give_39
  have hp_51 : (0 : Int32).toInt = 0 := (zk (x := 0) 0 rfl)
  have hp_52 : (0 : Int32).toInt = 0 := (zk (x := 0) 0 rfl)
  exact loop_4 _ (0 : Int32) (0 : Int32) y s.heap _ ls (Nat.lt_succ_self _) hG hI (by omega) (by omega) (by omega) (by omega) hT hS (lv_sub hl [2, 3, 1, 0] rfl)
def wo_c_allWork : List Cond := [.fieldLink RX6 9 "TypingPool$Piece" "lines" "I", .fieldLink RX6 15 "TypingPool$Piece" "copies" "I"]
def wm_c_allWork : List Cond := .code yX6_allWork cX6_allWork 1 (some .int) :: (wo_c_allWork ++ (wsX60 ++ ([] : List Cond)))
theorem gd_c_allWork : ∀ w ∈ wm_c_allWork, goodWord w = true := gd_c rfl (gd_a (by decide) (gd_a gd_wsX60 gd_nil))
set_option maxRecDepth 20000 in
theorem im_c_allWork : ∀ w ∈ wm_c_allWork, w ∈ lw_tbl := im_c (in_r [.code yX6_allWork cX6_allWork 1 (some .int)] [722] (by decide +kernel)) (in_app (in_r wo_c_allWork [670, 689] (by decide +kernel)) (in_app im_wsX60 im_nil))
set_option maxHeartbeats 4000000 in
set_option maxRecDepth 100000 in
theorem c_allWork (l : Launch) (dC : Nat → ClassId) (dI : Nat → Nat → Nat) (ad av : Nat → Nat) (sz : Nat) (a : Nat → Nat) (k : Nat → ClassId) (τ ln : Nat → Nat) (y : Nat → Nat → Int32) (g : Nat → Nat → Option Nat) (u : Nat → Int) (b0 : Nat) (hI : IC a u τ ln y g) (h_b0 : τ b0 = 2) : Met l yX6_allWork wm_c_allWork ({ frames := 0, cells := 0, slots := 0, locals := 0 }) (pw_ ad av (dC, dI) sz [.ref b0] a k τ ln y g) (va_Qi (fun (r u : Int32) => u = r) (fun (r : Int32) (t : State) => (tw (dC, dI) a k τ ln y g t.heap)) (fr τ sz)) 0 0 (fr τ sz) := by
  refine Met.ofW (cc := cX6_allWork) (maxL := 1) (ret := (some .int)) (by decide) rfl ?_
  intro p e s m args below meth c s₁ B hml hv
  obtain ⟨rfl, hsz, hT, hK, hM⟩ := hv
  have hx := B.exec
  have hb := B.bytes
  have hr := B.returns
  have hts := atoms_spec (ws := wm_c_allWork) B.pre
  have hown : s.vm.findClass RX6 = some m.cls := findClass_of_methodNamed B.named
  have hlocks := B.notSynchronized
  subst hsz
  generalize hAe : fr τ s.heap.size = A at hM ⊢
  have hA : ∀ q : Nat, s.heap.size ≤ q → A q := fun q h => by rw [← hAe]; exact Or.inr h
  have hF : ∀ q, τ q ≠ 0 → A q := fun q h => by rw [← hAe]; exact Or.inl h
  have hS : va_S A s.heap s.heap [] := va_S.rf
  have hX := hI.1
  have hR := ic_r hI
  have hl := lv_entry ([.ref b0]) (n := 1) (Nat.le_of_ble_eq_true rfl)
  rw [lg_entry_eq]
  generalize (lg_sl ([.ref b0]) ++ List.replicate (1 - (lg_sl ([.ref b0])).length) Slot.unset).toArray = ls at hl ⊢
  have hl : lv_has ls 1 [(0, .ref b0)] := hl
  refine lv_bipush (v := 60) hx hb dX6_allWork_0 (by decide) ?_
  refine lv_aload_n hx hb dX6_allWork_2 rfl (lv_at hl 0 rfl) ?_
  refine tw_get (D := (dC, dI)) (v := .int (y b0 2)) (C := RX6) (T := TX6) (N := 11) hx hb hts (fun _ hh => (List.mem_cons_of_mem _ (List.mem_append_right _ (List.mem_append_left _ hh)))) hown hK hT h_b0 (by decide) cl_e2 rfl 2 (by decide) (hts (.fieldLink RX6 9 "TypingPool$Piece" "lines" "I") (List.mem_cons_of_mem _ (List.mem_append_left _ (List.mem_of_getElem? (i := 0) rfl)))) (fun _ h9 => h9) rfl dX6_allWork_3 ?_
  refine lv_imul hx hb dX6_allWork_6 ?_
  refine lv_topi (fun x_1 ex_1 => ?_)
  refine lv_iconst (v := 2) hx hb dX6_allWork_7 (by decide) ?_
  refine lv_aload_n hx hb dX6_allWork_8 rfl (lv_at hl 0 rfl) ?_
  refine tw_get (D := (dC, dI)) (v := .int (y b0 2)) (C := RX6) (T := TX6) (N := 11) hx hb hts (fun _ hh => (List.mem_cons_of_mem _ (List.mem_append_right _ (List.mem_append_left _ hh)))) hown hK hT h_b0 (by decide) cl_e2 rfl 2 (by decide) (hts (.fieldLink RX6 9 "TypingPool$Piece" "lines" "I") (List.mem_cons_of_mem _ (List.mem_append_left _ (List.mem_of_getElem? (i := 0) rfl)))) (fun _ h9 => h9) rfl dX6_allWork_9 ?_
  refine lv_imul hx hb dX6_allWork_12 ?_
  refine lv_topi (fun x_2 ex_2 => ?_)
  refine lv_aload_n hx hb dX6_allWork_13 rfl (lv_at hl 0 rfl) ?_
  refine tw_get (D := (dC, dI)) (v := .int (y b0 8)) (C := RX6) (T := TX6) (N := 11) hx hb hts (fun _ hh => (List.mem_cons_of_mem _ (List.mem_append_right _ (List.mem_append_left _ hh)))) hown hK hT h_b0 (by decide) cl_e2 rfl 8 (by decide) (hts (.fieldLink RX6 15 "TypingPool$Piece" "copies" "I") (List.mem_cons_of_mem _ (List.mem_append_left _ (List.mem_of_getElem? (i := 1) rfl)))) (fun _ h9 => h9) rfl dX6_allWork_14 ?_
  refine lv_imul hx hb dX6_allWork_17 ?_
  refine lv_topi (fun x_3 ex_3 => ?_)
  refine lv_iadd hx hb dX6_allWork_18 ?_
  refine lv_topi (fun x_4 ex_4 => ?_)
  exact W.iret (v := x_4) hx hb hr (fun t ht hW9 => ⟨⟨x_4, x_4, rfl, rfl, (tw_at ht hT)⟩, hS.F ht⟩) hS.2.2 dX6_allWork_19
def wo_c_unknownTo : List Cond := [.fieldLink RX6 18 "TypingPool$Piece" "words" "I", .methodLink RX6 21 yJ6_bitCount_0f7a4, .static yJ6_bitCount_0f7a4, .initialized RJ6]
def wm_c_unknownTo : List Cond := .code yX6_unknownTo cX6_unknownTo 2 (some .int) :: (wo_c_unknownTo ++ (wsX60 ++ (wm_c_bitCount ++ ([] : List Cond))))
theorem gd_c_unknownTo : ∀ w ∈ wm_c_unknownTo, goodWord w = true := gd_c rfl (gd_a (by decide) (gd_a gd_wsX60 (gd_a gd_c_bitCount gd_nil)))
set_option maxRecDepth 20000 in
theorem im_c_unknownTo : ∀ w ∈ wm_c_unknownTo, w ∈ lw_tbl := im_c (in_r [.code yX6_unknownTo cX6_unknownTo 2 (some .int)] [804] (by decide +kernel)) (in_app (in_r wo_c_unknownTo [685, 805, 806, 90] (by decide +kernel)) (in_app im_wsX60 (in_app im_c_bitCount im_nil)))
set_option maxHeartbeats 4000000 in
set_option maxRecDepth 100000 in
theorem c_unknownTo (l : Launch) (dC : Nat → ClassId) (dI : Nat → Nat → Nat) (ad av : Nat → Nat) (sz : Nat) (a : Nat → Nat) (k : Nat → ClassId) (τ ln : Nat → Nat) (y : Nat → Nat → Int32) (g : Nat → Nat → Option Nat) (u : Nat → Int) (b0 : Nat) (p0 : Int32) (hI : IC a u τ ln y g) (h_b0 : τ b0 = 2) : Met l yX6_unknownTo wm_c_unknownTo ({ frames := 1, cells := 0, slots := 0, locals := 60 }) (pw_ ad av (dC, dI) sz [.ref b0, .int p0] a k τ ln y g) (va_Qi (fun (r u : Int32) => u = r) (fun (r : Int32) (t : State) => (0 ≤ r.toInt ∧ r.toInt ≤ 63 ∧ tw (dC, dI) a k τ ln y g t.heap)) (fr τ sz)) 0 0 (fr τ sz) := by
  refine Met.ofW (cc := cX6_unknownTo) (maxL := 2) (ret := (some .int)) (by decide) rfl ?_
  intro p e s m args below meth c s₁ B hml hv
  obtain ⟨rfl, hsz, hT, hK, hM⟩ := hv
  have hx := B.exec
  have hb := B.bytes
  have hr := B.returns
  have hts := atoms_spec (ws := wm_c_unknownTo) B.pre
  have hown : s.vm.findClass RX6 = some m.cls := findClass_of_methodNamed B.named
  have hlocks := B.notSynchronized
  subst hsz
  generalize hAe : fr τ s.heap.size = A at hM ⊢
  have hA : ∀ q : Nat, s.heap.size ≤ q → A q := fun q h => by rw [← hAe]; exact Or.inr h
  have hF : ∀ q, τ q ≠ 0 → A q := fun q h => by rw [← hAe]; exact Or.inl h
  have hS : va_S A s.heap s.heap [] := va_S.rf
  have hX := hI.1
  have hR := ic_r hI
  have hl := lv_entry ([.ref b0, .int p0]) (n := 2) (Nat.le_of_ble_eq_true rfl)
  rw [lg_entry_eq]
  generalize (lg_sl ([.ref b0, .int p0]) ++ List.replicate (2 - (lg_sl ([.ref b0, .int p0])).length) Slot.unset).toArray = ls at hl ⊢
  have hl : lv_has ls 2 [(0, .ref b0), (1, .int p0)] := hl
  refine lv_aload_n hx hb dX6_unknownTo_0 rfl (lv_at hl 0 rfl) ?_
  refine tw_get (D := (dC, dI)) (v := .int (y b0 7)) (C := RX6) (T := TX6) (N := 11) hx hb hts (fun _ hh => (List.mem_cons_of_mem _ (List.mem_append_right _ (List.mem_append_left _ hh)))) hown hK hT h_b0 (by decide) cl_e2 rfl 7 (by decide) (hts (.fieldLink RX6 18 "TypingPool$Piece" "words" "I") (List.mem_cons_of_mem _ (List.mem_append_left _ (List.mem_of_getElem? (i := 0) rfl)))) (fun _ h9 => h9) rfl dX6_unknownTo_1 ?_
  refine lv_iload_n hx hb dX6_unknownTo_4 rfl (lv_at hl 1 rfl) ?_
  refine lv_iconst (v := (-1)) hx hb dX6_unknownTo_5 (by decide) ?_
  refine lv_ixor hx hb dX6_unknownTo_6 ?_
  refine lv_topi (fun x_1 ex_1 => ?_)
  refine lv_iand hx hb dX6_unknownTo_7 ?_
  refine lv_topi (fun x_2 ex_2 => ?_)
  have hFc := tw_free hF hS hA
  refine va_calli (va_runS (As := [.int x_2]) (rest := []) ⟨hx, hb, hml, hown, hts⟩ (c_bitCount l dC dI ad av s.heap.size a k τ ln y g u x_2  ) (va_cwS 1 hts (gi_3 (List.mem_cons_of_mem _ (List.mem_append_left _ (List.mem_of_getElem? (i := 1) rfl))) (List.mem_cons_of_mem _ (List.mem_append_left _ (List.mem_of_getElem? (i := 2) rfl))) (List.mem_cons_of_mem _ (List.mem_append_left _ (List.mem_of_getElem? (i := 3) rfl))) (fun _ hh => (List.mem_cons_of_mem _ (List.mem_append_right _ (List.mem_append_right _ (List.mem_append_left _ hh))))) gd_c_bitCount) rfl rfl rfl (by decide +kernel) ⟨Nat.le_of_ble_eq_true rfl, Nat.le_of_ble_eq_true rfl⟩) ⟨pw_blind, pw_use hT hK hFc hS hM⟩ rfl rfl hl.1 rfl (lv_room (Nat.le_of_ble_eq_true rfl)) dX6_unknownTo_8 ⟨Nat.le_of_ble_eq_true rfl, Nat.le_of_ble_eq_true rfl⟩) hS (fun q _ h => hFc q h) hFc (fun r0 r_3 t H locs ht hvm hw hB hz1 hk1 hS => ?_)
  refine W.widen (k := 0) (n := 0) (Nat.le_of_ble_eq_true rfl) (Nat.le_of_ble_eq_true rfl) ?_
  clear hvm hz1 hk1
  subst hw
  obtain ⟨hf_4, hf_5, hT⟩ := hB
  rw [ht] at hT
  have hrv : r_3.toInt = r_3.toInt := rfl
  exact W.iret (v := r_3) hx hb hr (fun t ht hW9 => ⟨⟨r_3, r_3, rfl, rfl, ⟨by omega, by omega, tw_at ht hT⟩⟩, hS.F ht⟩) hS.2.2 dX6_unknownTo_11
def wo_c_slipsLeft : List Cond := [.fieldLink RX6 27 "TypingPool$Piece" "foundByFirst" "I", .fieldLink RX6 30 "TypingPool$Piece" "foundBySecond" "I", .methodLink RX6 21 yJ6_bitCount_0f7a4, .static yJ6_bitCount_0f7a4, .initialized RJ6]
def wm_c_slipsLeft : List Cond := .code yX6_slipsLeft cX6_slipsLeft 4 (some .int) :: (wo_c_slipsLeft ++ (wsX60 ++ (wm_c_bitCount ++ ([] : List Cond))))
theorem gd_c_slipsLeft : ∀ w ∈ wm_c_slipsLeft, goodWord w = true := gd_c rfl (gd_a (by decide) (gd_a gd_wsX60 (gd_a gd_c_bitCount gd_nil)))
set_option maxRecDepth 20000 in
theorem im_c_slipsLeft : ∀ w ∈ wm_c_slipsLeft, w ∈ lw_tbl := im_c (in_r [.code yX6_slipsLeft cX6_slipsLeft 4 (some .int)] [987] (by decide +kernel)) (in_app (in_r wo_c_slipsLeft [692, 694, 805, 806, 90] (by decide +kernel)) (in_app im_wsX60 (in_app im_c_bitCount im_nil)))
set_option maxHeartbeats 4000000 in
set_option maxRecDepth 100000 in
theorem c_slipsLeft (l : Launch) (dC : Nat → ClassId) (dI : Nat → Nat → Nat) (ad av : Nat → Nat) (sz : Nat) (a : Nat → Nat) (k : Nat → ClassId) (τ ln : Nat → Nat) (y : Nat → Nat → Int32) (g : Nat → Nat → Option Nat) (u : Nat → Int) (b0 : Nat) (hI : IC a u τ ln y g) (h_b0 : τ b0 = 2) : Met l yX6_slipsLeft wm_c_slipsLeft ({ frames := 1, cells := 0, slots := 0, locals := 60 }) (pw_ ad av (dC, dI) sz [.ref b0] a k τ ln y g) (va_Qi (fun (r u : Int32) => u = r) (fun (r : Int32) (t : State) => (tw (dC, dI) a k τ ln y g t.heap)) (fr τ sz)) 0 0 (fr τ sz) := by
  refine Met.ofW (cc := cX6_slipsLeft) (maxL := 4) (ret := (some .int)) (by decide) rfl ?_
  intro p e s m args below meth c s₁ B hml hv
  obtain ⟨rfl, hsz, hT, hK, hM⟩ := hv
  have hx := B.exec
  have hb := B.bytes
  have hr := B.returns
  have hts := atoms_spec (ws := wm_c_slipsLeft) B.pre
  have hown : s.vm.findClass RX6 = some m.cls := findClass_of_methodNamed B.named
  have hlocks := B.notSynchronized
  subst hsz
  generalize hAe : fr τ s.heap.size = A at hM ⊢
  have hA : ∀ q : Nat, s.heap.size ≤ q → A q := fun q h => by rw [← hAe]; exact Or.inr h
  have hF : ∀ q, τ q ≠ 0 → A q := fun q h => by rw [← hAe]; exact Or.inl h
  have hS : va_S A s.heap s.heap [] := va_S.rf
  have hX := hI.1
  have hR := ic_r hI
  have hl := lv_entry ([.ref b0]) (n := 4) (Nat.le_of_ble_eq_true rfl)
  rw [lg_entry_eq]
  generalize (lg_sl ([.ref b0]) ++ List.replicate (4 - (lg_sl ([.ref b0])).length) Slot.unset).toArray = ls at hl ⊢
  have hl : lv_has ls 4 [(0, .ref b0)] := hl
  refine lv_aload_n hx hb dX6_slipsLeft_0 rfl (lv_at hl 0 rfl) ?_
  refine tw_get (D := (dC, dI)) (v := .int (y b0 9)) (C := RX6) (T := TX6) (N := 11) hx hb hts (fun _ hh => (List.mem_cons_of_mem _ (List.mem_append_right _ (List.mem_append_left _ hh)))) hown hK hT h_b0 (by decide) cl_e2 rfl 9 (by decide) (hts (.fieldLink RX6 27 "TypingPool$Piece" "foundByFirst" "I") (List.mem_cons_of_mem _ (List.mem_append_left _ (List.mem_of_getElem? (i := 0) rfl)))) (fun _ h9 => h9) rfl dX6_slipsLeft_1 ?_
  refine lv_aload_n hx hb dX6_slipsLeft_4 rfl (lv_at hl 0 rfl) ?_
  refine tw_get (D := (dC, dI)) (v := .int (y b0 10)) (C := RX6) (T := TX6) (N := 11) hx hb hts (fun _ hh => (List.mem_cons_of_mem _ (List.mem_append_right _ (List.mem_append_left _ hh)))) hown hK hT h_b0 (by decide) cl_e2 rfl 10 (by decide) (hts (.fieldLink RX6 30 "TypingPool$Piece" "foundBySecond" "I") (List.mem_cons_of_mem _ (List.mem_append_left _ (List.mem_of_getElem? (i := 1) rfl)))) (fun _ h9 => h9) rfl dX6_slipsLeft_5 ?_
  refine lv_iand hx hb dX6_slipsLeft_8 ?_
  refine lv_topi (fun x_1 ex_1 => ?_)
  have hFc := tw_free hF hS hA
  refine va_calli (va_runS (As := [.int x_1]) (rest := []) ⟨hx, hb, hml, hown, hts⟩ (c_bitCount l dC dI ad av s.heap.size a k τ ln y g u x_1  ) (va_cwS 1 hts (gi_3 (List.mem_cons_of_mem _ (List.mem_append_left _ (List.mem_of_getElem? (i := 2) rfl))) (List.mem_cons_of_mem _ (List.mem_append_left _ (List.mem_of_getElem? (i := 3) rfl))) (List.mem_cons_of_mem _ (List.mem_append_left _ (List.mem_of_getElem? (i := 4) rfl))) (fun _ hh => (List.mem_cons_of_mem _ (List.mem_append_right _ (List.mem_append_right _ (List.mem_append_left _ hh))))) gd_c_bitCount) rfl rfl rfl (by decide +kernel) ⟨Nat.le_of_ble_eq_true rfl, Nat.le_of_ble_eq_true rfl⟩) ⟨pw_blind, pw_use hT hK hFc hS hM⟩ rfl rfl hl.1 rfl (lv_room (Nat.le_of_ble_eq_true rfl)) dX6_slipsLeft_9 ⟨Nat.le_of_ble_eq_true rfl, Nat.le_of_ble_eq_true rfl⟩) hS (fun q _ h => hFc q h) hFc (fun r0 r_2 t H locs ht hvm hw hB hz1 hk1 hS => ?_)
  refine W.widen (k := 0) (n := 0) (Nat.le_of_ble_eq_true rfl) (Nat.le_of_ble_eq_true rfl) ?_
  clear hvm hz1 hk1
  subst hw
  obtain ⟨hf_3, hf_4, hT⟩ := hB
  rw [ht] at hT
  refine lv_istore_n (lv' := [(1, .int r_2), (0, .ref b0)]) hx hb dX6_slipsLeft_12 rfl hl (by decide) rfl (fun ls hl => ?_)
  refine lv_iload_n hx hb dX6_slipsLeft_13 rfl (lv_at hl 0 rfl) ?_
  refine lv_if_ne (tgt := 19) hx hb dX6_slipsLeft_14 (by decide) (fun c_5 => ?_) (fun c_5 => ?_)
  · have nc_5 := z_ne rfl (zk (x := 0) 0 rfl) c_5
    refine lv_aload_n hx hb dX6_slipsLeft_19 rfl (lv_at hl 1 rfl) ?_
    refine tw_get (D := (dC, dI)) (v := .int (y b0 9)) (C := RX6) (T := TX6) (N := 11) hx hb hts (fun _ hh => (List.mem_cons_of_mem _ (List.mem_append_right _ (List.mem_append_left _ hh)))) hown hK hT h_b0 (by decide) cl_e2 rfl 9 (by decide) (hts (.fieldLink RX6 27 "TypingPool$Piece" "foundByFirst" "I") (List.mem_cons_of_mem _ (List.mem_append_left _ (List.mem_of_getElem? (i := 0) rfl)))) (fun _ h9 => h9) rfl dX6_slipsLeft_20 ?_
    refine lv_aload_n hx hb dX6_slipsLeft_23 rfl (lv_at hl 1 rfl) ?_
    refine tw_get (D := (dC, dI)) (v := .int (y b0 10)) (C := RX6) (T := TX6) (N := 11) hx hb hts (fun _ hh => (List.mem_cons_of_mem _ (List.mem_append_right _ (List.mem_append_left _ hh)))) hown hK hT h_b0 (by decide) cl_e2 rfl 10 (by decide) (hts (.fieldLink RX6 30 "TypingPool$Piece" "foundBySecond" "I") (List.mem_cons_of_mem _ (List.mem_append_left _ (List.mem_of_getElem? (i := 1) rfl)))) (fun _ h9 => h9) rfl dX6_slipsLeft_24 ?_
    refine lv_iconst (v := (-1)) hx hb dX6_slipsLeft_27 (by decide) ?_
    refine lv_ixor hx hb dX6_slipsLeft_28 ?_
    refine lv_topi (fun x_6 ex_6 => ?_)
    refine lv_iand hx hb dX6_slipsLeft_29 ?_
    refine lv_topi (fun x_7 ex_7 => ?_)
    have hFc := tw_free hF hS hA
    refine va_calli (va_runS (As := [.int x_7]) (rest := []) ⟨hx, hb, hml, hown, hts⟩ (c_bitCount l dC dI ad av H.size a k τ ln y g u x_7  ) (va_cwS 1 hts (gi_3 (List.mem_cons_of_mem _ (List.mem_append_left _ (List.mem_of_getElem? (i := 2) rfl))) (List.mem_cons_of_mem _ (List.mem_append_left _ (List.mem_of_getElem? (i := 3) rfl))) (List.mem_cons_of_mem _ (List.mem_append_left _ (List.mem_of_getElem? (i := 4) rfl))) (fun _ hh => (List.mem_cons_of_mem _ (List.mem_append_right _ (List.mem_append_right _ (List.mem_append_left _ hh))))) gd_c_bitCount) rfl rfl rfl (by decide +kernel) ⟨Nat.le_of_ble_eq_true rfl, Nat.le_of_ble_eq_true rfl⟩) ⟨pw_blind, pw_use hT hK hFc hS hM⟩ rfl rfl hl.1 rfl (lv_room (Nat.le_of_ble_eq_true rfl)) dX6_slipsLeft_30 ⟨Nat.le_of_ble_eq_true rfl, Nat.le_of_ble_eq_true rfl⟩) hS (fun q _ h => hFc q h) hFc (fun r0 r_8 t H locs ht hvm hw hB hz1 hk1 hS => ?_)
    refine W.widen (k := 0) (n := 0) (Nat.le_of_ble_eq_true rfl) (Nat.le_of_ble_eq_true rfl) ?_
    clear hvm hz1 hk1
    subst hw
    obtain ⟨hf_9, hf_10, hT⟩ := hB
    rw [ht] at hT
    refine lv_istore_n (lv' := [(2, .int r_8), (1, .int r_2), (0, .ref b0)]) hx hb dX6_slipsLeft_33 rfl hl (by decide) rfl (fun ls hl => ?_)
    refine lv_aload_n hx hb dX6_slipsLeft_34 rfl (lv_at hl 2 rfl) ?_
    refine tw_get (D := (dC, dI)) (v := .int (y b0 10)) (C := RX6) (T := TX6) (N := 11) hx hb hts (fun _ hh => (List.mem_cons_of_mem _ (List.mem_append_right _ (List.mem_append_left _ hh)))) hown hK hT h_b0 (by decide) cl_e2 rfl 10 (by decide) (hts (.fieldLink RX6 30 "TypingPool$Piece" "foundBySecond" "I") (List.mem_cons_of_mem _ (List.mem_append_left _ (List.mem_of_getElem? (i := 1) rfl)))) (fun _ h9 => h9) rfl dX6_slipsLeft_35 ?_
    refine lv_aload_n hx hb dX6_slipsLeft_38 rfl (lv_at hl 2 rfl) ?_
    refine tw_get (D := (dC, dI)) (v := .int (y b0 9)) (C := RX6) (T := TX6) (N := 11) hx hb hts (fun _ hh => (List.mem_cons_of_mem _ (List.mem_append_right _ (List.mem_append_left _ hh)))) hown hK hT h_b0 (by decide) cl_e2 rfl 9 (by decide) (hts (.fieldLink RX6 27 "TypingPool$Piece" "foundByFirst" "I") (List.mem_cons_of_mem _ (List.mem_append_left _ (List.mem_of_getElem? (i := 0) rfl)))) (fun _ h9 => h9) rfl dX6_slipsLeft_39 ?_
    refine lv_iconst (v := (-1)) hx hb dX6_slipsLeft_42 (by decide) ?_
    refine lv_ixor hx hb dX6_slipsLeft_43 ?_
    refine lv_topi (fun x_11 ex_11 => ?_)
    refine lv_iand hx hb dX6_slipsLeft_44 ?_
    refine lv_topi (fun x_12 ex_12 => ?_)
    have hFc := tw_free hF hS hA
    refine va_calli (va_runS (As := [.int x_12]) (rest := []) ⟨hx, hb, hml, hown, hts⟩ (c_bitCount l dC dI ad av H.size a k τ ln y g u x_12  ) (va_cwS 1 hts (gi_3 (List.mem_cons_of_mem _ (List.mem_append_left _ (List.mem_of_getElem? (i := 2) rfl))) (List.mem_cons_of_mem _ (List.mem_append_left _ (List.mem_of_getElem? (i := 3) rfl))) (List.mem_cons_of_mem _ (List.mem_append_left _ (List.mem_of_getElem? (i := 4) rfl))) (fun _ hh => (List.mem_cons_of_mem _ (List.mem_append_right _ (List.mem_append_right _ (List.mem_append_left _ hh))))) gd_c_bitCount) rfl rfl rfl (by decide +kernel) ⟨Nat.le_of_ble_eq_true rfl, Nat.le_of_ble_eq_true rfl⟩) ⟨pw_blind, pw_use hT hK hFc hS hM⟩ rfl rfl hl.1 rfl (lv_room (Nat.le_of_ble_eq_true rfl)) dX6_slipsLeft_45 ⟨Nat.le_of_ble_eq_true rfl, Nat.le_of_ble_eq_true rfl⟩) hS (fun q _ h => hFc q h) hFc (fun r0 r_13 t H locs ht hvm hw hB hz1 hk1 hS => ?_)
    refine W.widen (k := 0) (n := 0) (Nat.le_of_ble_eq_true rfl) (Nat.le_of_ble_eq_true rfl) ?_
    clear hvm hz1 hk1
    subst hw
    obtain ⟨hf_14, hf_15, hT⟩ := hB
    rw [ht] at hT
    refine lv_istore_n (lv' := [(3, .int r_13), (2, .int r_8), (1, .int r_2), (0, .ref b0)]) hx hb dX6_slipsLeft_48 rfl hl (by decide) rfl (fun ls hl => ?_)
    refine lv_iload_n hx hb dX6_slipsLeft_49 rfl (lv_at hl 1 rfl) ?_
    refine lv_iload_n hx hb dX6_slipsLeft_50 rfl (lv_at hl 0 rfl) ?_
    refine lv_imul hx hb dX6_slipsLeft_51 ?_
    refine lv_topi (fun x_16 ex_16 => ?_)
    refine lv_iload_n hx hb dX6_slipsLeft_52 rfl (lv_at hl 2 rfl) ?_
    refine lv_idiv hx hb dX6_slipsLeft_53 (z_n0 rfl (by omega)) ?_
    refine lv_topi (fun x_17 ex_17 => ?_)
    exact W.iret (v := x_17) hx hb hr (fun t ht hW9 => ⟨⟨x_17, x_17, rfl, rfl, (tw_at ht hT)⟩, hS.F ht⟩) hS.2.2 dX6_slipsLeft_54
  · have nc_5 := z_eq rfl (zk (x := 0) 0 rfl) c_5
    refine lv_iconst (v := (-1)) hx hb dX6_slipsLeft_17 (by decide) ?_
    exact W.iret (v := (-1)) hx hb hr (fun t ht hW9 => ⟨⟨(-1), (-1), rfl, rfl, (tw_at ht hT)⟩, hS.F ht⟩) hS.2.2 dX6_slipsLeft_18
def wo_c_today : List Cond := [.fieldLink RX3 9 "TypingPool$Floor" "now" "I"]
def wm_c_today : List Cond := .code yX3_today cX3_today 1 (some .int) :: (wo_c_today ++ (wsX30 ++ ([] : List Cond)))
theorem gd_c_today : ∀ w ∈ wm_c_today, goodWord w = true := gd_c rfl (gd_a (by decide) (gd_a gd_wsX30 gd_nil))
set_option maxRecDepth 20000 in
theorem im_c_today : ∀ w ∈ wm_c_today, w ∈ lw_tbl := im_c (in_r [.code yX3_today cX3_today 1 (some .int)] [778] (by decide +kernel)) (in_app (in_r wo_c_today [428] (by decide +kernel)) (in_app im_wsX30 im_nil))
set_option maxHeartbeats 4000000 in
set_option maxRecDepth 100000 in
theorem c_today (l : Launch) (dC : Nat → ClassId) (dI : Nat → Nat → Nat) (ad av : Nat → Nat) (sz : Nat) (a : Nat → Nat) (k : Nat → ClassId) (τ ln : Nat → Nat) (y : Nat → Nat → Int32) (g : Nat → Nat → Option Nat) (u : Nat → Int) (hI : IC a u τ ln y g) : Met l yX3_today wm_c_today ({ frames := 0, cells := 0, slots := 0, locals := 0 }) (pw_ ad av (dC, dI) sz [.ref (a 3)] a k τ ln y g) (va_Qi (fun (r u : Int32) => u = r) (fun (r : Int32) (t : State) => (tw (dC, dI) a k τ ln y g t.heap)) (fr τ sz)) 0 0 (fr τ sz) := by
  refine Met.ofW (cc := cX3_today) (maxL := 1) (ret := (some .int)) (by decide) rfl ?_
  intro p e s m args below meth c s₁ B hml hv
  obtain ⟨rfl, hsz, hT, hK, hM⟩ := hv
  have hx := B.exec
  have hb := B.bytes
  have hr := B.returns
  have hts := atoms_spec (ws := wm_c_today) B.pre
  have hown : s.vm.findClass RX3 = some m.cls := findClass_of_methodNamed B.named
  have hlocks := B.notSynchronized
  subst hsz
  generalize hAe : fr τ s.heap.size = A at hM ⊢
  have hA : ∀ q : Nat, s.heap.size ≤ q → A q := fun q h => by rw [← hAe]; exact Or.inr h
  have hF : ∀ q, τ q ≠ 0 → A q := fun q h => by rw [← hAe]; exact Or.inl h
  have hS : va_S A s.heap s.heap [] := va_S.rf
  have hX := hI.1
  have hR := ic_r hI
  have hl := lv_entry ([.ref (a 3)]) (n := 1) (Nat.le_of_ble_eq_true rfl)
  rw [lg_entry_eq]
  generalize (lg_sl ([.ref (a 3)]) ++ List.replicate (1 - (lg_sl ([.ref (a 3)])).length) Slot.unset).toArray = ls at hl ⊢
  have hl : lv_has ls 1 [(0, .ref (a 3))] := hl
  refine lv_aload_n hx hb dX3_today_0 rfl (lv_at hl 0 rfl) ?_
  refine tw_get (D := (dC, dI)) (v := .int (y (a 3) 2)) (C := RX3) (T := TX3) (N := 12) hx hb hts (fun _ hh => (List.mem_cons_of_mem _ (List.mem_append_right _ (List.mem_append_left _ hh)))) hown hK hT (fx_3 hX) (by decide) cl_e13 rfl 2 (by decide) (hts (.fieldLink RX3 9 "TypingPool$Floor" "now" "I") (List.mem_cons_of_mem _ (List.mem_append_left _ (List.mem_of_getElem? (i := 0) rfl)))) (fun _ h9 => h9) rfl dX3_today_1 ?_
  refine lv_sipush (v := 480) hx hb dX3_today_4 (by decide) ?_
  refine lv_idiv hx hb dX3_today_7 (by decide) ?_
  refine lv_topi (fun x_1 ex_1 => ?_)
  exact W.iret (v := x_1) hx hb hr (fun t ht hW9 => ⟨⟨x_1, x_1, rfl, rfl, (tw_at ht hT)⟩, hS.F ht⟩) hS.2.2 dX3_today_8
def wo_c_stateOf : List Cond := [.fieldLink RX3 34 "TypingPool$Floor" "done" "[I", .fieldLink RX3 31 "TypingPool$Floor" "taken" "[I", .fieldLink RX3 43 "TypingPool$Floor" "book" "LTypingPool$Book;", .fieldLink RX3 103 "TypingPool$Book" "pieces" "[LTypingPool$Piece;", .fieldLink RX3 184 "TypingPool$Piece" "comes" "I", .fieldLink RX3 9 "TypingPool$Floor" "now" "I"]
def wm_c_stateOf : List Cond := .code yX3_stateOf cX3_stateOf 2 (some .int) :: (wo_c_stateOf ++ (wsX30 ++ (wsX10 ++ (wsX60 ++ ([] : List Cond)))))
theorem gd_c_stateOf : ∀ w ∈ wm_c_stateOf, goodWord w = true := gd_c rfl (gd_a (by decide) (gd_a gd_wsX30 (gd_a gd_wsX10 (gd_a gd_wsX60 gd_nil))))
set_option maxRecDepth 20000 in
theorem im_c_stateOf : ∀ w ∈ wm_c_stateOf, w ∈ lw_tbl := im_c (in_r [.code yX3_stateOf cX3_stateOf 2 (some .int)] [770] (by decide +kernel)) (in_app (in_r wo_c_stateOf [446, 444, 426, 130, 681, 428] (by decide +kernel)) (in_app im_wsX30 (in_app im_wsX10 (in_app im_wsX60 im_nil))))
set_option maxHeartbeats 4000000 in
set_option maxRecDepth 100000 in
theorem c_stateOf (l : Launch) (dC : Nat → ClassId) (dI : Nat → Nat → Nat) (ad av : Nat → Nat) (sz : Nat) (a : Nat → Nat) (k : Nat → ClassId) (τ ln : Nat → Nat) (y : Nat → Nat → Int32) (g : Nat → Nat → Option Nat) (u : Nat → Int) (p0 : Int32) (hI : IC a u τ ln y g) (hlp0 : 0 ≤ p0.toInt) (hup0 : p0.toInt < u 2) : Met l yX3_stateOf wm_c_stateOf ({ frames := 0, cells := 0, slots := 0, locals := 0 }) (pw_ ad av (dC, dI) sz [.ref (a 3), .int p0] a k τ ln y g) (va_Qi (fun (r u : Int32) => u = r) (fun (r : Int32) (t : State) => (tw (dC, dI) a k τ ln y g t.heap)) (fr τ sz)) 0 0 (fr τ sz) := by
  refine Met.ofW (cc := cX3_stateOf) (maxL := 2) (ret := (some .int)) (by decide) rfl ?_
  intro p e s m args below meth c s₁ B hml hv
  obtain ⟨rfl, hsz, hT, hK, hM⟩ := hv
  have hx := B.exec
  have hb := B.bytes
  have hr := B.returns
  have hts := atoms_spec (ws := wm_c_stateOf) B.pre
  have hown : s.vm.findClass RX3 = some m.cls := findClass_of_methodNamed B.named
  have hlocks := B.notSynchronized
  subst hsz
  generalize hAe : fr τ s.heap.size = A at hM ⊢
  have hA : ∀ q : Nat, s.heap.size ≤ q → A q := fun q h => by rw [← hAe]; exact Or.inr h
  have hF : ∀ q, τ q ≠ 0 → A q := fun q h => by rw [← hAe]; exact Or.inl h
  have hS : va_S A s.heap s.heap [] := va_S.rf
  have hX := hI.1
  have hR := ic_r hI
  have hl := lv_entry ([.ref (a 3), .int p0]) (n := 2) (Nat.le_of_ble_eq_true rfl)
  rw [lg_entry_eq]
  generalize (lg_sl ([.ref (a 3), .int p0]) ++ List.replicate (2 - (lg_sl ([.ref (a 3), .int p0])).length) Slot.unset).toArray = ls at hl ⊢
  have hl : lv_has ls 2 [(0, .ref (a 3)), (1, .int p0)] := hl
  refine lv_aload_n hx hb dX3_stateOf_0 rfl (lv_at hl 0 rfl) ?_
  refine tw_get (D := (dC, dI)) (v := .ref (a 26)) (C := RX3) (T := TX3) (N := 12) hx hb hts (fun _ hh => (List.mem_cons_of_mem _ (List.mem_append_right _ (List.mem_append_left _ hh)))) hown hK hT (fx_3 hX) (by decide) cl_e13 rfl 9 (by decide) (hts (.fieldLink RX3 34 "TypingPool$Floor" "done" "[I") (List.mem_cons_of_mem _ (List.mem_append_left _ (List.mem_of_getElem? (i := 0) rfl)))) (fun _ h9 => h9) rfl dX3_stateOf_1 ?_
  refine lv_iload_n hx hb dX3_stateOf_4 rfl (lv_at hl 1 rfl) ?_
  refine tw_iald hx hb hK hT 0 (fx_26 hX) (by decide) cl_e36 rfl (z_in rfl (by omega) (by omega)) dX3_stateOf_5 ?_
  refine lv_iconst (v := (-1)) hx hb dX3_stateOf_6 (by decide) ?_
  refine lv_icmp_eq (tgt := 12) hx hb dX3_stateOf_7 (by decide) (fun c_1 => ?_) (fun c_1 => ?_)
  · have nc_1 := z_eq rfl (zk (x := (-1)) (-1) rfl) c_1
    refine lv_aload_n hx hb dX3_stateOf_12 rfl (lv_at hl 0 rfl) ?_
    refine tw_get (D := (dC, dI)) (v := .ref (a 25)) (C := RX3) (T := TX3) (N := 12) hx hb hts (fun _ hh => (List.mem_cons_of_mem _ (List.mem_append_right _ (List.mem_append_left _ hh)))) hown hK hT (fx_3 hX) (by decide) cl_e13 rfl 8 (by decide) (hts (.fieldLink RX3 31 "TypingPool$Floor" "taken" "[I") (List.mem_cons_of_mem _ (List.mem_append_left _ (List.mem_of_getElem? (i := 1) rfl)))) (fun _ h9 => h9) rfl dX3_stateOf_13 ?_
    refine lv_iload_n hx hb dX3_stateOf_16 rfl (lv_at hl 1 rfl) ?_
    refine tw_iald hx hb hK hT 0 (fx_25 hX) (by decide) cl_e35 rfl (z_in rfl (by omega) (by omega)) dX3_stateOf_17 ?_
    refine lv_iconst (v := (-1)) hx hb dX3_stateOf_18 (by decide) ?_
    refine lv_icmp_eq (tgt := 24) hx hb dX3_stateOf_19 (by decide) (fun c_2 => ?_) (fun c_2 => ?_)
    · have nc_2 := z_eq rfl (zk (x := (-1)) (-1) rfl) c_2
      refine lv_aload_n hx hb dX3_stateOf_24 rfl (lv_at hl 0 rfl) ?_
      refine tw_get (D := (dC, dI)) (v := .ref (a 1)) (C := RX3) (T := TX3) (N := 12) hx hb hts (fun _ hh => (List.mem_cons_of_mem _ (List.mem_append_right _ (List.mem_append_left _ hh)))) hown hK hT (fx_3 hX) (by decide) cl_e13 rfl 0 (by decide) (hts (.fieldLink RX3 43 "TypingPool$Floor" "book" "LTypingPool$Book;") (List.mem_cons_of_mem _ (List.mem_append_left _ (List.mem_of_getElem? (i := 2) rfl)))) (fun _ h9 => h9) rfl dX3_stateOf_25 ?_
      refine tw_get (D := (dC, dI)) (v := .ref (a 11)) (C := RX1) (T := TX1) (N := 8) hx hb hts (fun _ hh => (List.mem_cons_of_mem _ (List.mem_append_right _ (List.mem_append_right _ (List.mem_append_left _ hh))))) hown hK hT (fx_1 hX) (by decide) cl_e11 rfl 4 (by decide) (hts (.fieldLink RX3 103 "TypingPool$Book" "pieces" "[LTypingPool$Piece;") (List.mem_cons_of_mem _ (List.mem_append_left _ (List.mem_of_getElem? (i := 3) rfl)))) (fun _ h9 => h9) rfl dX3_stateOf_28 ?_
      refine lv_iload_n hx hb dX3_stateOf_31 rfl (lv_at hl 1 rfl) ?_
      refine tw_aald hx hb hK hT 4 (fx_11 hX) (by decide) cl_e21 rfl (z_in rfl (by omega) (by omega)) dX3_stateOf_32 ?_
      obtain ⟨q_3, hgq_3, htq_3⟩ := ic_l11 hI (x := p0) rfl (by omega) (by omega)
      refine lq_topr hgq_3 ?_
      refine tw_get (D := (dC, dI)) (v := .int (y q_3 5)) (C := RX6) (T := TX6) (N := 11) hx hb hts (fun _ hh => (List.mem_cons_of_mem _ (List.mem_append_right _ (List.mem_append_right _ (List.mem_append_right _ (List.mem_append_left _ hh)))))) hown hK hT htq_3 (by decide) cl_e2 rfl 5 (by decide) (hts (.fieldLink RX3 184 "TypingPool$Piece" "comes" "I") (List.mem_cons_of_mem _ (List.mem_append_left _ (List.mem_of_getElem? (i := 4) rfl)))) (fun _ h9 => h9) rfl dX3_stateOf_33 ?_
      refine lv_aload_n hx hb dX3_stateOf_36 rfl (lv_at hl 0 rfl) ?_
      refine tw_get (D := (dC, dI)) (v := .int (y (a 3) 2)) (C := RX3) (T := TX3) (N := 12) hx hb hts (fun _ hh => (List.mem_cons_of_mem _ (List.mem_append_right _ (List.mem_append_left _ hh)))) hown hK hT (fx_3 hX) (by decide) cl_e13 rfl 2 (by decide) (hts (.fieldLink RX3 9 "TypingPool$Floor" "now" "I") (List.mem_cons_of_mem _ (List.mem_append_left _ (List.mem_of_getElem? (i := 5) rfl)))) (fun _ h9 => h9) rfl dX3_stateOf_37 ?_
      refine lv_icmp_gt (tgt := 47) hx hb dX3_stateOf_40 (by decide) (fun c_4 => ?_) (fun c_4 => ?_)
      · have nc_4 := z_lt rfl rfl c_4
        refine lv_iconst (v := 0) hx hb dX3_stateOf_47 (by decide) ?_
        exact W.iret (v := 0) hx hb hr (fun t ht hW9 => ⟨⟨0, 0, rfl, rfl, (tw_at ht hT)⟩, hS.F ht⟩) hS.2.2 dX3_stateOf_48
      · have nc_4 := z_nlt rfl rfl c_4
        refine lv_iconst (v := 1) hx hb dX3_stateOf_43 (by decide) ?_
        refine lv_goto (tgt := 48) hx hb dX3_stateOf_44 (by decide) ?_
        exact W.iret (v := 1) hx hb hr (fun t ht hW9 => ⟨⟨1, 1, rfl, rfl, (tw_at ht hT)⟩, hS.F ht⟩) hS.2.2 dX3_stateOf_48
    · have nc_2 := z_ne rfl (zk (x := (-1)) (-1) rfl) c_2
      refine lv_iconst (v := 2) hx hb dX3_stateOf_22 (by decide) ?_
      exact W.iret (v := 2) hx hb hr (fun t ht hW9 => ⟨⟨2, 2, rfl, rfl, (tw_at ht hT)⟩, hS.F ht⟩) hS.2.2 dX3_stateOf_23
  · have nc_1 := z_ne rfl (zk (x := (-1)) (-1) rfl) c_1
    refine lv_iconst (v := 3) hx hb dX3_stateOf_10 (by decide) ?_
    exact W.iret (v := 3) hx hb hr (fun t ht hW9 => ⟨⟨3, 3, rfl, rfl, (tw_at ht hT)⟩, hS.F ht⟩) hS.2.2 dX3_stateOf_11
def wo_c_isDoneBy : List Cond := [.fieldLink RX3 34 "TypingPool$Floor" "done" "[I", .fieldLink RX3 28 "TypingPool$Floor" "by" "[I"]
def wm_c_isDoneBy : List Cond := .code yX3_isDoneBy cX3_isDoneBy 3 (some .boolean) :: (wo_c_isDoneBy ++ (wsX30 ++ ([] : List Cond)))
theorem gd_c_isDoneBy : ∀ w ∈ wm_c_isDoneBy, goodWord w = true := gd_c rfl (gd_a (by decide) (gd_a gd_wsX30 gd_nil))
set_option maxRecDepth 20000 in
theorem im_c_isDoneBy : ∀ w ∈ wm_c_isDoneBy, w ∈ lw_tbl := im_c (in_r [.code yX3_isDoneBy cX3_isDoneBy 3 (some .boolean)] [969] (by decide +kernel)) (in_app (in_r wo_c_isDoneBy [446, 442] (by decide +kernel)) (in_app im_wsX30 im_nil))
set_option maxHeartbeats 4000000 in
set_option maxRecDepth 100000 in
theorem c_isDoneBy (l : Launch) (dC : Nat → ClassId) (dI : Nat → Nat → Nat) (ad av : Nat → Nat) (sz : Nat) (a : Nat → Nat) (k : Nat → ClassId) (τ ln : Nat → Nat) (y : Nat → Nat → Int32) (g : Nat → Nat → Option Nat) (u : Nat → Int) (p0 : Int32) (p1 : Int32) (hI : IC a u τ ln y g) (hlp0 : 0 ≤ p0.toInt) (hup0 : p0.toInt < u 2) : Met l yX3_isDoneBy wm_c_isDoneBy ({ frames := 0, cells := 0, slots := 0, locals := 0 }) (pw_ ad av (dC, dI) sz [.ref (a 3), .int p0, .int p1] a k τ ln y g) (va_Qi (fun (r u : Int32) => u = r) (fun (r : Int32) (t : State) => (r = 1 ∧ tw (dC, dI) a k τ ln y g t.heap) ∨ (r = 0 ∧ tw (dC, dI) a k τ ln y g t.heap)) (fr τ sz)) 0 0 (fr τ sz) := by
  refine Met.ofW (cc := cX3_isDoneBy) (maxL := 3) (ret := (some .boolean)) (by decide) rfl ?_
  intro p e s m args below meth c s₁ B hml hv
  obtain ⟨rfl, hsz, hT, hK, hM⟩ := hv
  have hx := B.exec
  have hb := B.bytes
  have hr := B.returns
  have hts := atoms_spec (ws := wm_c_isDoneBy) B.pre
  have hown : s.vm.findClass RX3 = some m.cls := findClass_of_methodNamed B.named
  have hlocks := B.notSynchronized
  subst hsz
  generalize hAe : fr τ s.heap.size = A at hM ⊢
  have hA : ∀ q : Nat, s.heap.size ≤ q → A q := fun q h => by rw [← hAe]; exact Or.inr h
  have hF : ∀ q, τ q ≠ 0 → A q := fun q h => by rw [← hAe]; exact Or.inl h
  have hS : va_S A s.heap s.heap [] := va_S.rf
  have hX := hI.1
  have hR := ic_r hI
  have hl := lv_entry ([.ref (a 3), .int p0, .int p1]) (n := 3) (Nat.le_of_ble_eq_true rfl)
  rw [lg_entry_eq]
  generalize (lg_sl ([.ref (a 3), .int p0, .int p1]) ++ List.replicate (3 - (lg_sl ([.ref (a 3), .int p0, .int p1])).length) Slot.unset).toArray = ls at hl ⊢
  have hl : lv_has ls 3 [(0, .ref (a 3)), (1, .int p0), (2, .int p1)] := hl
  refine lv_aload_n hx hb dX3_isDoneBy_0 rfl (lv_at hl 0 rfl) ?_
  refine tw_get (D := (dC, dI)) (v := .ref (a 26)) (C := RX3) (T := TX3) (N := 12) hx hb hts (fun _ hh => (List.mem_cons_of_mem _ (List.mem_append_right _ (List.mem_append_left _ hh)))) hown hK hT (fx_3 hX) (by decide) cl_e13 rfl 9 (by decide) (hts (.fieldLink RX3 34 "TypingPool$Floor" "done" "[I") (List.mem_cons_of_mem _ (List.mem_append_left _ (List.mem_of_getElem? (i := 0) rfl)))) (fun _ h9 => h9) rfl dX3_isDoneBy_1 ?_
  refine lv_iload_n hx hb dX3_isDoneBy_4 rfl (lv_at hl 1 rfl) ?_
  refine tw_iald hx hb hK hT 0 (fx_26 hX) (by decide) cl_e36 rfl (z_in rfl (by omega) (by omega)) dX3_isDoneBy_5 ?_
  refine lv_iconst (v := (-1)) hx hb dX3_isDoneBy_6 (by decide) ?_
  refine lv_icmp_eq (tgt := 24) hx hb dX3_isDoneBy_7 (by decide) (fun c_1 => ?_) (fun c_1 => ?_)
  · have nc_1 := z_eq rfl (zk (x := (-1)) (-1) rfl) c_1
    refine lv_iconst (v := 0) hx hb dX3_isDoneBy_24 (by decide) ?_
    exact W.zret (v := 0) hx hb hr (by decide) (fun t ht hW9 => ⟨⟨0, 0, rfl, rfl, Or.inr (⟨rfl, tw_at ht hT⟩)⟩, hS.F ht⟩) hS.2.2 dX3_isDoneBy_25
  · have nc_1 := z_ne rfl (zk (x := (-1)) (-1) rfl) c_1
    refine lv_aload_n hx hb dX3_isDoneBy_10 rfl (lv_at hl 0 rfl) ?_
    refine tw_get (D := (dC, dI)) (v := .ref (a 24)) (C := RX3) (T := TX3) (N := 12) hx hb hts (fun _ hh => (List.mem_cons_of_mem _ (List.mem_append_right _ (List.mem_append_left _ hh)))) hown hK hT (fx_3 hX) (by decide) cl_e13 rfl 7 (by decide) (hts (.fieldLink RX3 28 "TypingPool$Floor" "by" "[I") (List.mem_cons_of_mem _ (List.mem_append_left _ (List.mem_of_getElem? (i := 1) rfl)))) (fun _ h9 => h9) rfl dX3_isDoneBy_11 ?_
    refine lv_iload_n hx hb dX3_isDoneBy_14 rfl (lv_at hl 1 rfl) ?_
    refine tw_iald hx hb hK hT 0 (fx_24 hX) (by decide) cl_e34 rfl (z_in rfl (by omega) (by omega)) dX3_isDoneBy_15 ?_
    refine lv_iload_n hx hb dX3_isDoneBy_16 rfl (lv_at hl 2 rfl) ?_
    refine lv_icmp_ne (tgt := 24) hx hb dX3_isDoneBy_17 (by decide) (fun c_2 => ?_) (fun c_2 => ?_)
    · have nc_2 := z_ne rfl rfl c_2
      refine lv_iconst (v := 0) hx hb dX3_isDoneBy_24 (by decide) ?_
      exact W.zret (v := 0) hx hb hr (by decide) (fun t ht hW9 => ⟨⟨0, 0, rfl, rfl, Or.inr (⟨rfl, tw_at ht hT⟩)⟩, hS.F ht⟩) hS.2.2 dX3_isDoneBy_25
    · have nc_2 := z_eq rfl rfl c_2
      refine lv_iconst (v := 1) hx hb dX3_isDoneBy_20 (by decide) ?_
      refine lv_goto (tgt := 25) hx hb dX3_isDoneBy_21 (by decide) ?_
      exact W.zret (v := 1) hx hb hr (by decide) (fun t ht hW9 => ⟨⟨1, 1, rfl, rfl, Or.inl ⟨rfl, tw_at ht hT⟩⟩, hS.F ht⟩) hS.2.2 dX3_isDoneBy_25
def wo_c_minutesLate : List Cond := [.fieldLink RX3 34 "TypingPool$Floor" "done" "[I", .fieldLink RX3 43 "TypingPool$Floor" "book" "LTypingPool$Book;", .fieldLink RX3 103 "TypingPool$Book" "pieces" "[LTypingPool$Piece;", .fieldLink RX3 190 "TypingPool$Piece" "due" "I", .methodLink RX3 121 Lib.Math.max.name, .static Lib.Math.max.name, .initialized "java/lang/Math", .code Lib.Math.max.name Lib.Math.max.code 2 (some .int), .fieldLink RX3 9 "TypingPool$Floor" "now" "I"]
def wm_c_minutesLate : List Cond := .code yX3_minutesLate cX3_minutesLate 3 (some .int) :: (wo_c_minutesLate ++ (wsX30 ++ (wsX10 ++ (wsX60 ++ ([] : List Cond)))))
theorem gd_c_minutesLate : ∀ w ∈ wm_c_minutesLate, goodWord w = true := gd_c rfl (gd_a (by decide) (gd_a gd_wsX30 (gd_a gd_wsX10 (gd_a gd_wsX60 gd_nil))))
set_option maxRecDepth 20000 in
theorem im_c_minutesLate : ∀ w ∈ wm_c_minutesLate, w ∈ lw_tbl := im_c (in_r [.code yX3_minutesLate cX3_minutesLate 3 (some .int)] [868] (by decide +kernel)) (in_app (in_r wo_c_minutesLate [446, 426, 130, 684, 823, 289, 78, 290, 428] (by decide +kernel)) (in_app im_wsX30 (in_app im_wsX10 (in_app im_wsX60 im_nil))))
set_option maxHeartbeats 4000000 in
set_option maxRecDepth 100000 in
theorem c_minutesLate (l : Launch) (dC : Nat → ClassId) (dI : Nat → Nat → Nat) (ad av : Nat → Nat) (sz : Nat) (a : Nat → Nat) (k : Nat → ClassId) (τ ln : Nat → Nat) (y : Nat → Nat → Int32) (g : Nat → Nat → Option Nat) (u : Nat → Int) (p0 : Int32) (hI : IC a u τ ln y g) (hlp0 : 0 ≤ p0.toInt) (hup0 : p0.toInt < u 2) : Met l yX3_minutesLate wm_c_minutesLate ({ frames := 2, cells := 0, slots := 0, locals := 80 }) (pw_ ad av (dC, dI) sz [.ref (a 3), .int p0] a k τ ln y g) (va_Qi (fun (r u : Int32) => u = r) (fun (r : Int32) (t : State) => (tw (dC, dI) a k τ ln y g t.heap)) (fr τ sz)) 0 0 (fr τ sz) := by
  refine Met.ofW (cc := cX3_minutesLate) (maxL := 3) (ret := (some .int)) (by decide) rfl ?_
  intro p e s m args below meth c s₁ B hml hv
  obtain ⟨rfl, hsz, hT, hK, hM⟩ := hv
  have hx := B.exec
  have hb := B.bytes
  have hr := B.returns
  have hts := atoms_spec (ws := wm_c_minutesLate) B.pre
  have hown : s.vm.findClass RX3 = some m.cls := findClass_of_methodNamed B.named
  have hlocks := B.notSynchronized
  subst hsz
  generalize hAe : fr τ s.heap.size = A at hM ⊢
  have hA : ∀ q : Nat, s.heap.size ≤ q → A q := fun q h => by rw [← hAe]; exact Or.inr h
  have hF : ∀ q, τ q ≠ 0 → A q := fun q h => by rw [← hAe]; exact Or.inl h
  have hS : va_S A s.heap s.heap [] := va_S.rf
  have hX := hI.1
  have hR := ic_r hI
  have hl := lv_entry ([.ref (a 3), .int p0]) (n := 3) (Nat.le_of_ble_eq_true rfl)
  rw [lg_entry_eq]
  generalize (lg_sl ([.ref (a 3), .int p0]) ++ List.replicate (3 - (lg_sl ([.ref (a 3), .int p0])).length) Slot.unset).toArray = ls at hl ⊢
  have hl : lv_has ls 3 [(0, .ref (a 3)), (1, .int p0)] := hl
  refine lv_aload_n hx hb dX3_minutesLate_0 rfl (lv_at hl 0 rfl) ?_
  refine tw_get (D := (dC, dI)) (v := .ref (a 26)) (C := RX3) (T := TX3) (N := 12) hx hb hts (fun _ hh => (List.mem_cons_of_mem _ (List.mem_append_right _ (List.mem_append_left _ hh)))) hown hK hT (fx_3 hX) (by decide) cl_e13 rfl 9 (by decide) (hts (.fieldLink RX3 34 "TypingPool$Floor" "done" "[I") (List.mem_cons_of_mem _ (List.mem_append_left _ (List.mem_of_getElem? (i := 0) rfl)))) (fun _ h9 => h9) rfl dX3_minutesLate_1 ?_
  refine lv_iload_n hx hb dX3_minutesLate_4 rfl (lv_at hl 1 rfl) ?_
  refine tw_iald hx hb hK hT 0 (fx_26 hX) (by decide) cl_e36 rfl (z_in rfl (by omega) (by omega)) dX3_minutesLate_5 ?_
  refine lv_iconst (v := (-1)) hx hb dX3_minutesLate_6 (by decide) ?_
  refine lv_icmp_ne (tgt := 17) hx hb dX3_minutesLate_7 (by decide) (fun c_1 => ?_) (fun c_1 => ?_)
  · have nc_1 := z_ne rfl (zk (x := (-1)) (-1) rfl) c_1
    refine lv_aload_n hx hb dX3_minutesLate_17 rfl (lv_at hl 0 rfl) ?_
    refine tw_get (D := (dC, dI)) (v := .ref (a 26)) (C := RX3) (T := TX3) (N := 12) hx hb hts (fun _ hh => (List.mem_cons_of_mem _ (List.mem_append_right _ (List.mem_append_left _ hh)))) hown hK hT (fx_3 hX) (by decide) cl_e13 rfl 9 (by decide) (hts (.fieldLink RX3 34 "TypingPool$Floor" "done" "[I") (List.mem_cons_of_mem _ (List.mem_append_left _ (List.mem_of_getElem? (i := 0) rfl)))) (fun _ h9 => h9) rfl dX3_minutesLate_18 ?_
    refine lv_iload_n hx hb dX3_minutesLate_21 rfl (lv_at hl 1 rfl) ?_
    refine tw_iald hx hb hK hT 0 (fx_26 hX) (by decide) cl_e36 rfl (z_in rfl (by omega) (by omega)) dX3_minutesLate_22 ?_
    refine lv_istore_n (lv' := [(2, .int (y (a 26) p0.toNatClampNeg)), (0, .ref (a 3)), (1, .int p0)]) hx hb dX3_minutesLate_23 rfl hl (by decide) rfl (fun ls hl => ?_)
    refine lv_iconst (v := 0) hx hb dX3_minutesLate_24 (by decide) ?_
    refine lv_iload_n hx hb dX3_minutesLate_25 rfl (lv_at hl 0 rfl) ?_
    refine lv_aload_n hx hb dX3_minutesLate_26 rfl (lv_at hl 1 rfl) ?_
    refine tw_get (D := (dC, dI)) (v := .ref (a 1)) (C := RX3) (T := TX3) (N := 12) hx hb hts (fun _ hh => (List.mem_cons_of_mem _ (List.mem_append_right _ (List.mem_append_left _ hh)))) hown hK hT (fx_3 hX) (by decide) cl_e13 rfl 0 (by decide) (hts (.fieldLink RX3 43 "TypingPool$Floor" "book" "LTypingPool$Book;") (List.mem_cons_of_mem _ (List.mem_append_left _ (List.mem_of_getElem? (i := 1) rfl)))) (fun _ h9 => h9) rfl dX3_minutesLate_27 ?_
    refine tw_get (D := (dC, dI)) (v := .ref (a 11)) (C := RX1) (T := TX1) (N := 8) hx hb hts (fun _ hh => (List.mem_cons_of_mem _ (List.mem_append_right _ (List.mem_append_right _ (List.mem_append_left _ hh))))) hown hK hT (fx_1 hX) (by decide) cl_e11 rfl 4 (by decide) (hts (.fieldLink RX3 103 "TypingPool$Book" "pieces" "[LTypingPool$Piece;") (List.mem_cons_of_mem _ (List.mem_append_left _ (List.mem_of_getElem? (i := 2) rfl)))) (fun _ h9 => h9) rfl dX3_minutesLate_30 ?_
    refine lv_iload_n hx hb dX3_minutesLate_33 rfl (lv_at hl 2 rfl) ?_
    refine tw_aald hx hb hK hT 4 (fx_11 hX) (by decide) cl_e21 rfl (z_in rfl (by omega) (by omega)) dX3_minutesLate_34 ?_
    obtain ⟨q_2, hgq_2, htq_2⟩ := ic_l11 hI (x := p0) rfl (by omega) (by omega)
    refine lq_topr hgq_2 ?_
    refine tw_get (D := (dC, dI)) (v := .int (y q_2 6)) (C := RX6) (T := TX6) (N := 11) hx hb hts (fun _ hh => (List.mem_cons_of_mem _ (List.mem_append_right _ (List.mem_append_right _ (List.mem_append_right _ (List.mem_append_left _ hh)))))) hown hK hT htq_2 (by decide) cl_e2 rfl 6 (by decide) (hts (.fieldLink RX3 190 "TypingPool$Piece" "due" "I") (List.mem_cons_of_mem _ (List.mem_append_left _ (List.mem_of_getElem? (i := 3) rfl)))) (fun _ h9 => h9) rfl dX3_minutesLate_35 ?_
    refine lv_isub hx hb dX3_minutesLate_38 ?_
    refine lv_topi (fun x_3 ex_3 => ?_)
    refine va_mmax hx hb (by rw [hml]; exact hl.1.symm) hown (hts (.methodLink RX3 121 Lib.Math.max.name) (List.mem_cons_of_mem _ (List.mem_append_left _ (List.mem_of_getElem? (i := 4) rfl)))) (hts (.static Lib.Math.max.name) (List.mem_cons_of_mem _ (List.mem_append_left _ (List.mem_of_getElem? (i := 5) rfl)))) (hts (.initialized "java/lang/Math") (List.mem_cons_of_mem _ (List.mem_append_left _ (List.mem_of_getElem? (i := 6) rfl)))) (hts (.code Lib.Math.max.name Lib.Math.max.code 2 (some .int)) (List.mem_cons_of_mem _ (List.mem_append_left _ (List.mem_of_getElem? (i := 7) rfl)))) (Nat.le_of_ble_eq_true rfl) (Nat.le_of_ble_eq_true rfl) (Nat.le_of_ble_eq_true rfl) (Nat.le_of_ble_eq_true rfl) dX3_minutesLate_39 ?_
    refine lv_topi (fun x_4 ex_4 => ?_)
    have hx_4 := z_max ex_4 (zk (x := 0) 0 rfl) rfl
    exact W.iret (v := x_4) hx hb hr (fun t ht hW9 => ⟨⟨x_4, x_4, rfl, rfl, (tw_at ht hT)⟩, hS.F ht⟩) hS.2.2 dX3_minutesLate_42
  · have nc_1 := z_eq rfl (zk (x := (-1)) (-1) rfl) c_1
    refine lv_aload_n hx hb dX3_minutesLate_10 rfl (lv_at hl 0 rfl) ?_
    refine tw_get (D := (dC, dI)) (v := .int (y (a 3) 2)) (C := RX3) (T := TX3) (N := 12) hx hb hts (fun _ hh => (List.mem_cons_of_mem _ (List.mem_append_right _ (List.mem_append_left _ hh)))) hown hK hT (fx_3 hX) (by decide) cl_e13 rfl 2 (by decide) (hts (.fieldLink RX3 9 "TypingPool$Floor" "now" "I") (List.mem_cons_of_mem _ (List.mem_append_left _ (List.mem_of_getElem? (i := 8) rfl)))) (fun _ h9 => h9) rfl dX3_minutesLate_11 ?_
    refine lv_goto (tgt := 23) hx hb dX3_minutesLate_14 (by decide) ?_
    refine lv_istore_n (lv' := [(2, .int (y (a 3) 2)), (0, .ref (a 3)), (1, .int p0)]) hx hb dX3_minutesLate_23 rfl hl (by decide) rfl (fun ls hl => ?_)
    refine lv_iconst (v := 0) hx hb dX3_minutesLate_24 (by decide) ?_
    refine lv_iload_n hx hb dX3_minutesLate_25 rfl (lv_at hl 0 rfl) ?_
    refine lv_aload_n hx hb dX3_minutesLate_26 rfl (lv_at hl 1 rfl) ?_
    refine tw_get (D := (dC, dI)) (v := .ref (a 1)) (C := RX3) (T := TX3) (N := 12) hx hb hts (fun _ hh => (List.mem_cons_of_mem _ (List.mem_append_right _ (List.mem_append_left _ hh)))) hown hK hT (fx_3 hX) (by decide) cl_e13 rfl 0 (by decide) (hts (.fieldLink RX3 43 "TypingPool$Floor" "book" "LTypingPool$Book;") (List.mem_cons_of_mem _ (List.mem_append_left _ (List.mem_of_getElem? (i := 1) rfl)))) (fun _ h9 => h9) rfl dX3_minutesLate_27 ?_
    refine tw_get (D := (dC, dI)) (v := .ref (a 11)) (C := RX1) (T := TX1) (N := 8) hx hb hts (fun _ hh => (List.mem_cons_of_mem _ (List.mem_append_right _ (List.mem_append_right _ (List.mem_append_left _ hh))))) hown hK hT (fx_1 hX) (by decide) cl_e11 rfl 4 (by decide) (hts (.fieldLink RX3 103 "TypingPool$Book" "pieces" "[LTypingPool$Piece;") (List.mem_cons_of_mem _ (List.mem_append_left _ (List.mem_of_getElem? (i := 2) rfl)))) (fun _ h9 => h9) rfl dX3_minutesLate_30 ?_
    refine lv_iload_n hx hb dX3_minutesLate_33 rfl (lv_at hl 2 rfl) ?_
    refine tw_aald hx hb hK hT 4 (fx_11 hX) (by decide) cl_e21 rfl (z_in rfl (by omega) (by omega)) dX3_minutesLate_34 ?_
    obtain ⟨q_5, hgq_5, htq_5⟩ := ic_l11 hI (x := p0) rfl (by omega) (by omega)
    refine lq_topr hgq_5 ?_
    refine tw_get (D := (dC, dI)) (v := .int (y q_5 6)) (C := RX6) (T := TX6) (N := 11) hx hb hts (fun _ hh => (List.mem_cons_of_mem _ (List.mem_append_right _ (List.mem_append_right _ (List.mem_append_right _ (List.mem_append_left _ hh)))))) hown hK hT htq_5 (by decide) cl_e2 rfl 6 (by decide) (hts (.fieldLink RX3 190 "TypingPool$Piece" "due" "I") (List.mem_cons_of_mem _ (List.mem_append_left _ (List.mem_of_getElem? (i := 3) rfl)))) (fun _ h9 => h9) rfl dX3_minutesLate_35 ?_
    refine lv_isub hx hb dX3_minutesLate_38 ?_
    refine lv_topi (fun x_6 ex_6 => ?_)
    refine va_mmax hx hb (by rw [hml]; exact hl.1.symm) hown (hts (.methodLink RX3 121 Lib.Math.max.name) (List.mem_cons_of_mem _ (List.mem_append_left _ (List.mem_of_getElem? (i := 4) rfl)))) (hts (.static Lib.Math.max.name) (List.mem_cons_of_mem _ (List.mem_append_left _ (List.mem_of_getElem? (i := 5) rfl)))) (hts (.initialized "java/lang/Math") (List.mem_cons_of_mem _ (List.mem_append_left _ (List.mem_of_getElem? (i := 6) rfl)))) (hts (.code Lib.Math.max.name Lib.Math.max.code 2 (some .int)) (List.mem_cons_of_mem _ (List.mem_append_left _ (List.mem_of_getElem? (i := 7) rfl)))) (Nat.le_of_ble_eq_true rfl) (Nat.le_of_ble_eq_true rfl) (Nat.le_of_ble_eq_true rfl) (Nat.le_of_ble_eq_true rfl) dX3_minutesLate_39 ?_
    refine lv_topi (fun x_7 ex_7 => ?_)
    have hx_7 := z_max ex_7 (zk (x := 0) 0 rfl) rfl
    exact W.iret (v := x_7) hx hb hr (fun t ht hW9 => ⟨⟨x_7, x_7, rfl, rfl, (tw_at ht hT)⟩, hS.F ht⟩) hS.2.2 dX3_minutesLate_42
def wo_c_isLate : List Cond := [.methodLink RX3 196 yX3_minutesLate, .instanceMethod yX3_minutesLate, .selects RX3 yX3_minutesLate yX3_minutesLate, .initialized RX3]
def wm_c_isLate : List Cond := .code yX3_isLate cX3_isLate 2 (some .boolean) :: (wo_c_isLate ++ (wm_c_minutesLate ++ ([] : List Cond)))
theorem gd_c_isLate : ∀ w ∈ wm_c_isLate, goodWord w = true := gd_c rfl (gd_a (by decide) (gd_a gd_c_minutesLate gd_nil))
set_option maxRecDepth 20000 in
theorem im_c_isLate : ∀ w ∈ wm_c_isLate, w ∈ lw_tbl := im_c (in_r [.code yX3_isLate cX3_isLate 2 (some .boolean)] [864] (by decide +kernel)) (in_app (in_r wo_c_isLate [865, 866, 867, 83] (by decide +kernel)) (in_app im_c_minutesLate im_nil))
set_option maxHeartbeats 4000000 in
set_option maxRecDepth 100000 in
theorem c_isLate (l : Launch) (dC : Nat → ClassId) (dI : Nat → Nat → Nat) (ad av : Nat → Nat) (sz : Nat) (a : Nat → Nat) (k : Nat → ClassId) (τ ln : Nat → Nat) (y : Nat → Nat → Int32) (g : Nat → Nat → Option Nat) (u : Nat → Int) (p0 : Int32) (hI : IC a u τ ln y g) (hlp0 : 0 ≤ p0.toInt) (hup0 : p0.toInt < u 2) : Met l yX3_isLate wm_c_isLate ({ frames := 3, cells := 0, slots := 0, locals := 140 }) (pw_ ad av (dC, dI) sz [.ref (a 3), .int p0] a k τ ln y g) (va_Qi (fun (r u : Int32) => u = r) (fun (r : Int32) (t : State) => (r = 1 ∧ tw (dC, dI) a k τ ln y g t.heap) ∨ (r = 0 ∧ tw (dC, dI) a k τ ln y g t.heap)) (fr τ sz)) 0 0 (fr τ sz) := by
  refine Met.ofW (cc := cX3_isLate) (maxL := 2) (ret := (some .boolean)) (by decide) rfl ?_
  intro p e s m args below meth c s₁ B hml hv
  obtain ⟨rfl, hsz, hT, hK, hM⟩ := hv
  have hx := B.exec
  have hb := B.bytes
  have hr := B.returns
  have hts := atoms_spec (ws := wm_c_isLate) B.pre
  have hown : s.vm.findClass RX3 = some m.cls := findClass_of_methodNamed B.named
  have hlocks := B.notSynchronized
  subst hsz
  generalize hAe : fr τ s.heap.size = A at hM ⊢
  have hA : ∀ q : Nat, s.heap.size ≤ q → A q := fun q h => by rw [← hAe]; exact Or.inr h
  have hF : ∀ q, τ q ≠ 0 → A q := fun q h => by rw [← hAe]; exact Or.inl h
  have hS : va_S A s.heap s.heap [] := va_S.rf
  have hX := hI.1
  have hR := ic_r hI
  have hl := lv_entry ([.ref (a 3), .int p0]) (n := 2) (Nat.le_of_ble_eq_true rfl)
  rw [lg_entry_eq]
  generalize (lg_sl ([.ref (a 3), .int p0]) ++ List.replicate (2 - (lg_sl ([.ref (a 3), .int p0])).length) Slot.unset).toArray = ls at hl ⊢
  have hl : lv_has ls 2 [(0, .ref (a 3)), (1, .int p0)] := hl
  refine lv_aload_n hx hb dX3_isLate_0 rfl (lv_at hl 0 rfl) ?_
  refine lv_iload_n hx hb dX3_isLate_1 rfl (lv_at hl 1 rfl) ?_
  have hFc := tw_free hF hS hA
  refine va_calli (va_runV (As := [.int p0]) (rest := []) ⟨hx, hb, hml, hown, hts⟩ (c_minutesLate l dC dI ad av s.heap.size a k τ ln y g u p0 hI (by omega) (by omega)) (cwV 1 hts (gi_4 (List.mem_cons_of_mem _ (List.mem_append_left _ (List.mem_of_getElem? (i := 0) rfl))) (List.mem_cons_of_mem _ (List.mem_append_left _ (List.mem_of_getElem? (i := 1) rfl))) (List.mem_cons_of_mem _ (List.mem_append_left _ (List.mem_of_getElem? (i := 2) rfl))) (List.mem_cons_of_mem _ (List.mem_append_left _ (List.mem_of_getElem? (i := 3) rfl))) (fun _ hh => (List.mem_cons_of_mem _ (List.mem_append_right _ (List.mem_append_left _ hh)))) gd_c_minutesLate) rfl rfl rfl (by decide +kernel) ⟨Nat.le_of_ble_eq_true rfl, Nat.le_of_ble_eq_true rfl⟩) ⟨pw_blind, tw_recv hK hT (fx_3 hX) (by decide) cl_e13 rfl, pw_use hT hK hFc hS hM⟩ rfl rfl hl.1 rfl (lv_room (Nat.le_of_ble_eq_true rfl)) dX3_isLate_2 ⟨Nat.le_of_ble_eq_true rfl, Nat.le_of_ble_eq_true rfl⟩) hS (fun q _ h => hFc q h) hFc (fun r0 r_1 t H locs ht hvm hw hB hz1 hk1 hS => ?_)
  refine W.widen (k := 0) (n := 0) (Nat.le_of_ble_eq_true rfl) (Nat.le_of_ble_eq_true rfl) ?_
  clear hvm hz1 hk1
  subst hw
  have hT := hB
  rw [ht] at hT
  refine lv_if_le (tgt := 12) hx hb dX3_isLate_5 (by decide) (fun c_2 => ?_) (fun c_2 => ?_)
  · have nc_2 := z_le rfl (zk (x := 0) 0 rfl) c_2
    refine lv_iconst (v := 0) hx hb dX3_isLate_12 (by decide) ?_
    exact W.zret (v := 0) hx hb hr (by decide) (fun t ht hW9 => ⟨⟨0, 0, rfl, rfl, Or.inr (⟨rfl, tw_at ht hT⟩)⟩, hS.F ht⟩) hS.2.2 dX3_isLate_13
  · have nc_2 := z_nle rfl (zk (x := 0) 0 rfl) c_2
    refine lv_iconst (v := 1) hx hb dX3_isLate_8 (by decide) ?_
    refine lv_goto (tgt := 13) hx hb dX3_isLate_9 (by decide) ?_
    exact W.zret (v := 1) hx hb hr (by decide) (fun t ht hW9 => ⟨⟨1, 1, rfl, rfl, Or.inl ⟨rfl, tw_at ht hT⟩⟩, hS.F ht⟩) hS.2.2 dX3_isLate_13
def wo_c_inState : List Cond := [.fieldLink RX3 43 "TypingPool$Floor" "book" "LTypingPool$Book;", .fieldLink RX3 85 "TypingPool$Book" "pieceCount" "I", .methodLink RX3 88 yX3_stateOf, .instanceMethod yX3_stateOf, .selects RX3 yX3_stateOf yX3_stateOf, .initialized RX3]
def wm_c_inState : List Cond := .code yX3_inState cX3_inState 4 (some .int) :: (wo_c_inState ++ (wsX30 ++ (wsX10 ++ (wm_c_stateOf ++ ([] : List Cond)))))
theorem gd_c_inState : ∀ w ∈ wm_c_inState, goodWord w = true := gd_c rfl (gd_a (by decide) (gd_a gd_wsX30 (gd_a gd_wsX10 (gd_a gd_c_stateOf gd_nil))))
set_option maxRecDepth 20000 in
theorem im_c_inState : ∀ w ∈ wm_c_inState, w ∈ lw_tbl := im_c (in_r [.code yX3_inState cX3_inState 4 (some .int)] [890] (by decide +kernel)) (in_app (in_r wo_c_inState [426, 134, 767, 768, 769, 83] (by decide +kernel)) (in_app im_wsX30 (in_app im_wsX10 (in_app im_c_stateOf im_nil))))
set_option maxHeartbeats 4000000 in
set_option maxRecDepth 100000 in
theorem c_inState (l : Launch) (dC : Nat → ClassId) (dI : Nat → Nat → Nat) (ad av : Nat → Nat) (sz : Nat) (a : Nat → Nat) (k : Nat → ClassId) (τ ln : Nat → Nat) (y : Nat → Nat → Int32) (g : Nat → Nat → Option Nat) (u : Nat → Int) (p0 : Int32) (hI : IC a u τ ln y g) : Met l yX3_inState wm_c_inState ({ frames := 1, cells := 0, slots := 0, locals := 60 }) (pw_ ad av (dC, dI) sz [.ref (a 3), .int p0] a k τ ln y g) (va_Qi (fun (r u : Int32) => u = r) (fun (r : Int32) (t : State) => (tw (dC, dI) a k τ ln y g t.heap)) (fr τ sz)) 0 0 (fr τ sz) := by
  refine Met.ofW (cc := cX3_inState) (maxL := 4) (ret := (some .int)) (by decide) rfl ?_
  intro p e s m args below meth c s₁ B hml hv
  obtain ⟨rfl, hsz, hT, hK, hM⟩ := hv
  have hx := B.exec
  have hb := B.bytes
  have hr := B.returns
  have hts := atoms_spec (ws := wm_c_inState) B.pre
  have hown : s.vm.findClass RX3 = some m.cls := findClass_of_methodNamed B.named
  have hlocks := B.notSynchronized
  subst hsz
  generalize hAe : fr τ s.heap.size = A at hM ⊢
  have hA : ∀ q : Nat, s.heap.size ≤ q → A q := fun q h => by rw [← hAe]; exact Or.inr h
  have hF : ∀ q, τ q ≠ 0 → A q := fun q h => by rw [← hAe]; exact Or.inl h
  have hS : va_S A s.heap s.heap [] := va_S.rf
  have hX := hI.1
  have hR := ic_r hI
  have hl := lv_entry ([.ref (a 3), .int p0]) (n := 4) (Nat.le_of_ble_eq_true rfl)
  rw [lg_entry_eq]
  generalize (lg_sl ([.ref (a 3), .int p0]) ++ List.replicate (4 - (lg_sl ([.ref (a 3), .int p0])).length) Slot.unset).toArray = ls at hl ⊢
  have hl : lv_has ls 4 [(0, .ref (a 3)), (1, .int p0)] := hl
  refine lv_iconst (v := 0) hx hb dX3_inState_0 (by decide) ?_
  refine lv_istore_n (lv' := [(2, .int 0), (0, .ref (a 3)), (1, .int p0)]) hx hb dX3_inState_1 rfl hl (by decide) rfl (fun ls hl => ?_)
  refine lv_iconst (v := 0) hx hb dX3_inState_2 (by decide) ?_
  refine lv_istore_n (lv' := [(3, .int 0), (2, .int 0), (0, .ref (a 3)), (1, .int p0)]) hx hb dX3_inState_3 rfl hl (by decide) rfl (fun ls hl => ?_)
  have loop_4 : ∀ (n : Nat) (w2 : Int32) (i3 : Int32) (H : Heap) (locs : List Loc) (ls : Array Slot), (u 2 - i3.toInt).toNat < n → 0 ≤ i3.toInt → i3.toInt ≤ u 2 → tw (dC, dI) a k τ ln y g H → va_S A s.heap H locs → lv_has ls 4 [(0, .ref (a 3)), (1, .int p0), (2, .int w2), (3, .int i3)] → W p l e (headSpec wm_c_inState ({ frames := 1, cells := 0, slots := 0, locals := 60 })).room s m ([.ref (a 3), .int p0] : List Value).toArray below meth c H locs 0 0 (MQ below (va_Qi (fun (r u : Int32) => u = r) (fun (r : Int32) (t : State) => (tw (dC, dI) a k τ ln y g t.heap)) A) ([.ref (a 3), .int p0] : List Value).toArray s 0 0 A) (F0 m 4 ls []) := by
    intro n
    induction n with
    | zero => intro w2 i3 H locs ls hlt; exact absurd hlt (Nat.not_lt_zero _)
    | succ n ih_4 =>
      intro w2 i3 H locs ls hlt hi4_0 hi4_1 hT hS hl
      refine lv_iload_n hx hb dX3_inState_4 rfl (lv_at hl 3 rfl) ?_
      refine lv_aload_n hx hb dX3_inState_5 rfl (lv_at hl 0 rfl) ?_
      refine tw_get (D := (dC, dI)) (v := .ref (a 1)) (C := RX3) (T := TX3) (N := 12) hx hb hts (fun _ hh => (List.mem_cons_of_mem _ (List.mem_append_right _ (List.mem_append_left _ hh)))) hown hK hT (fx_3 hX) (by decide) cl_e13 rfl 0 (by decide) (hts (.fieldLink RX3 43 "TypingPool$Floor" "book" "LTypingPool$Book;") (List.mem_cons_of_mem _ (List.mem_append_left _ (List.mem_of_getElem? (i := 0) rfl)))) (fun _ h9 => h9) rfl dX3_inState_6 ?_
      refine tw_get (D := (dC, dI)) (v := .int (y (a 1) 5)) (C := RX1) (T := TX1) (N := 8) hx hb hts (fun _ hh => (List.mem_cons_of_mem _ (List.mem_append_right _ (List.mem_append_right _ (List.mem_append_left _ hh))))) hown hK hT (fx_1 hX) (by decide) cl_e11 rfl 5 (by decide) (hts (.fieldLink RX3 85 "TypingPool$Book" "pieceCount" "I") (List.mem_cons_of_mem _ (List.mem_append_left _ (List.mem_of_getElem? (i := 1) rfl)))) (fun _ h9 => h9) rfl dX3_inState_9 ?_
      have hc_1 := ic_2 hI
      refine lv_icmp_ge (tgt := 33) hx hb dX3_inState_12 (by decide) (fun c_2 => ?_) (fun c_2 => ?_)
      · have nc_2 := z_le hc_1 rfl c_2
        refine lv_iload_n hx hb dX3_inState_33 rfl (lv_at hl 2 rfl) ?_
        exact W.iret (v := w2) hx hb hr (fun t ht hW9 => ⟨⟨w2, w2, rfl, rfl, (tw_at ht hT)⟩, hS.F ht⟩) hS.2.2 dX3_inState_34
      · have nc_2 := z_nle hc_1 rfl c_2
        refine lv_aload_n hx hb dX3_inState_15 rfl (lv_at hl 0 rfl) ?_
        refine lv_iload_n hx hb dX3_inState_16 rfl (lv_at hl 3 rfl) ?_
        have hFc := tw_free hF hS hA
        refine va_calli (va_runV (As := [.int i3]) (rest := []) ⟨hx, hb, hml, hown, hts⟩ (c_stateOf l dC dI ad av H.size a k τ ln y g u i3 hI (by omega) (by omega)) (cwV 1 hts (gi_4 (List.mem_cons_of_mem _ (List.mem_append_left _ (List.mem_of_getElem? (i := 2) rfl))) (List.mem_cons_of_mem _ (List.mem_append_left _ (List.mem_of_getElem? (i := 3) rfl))) (List.mem_cons_of_mem _ (List.mem_append_left _ (List.mem_of_getElem? (i := 4) rfl))) (List.mem_cons_of_mem _ (List.mem_append_left _ (List.mem_of_getElem? (i := 5) rfl))) (fun _ hh => (List.mem_cons_of_mem _ (List.mem_append_right _ (List.mem_append_right _ (List.mem_append_right _ (List.mem_append_left _ hh)))))) gd_c_stateOf) rfl rfl rfl (by decide +kernel) ⟨Nat.le_of_ble_eq_true rfl, Nat.le_of_ble_eq_true rfl⟩) ⟨pw_blind, tw_recv hK hT (fx_3 hX) (by decide) cl_e13 rfl, pw_use hT hK hFc hS hM⟩ rfl rfl hl.1 rfl (lv_room (Nat.le_of_ble_eq_true rfl)) dX3_inState_17 ⟨Nat.le_of_ble_eq_true rfl, Nat.le_of_ble_eq_true rfl⟩) hS (fun q _ h => hFc q h) hFc (fun r0 r_3 t H locs ht hvm hw hB hz1 hk1 hS => ?_)
        refine W.widen (k := 0) (n := 0) (Nat.le_of_ble_eq_true rfl) (Nat.le_of_ble_eq_true rfl) ?_
        clear hvm hz1 hk1
        subst hw
        have hT := hB
        rw [ht] at hT
        refine lv_iload_n hx hb dX3_inState_20 rfl (lv_at hl 1 rfl) ?_
        refine lv_icmp_ne (tgt := 27) hx hb dX3_inState_21 (by decide) (fun c_4 => ?_) (fun c_4 => ?_)
        · have nc_4 := z_ne rfl rfl c_4
          obtain ⟨x_5, ex_5⟩ : ∃ y : Int32, y = i3 + Int32.ofInt 1 := ⟨_, rfl⟩
          have hx_5 := z_add ex_5 rfl (zk (x := Int32.ofInt 1) 1 rfl) (by omega) (by omega)
          refine lv_iinc (v := x_5) (lv' := [(3, .int x_5), (0, .ref (a 3)), (1, .int p0), (2, .int w2)]) hx hb dX3_inState_27 hl (k := 3) rfl ex_5.symm (by decide) rfl (fun ls hl => ?_)
          refine lv_goto (tgt := 4) hx hb dX3_inState_30 (by decide) ?_
          exact ih_4  w2 x_5 H _ ls (by omega) (by omega) (by omega) hT hS (lv_sub hl [1, 2, 3, 0] rfl)
        · have nc_4 := z_eq rfl rfl c_4
          obtain ⟨x_6, ex_6⟩ : ∃ y : Int32, y = w2 + Int32.ofInt 1 := ⟨_, rfl⟩
          refine lv_iinc (v := x_6) (lv' := [(2, .int x_6), (0, .ref (a 3)), (1, .int p0), (3, .int i3)]) hx hb dX3_inState_24 hl (k := 2) rfl ex_6.symm (by decide) rfl (fun ls hl => ?_)
          obtain ⟨x_7, ex_7⟩ : ∃ y : Int32, y = i3 + Int32.ofInt 1 := ⟨_, rfl⟩
          have hx_7 := z_add ex_7 rfl (zk (x := Int32.ofInt 1) 1 rfl) (by omega) (by omega)
          refine lv_iinc (v := x_7) (lv' := [(3, .int x_7), (2, .int x_6), (0, .ref (a 3)), (1, .int p0)]) hx hb dX3_inState_27 hl (k := 3) rfl ex_7.symm (by decide) rfl (fun ls hl => ?_)
          refine lv_goto (tgt := 4) hx hb dX3_inState_30 (by decide) ?_
          exact ih_4  x_6 x_7 H _ ls (by omega) (by omega) (by omega) hT hS (lv_sub hl [2, 3, 1, 0] rfl)
  have hp_8 : (0 : Int32).toInt = 0 := (zk (x := 0) 0 rfl)
  have hp_9 : (0 : Int32).toInt = 0 := (zk (x := 0) 0 rfl)
  exact loop_4 _ (0 : Int32) (0 : Int32) s.heap _ ls (Nat.lt_succ_self _) (by omega) (by omega) hT hS (lv_sub hl [2, 3, 1, 0] rfl)
def wo_c_lateOnes : List Cond := [.fieldLink RX3 43 "TypingPool$Floor" "book" "LTypingPool$Book;", .fieldLink RX3 85 "TypingPool$Book" "pieceCount" "I", .methodLink RX3 199 yX3_isLate, .instanceMethod yX3_isLate, .selects RX3 yX3_isLate yX3_isLate, .initialized RX3]
def wm_c_lateOnes : List Cond := .code yX3_lateOnes cX3_lateOnes 3 (some .int) :: (wo_c_lateOnes ++ (wsX30 ++ (wsX10 ++ (wm_c_isLate ++ ([] : List Cond)))))
theorem gd_c_lateOnes : ∀ w ∈ wm_c_lateOnes, goodWord w = true := gd_c rfl (gd_a (by decide) (gd_a gd_wsX30 (gd_a gd_wsX10 (gd_a gd_c_isLate gd_nil))))
set_option maxRecDepth 20000 in
theorem im_c_lateOnes : ∀ w ∈ wm_c_lateOnes, w ∈ lw_tbl := im_c (in_r [.code yX3_lateOnes cX3_lateOnes 3 (some .int)] [894] (by decide +kernel)) (in_app (in_r wo_c_lateOnes [426, 134, 895, 862, 863, 83] (by decide +kernel)) (in_app im_wsX30 (in_app im_wsX10 (in_app im_c_isLate im_nil))))
set_option maxHeartbeats 4000000 in
set_option maxRecDepth 100000 in
theorem c_lateOnes (l : Launch) (dC : Nat → ClassId) (dI : Nat → Nat → Nat) (ad av : Nat → Nat) (sz : Nat) (a : Nat → Nat) (k : Nat → ClassId) (τ ln : Nat → Nat) (y : Nat → Nat → Int32) (g : Nat → Nat → Option Nat) (u : Nat → Int) (hI : IC a u τ ln y g) : Met l yX3_lateOnes wm_c_lateOnes ({ frames := 4, cells := 0, slots := 0, locals := 200 }) (pw_ ad av (dC, dI) sz [.ref (a 3)] a k τ ln y g) (va_Qi (fun (r u : Int32) => u = r) (fun (r : Int32) (t : State) => (tw (dC, dI) a k τ ln y g t.heap)) (fr τ sz)) 0 0 (fr τ sz) := by
  refine Met.ofW (cc := cX3_lateOnes) (maxL := 3) (ret := (some .int)) (by decide) rfl ?_
  intro p e s m args below meth c s₁ B hml hv
  obtain ⟨rfl, hsz, hT, hK, hM⟩ := hv
  have hx := B.exec
  have hb := B.bytes
  have hr := B.returns
  have hts := atoms_spec (ws := wm_c_lateOnes) B.pre
  have hown : s.vm.findClass RX3 = some m.cls := findClass_of_methodNamed B.named
  have hlocks := B.notSynchronized
  subst hsz
  generalize hAe : fr τ s.heap.size = A at hM ⊢
  have hA : ∀ q : Nat, s.heap.size ≤ q → A q := fun q h => by rw [← hAe]; exact Or.inr h
  have hF : ∀ q, τ q ≠ 0 → A q := fun q h => by rw [← hAe]; exact Or.inl h
  have hS : va_S A s.heap s.heap [] := va_S.rf
  have hX := hI.1
  have hR := ic_r hI
  have hl := lv_entry ([.ref (a 3)]) (n := 3) (Nat.le_of_ble_eq_true rfl)
  rw [lg_entry_eq]
  generalize (lg_sl ([.ref (a 3)]) ++ List.replicate (3 - (lg_sl ([.ref (a 3)])).length) Slot.unset).toArray = ls at hl ⊢
  have hl : lv_has ls 3 [(0, .ref (a 3))] := hl
  refine lv_iconst (v := 0) hx hb dX3_lateOnes_0 (by decide) ?_
  refine lv_istore_n (lv' := [(1, .int 0), (0, .ref (a 3))]) hx hb dX3_lateOnes_1 rfl hl (by decide) rfl (fun ls hl => ?_)
  refine lv_iconst (v := 0) hx hb dX3_lateOnes_2 (by decide) ?_
  refine lv_istore_n (lv' := [(2, .int 0), (1, .int 0), (0, .ref (a 3))]) hx hb dX3_lateOnes_3 rfl hl (by decide) rfl (fun ls hl => ?_)
  have loop_4 : ∀ (n : Nat) (w1 : Int32) (i2 : Int32) (H : Heap) (locs : List Loc) (ls : Array Slot), (u 2 - i2.toInt).toNat < n → 0 ≤ i2.toInt → i2.toInt ≤ u 2 → tw (dC, dI) a k τ ln y g H → va_S A s.heap H locs → lv_has ls 3 [(0, .ref (a 3)), (1, .int w1), (2, .int i2)] → W p l e (headSpec wm_c_lateOnes ({ frames := 4, cells := 0, slots := 0, locals := 200 })).room s m ([.ref (a 3)] : List Value).toArray below meth c H locs 0 0 (MQ below (va_Qi (fun (r u : Int32) => u = r) (fun (r : Int32) (t : State) => (tw (dC, dI) a k τ ln y g t.heap)) A) ([.ref (a 3)] : List Value).toArray s 0 0 A) (F0 m 4 ls []) := by
    intro n
    induction n with
    | zero => intro w1 i2 H locs ls hlt; exact absurd hlt (Nat.not_lt_zero _)
    | succ n ih_4 =>
      intro w1 i2 H locs ls hlt hi4_0 hi4_1 hT hS hl
      refine lv_iload_n hx hb dX3_lateOnes_4 rfl (lv_at hl 2 rfl) ?_
      refine lv_aload_n hx hb dX3_lateOnes_5 rfl (lv_at hl 0 rfl) ?_
      refine tw_get (D := (dC, dI)) (v := .ref (a 1)) (C := RX3) (T := TX3) (N := 12) hx hb hts (fun _ hh => (List.mem_cons_of_mem _ (List.mem_append_right _ (List.mem_append_left _ hh)))) hown hK hT (fx_3 hX) (by decide) cl_e13 rfl 0 (by decide) (hts (.fieldLink RX3 43 "TypingPool$Floor" "book" "LTypingPool$Book;") (List.mem_cons_of_mem _ (List.mem_append_left _ (List.mem_of_getElem? (i := 0) rfl)))) (fun _ h9 => h9) rfl dX3_lateOnes_6 ?_
      refine tw_get (D := (dC, dI)) (v := .int (y (a 1) 5)) (C := RX1) (T := TX1) (N := 8) hx hb hts (fun _ hh => (List.mem_cons_of_mem _ (List.mem_append_right _ (List.mem_append_right _ (List.mem_append_left _ hh))))) hown hK hT (fx_1 hX) (by decide) cl_e11 rfl 5 (by decide) (hts (.fieldLink RX3 85 "TypingPool$Book" "pieceCount" "I") (List.mem_cons_of_mem _ (List.mem_append_left _ (List.mem_of_getElem? (i := 1) rfl)))) (fun _ h9 => h9) rfl dX3_lateOnes_9 ?_
      have hc_1 := ic_2 hI
      refine lv_icmp_ge (tgt := 32) hx hb dX3_lateOnes_12 (by decide) (fun c_2 => ?_) (fun c_2 => ?_)
      · have nc_2 := z_le hc_1 rfl c_2
        refine lv_iload_n hx hb dX3_lateOnes_32 rfl (lv_at hl 1 rfl) ?_
        exact W.iret (v := w1) hx hb hr (fun t ht hW9 => ⟨⟨w1, w1, rfl, rfl, (tw_at ht hT)⟩, hS.F ht⟩) hS.2.2 dX3_lateOnes_33
      · have nc_2 := z_nle hc_1 rfl c_2
        refine lv_aload_n hx hb dX3_lateOnes_15 rfl (lv_at hl 0 rfl) ?_
        refine lv_iload_n hx hb dX3_lateOnes_16 rfl (lv_at hl 2 rfl) ?_
        have hFc := tw_free hF hS hA
        refine va_calli (va_runV (As := [.int i2]) (rest := []) ⟨hx, hb, hml, hown, hts⟩ (c_isLate l dC dI ad av H.size a k τ ln y g u i2 hI (by omega) (by omega)) (cwV 1 hts (gi_4 (List.mem_cons_of_mem _ (List.mem_append_left _ (List.mem_of_getElem? (i := 2) rfl))) (List.mem_cons_of_mem _ (List.mem_append_left _ (List.mem_of_getElem? (i := 3) rfl))) (List.mem_cons_of_mem _ (List.mem_append_left _ (List.mem_of_getElem? (i := 4) rfl))) (List.mem_cons_of_mem _ (List.mem_append_left _ (List.mem_of_getElem? (i := 5) rfl))) (fun _ hh => (List.mem_cons_of_mem _ (List.mem_append_right _ (List.mem_append_right _ (List.mem_append_right _ (List.mem_append_left _ hh)))))) gd_c_isLate) rfl rfl rfl (by decide +kernel) ⟨Nat.le_of_ble_eq_true rfl, Nat.le_of_ble_eq_true rfl⟩) ⟨pw_blind, tw_recv hK hT (fx_3 hX) (by decide) cl_e13 rfl, pw_use hT hK hFc hS hM⟩ rfl rfl hl.1 rfl (lv_room (Nat.le_of_ble_eq_true rfl)) dX3_lateOnes_17 ⟨Nat.le_of_ble_eq_true rfl, Nat.le_of_ble_eq_true rfl⟩) hS (fun q _ h => hFc q h) hFc (fun r0 r_3 t H locs ht hvm hw hB hz1 hk1 hS => ?_)
        refine W.widen (k := 0) (n := 0) (Nat.le_of_ble_eq_true rfl) (Nat.le_of_ble_eq_true rfl) ?_
        clear hvm hz1 hk1
        subst hw
        rcases hB with ⟨hre, hT⟩ | ⟨hre, hT⟩
        · refine lq_top (v := 1) hre ?_
          rw [ht] at hT
          refine lv_if_eq (tgt := 26) hx hb dX3_lateOnes_20 (by decide) (fun c_4 => absurd c_4 (by decide)) (fun c_4 => ?_)
          obtain ⟨x_5, ex_5⟩ : ∃ y : Int32, y = w1 + Int32.ofInt 1 := ⟨_, rfl⟩
          refine lv_iinc (v := x_5) (lv' := [(1, .int x_5), (0, .ref (a 3)), (2, .int i2)]) hx hb dX3_lateOnes_23 hl (k := 1) rfl ex_5.symm (by decide) rfl (fun ls hl => ?_)
          obtain ⟨x_6, ex_6⟩ : ∃ y : Int32, y = i2 + Int32.ofInt 1 := ⟨_, rfl⟩
          have hx_6 := z_add ex_6 rfl (zk (x := Int32.ofInt 1) 1 rfl) (by omega) (by omega)
          refine lv_iinc (v := x_6) (lv' := [(2, .int x_6), (1, .int x_5), (0, .ref (a 3))]) hx hb dX3_lateOnes_26 hl (k := 2) rfl ex_6.symm (by decide) rfl (fun ls hl => ?_)
          refine lv_goto (tgt := 4) hx hb dX3_lateOnes_29 (by decide) ?_
          exact ih_4  x_5 x_6 H _ ls (by omega) (by omega) (by omega) hT hS (lv_sub hl [2, 1, 0] rfl)
        · refine lq_top (v := 0) hre ?_
          rw [ht] at hT
          refine lv_if_eq (tgt := 26) hx hb dX3_lateOnes_20 (by decide) (fun c_7 => ?_) (fun c_7 => absurd c_7 (by decide))
          obtain ⟨x_8, ex_8⟩ : ∃ y : Int32, y = i2 + Int32.ofInt 1 := ⟨_, rfl⟩
          have hx_8 := z_add ex_8 rfl (zk (x := Int32.ofInt 1) 1 rfl) (by omega) (by omega)
          refine lv_iinc (v := x_8) (lv' := [(2, .int x_8), (0, .ref (a 3)), (1, .int w1)]) hx hb dX3_lateOnes_26 hl (k := 2) rfl ex_8.symm (by decide) rfl (fun ls hl => ?_)
          refine lv_goto (tgt := 4) hx hb dX3_lateOnes_29 (by decide) ?_
          exact ih_4  w1 x_8 H _ ls (by omega) (by omega) (by omega) hT hS (lv_sub hl [1, 2, 0] rfl)
  have hp_9 : (0 : Int32).toInt = 0 := (zk (x := 0) 0 rfl)
  have hp_10 : (0 : Int32).toInt = 0 := (zk (x := 0) 0 rfl)
  exact loop_4 _ (0 : Int32) (0 : Int32) s.heap _ ls (Nat.lt_succ_self _) (by omega) (by omega) hT hS (lv_sub hl [2, 1, 0] rfl)
def wo_c_linesDoneBy : List Cond := [.fieldLink RX3 43 "TypingPool$Floor" "book" "LTypingPool$Book;", .fieldLink RX3 85 "TypingPool$Book" "pieceCount" "I", .methodLink RX3 202 yX3_isDoneBy, .instanceMethod yX3_isDoneBy, .selects RX3 yX3_isDoneBy yX3_isDoneBy, .initialized RX3, .fieldLink RX3 103 "TypingPool$Book" "pieces" "[LTypingPool$Piece;", .fieldLink RX3 187 "TypingPool$Piece" "lines" "I"]
def wm_c_linesDoneBy : List Cond := .code yX3_linesDoneBy cX3_linesDoneBy 4 (some .int) :: (wo_c_linesDoneBy ++ (wsX30 ++ (wsX10 ++ (wm_c_isDoneBy ++ (wsX60 ++ ([] : List Cond))))))
theorem gd_c_linesDoneBy : ∀ w ∈ wm_c_linesDoneBy, goodWord w = true := gd_c rfl (gd_a (by decide) (gd_a gd_wsX30 (gd_a gd_wsX10 (gd_a gd_c_isDoneBy (gd_a gd_wsX60 gd_nil)))))
set_option maxRecDepth 20000 in
theorem im_c_linesDoneBy : ∀ w ∈ wm_c_linesDoneBy, w ∈ lw_tbl := im_c (in_r [.code yX3_linesDoneBy cX3_linesDoneBy 4 (some .int)] [996] (by decide +kernel)) (in_app (in_r wo_c_linesDoneBy [426, 134, 997, 967, 968, 83, 130, 673] (by decide +kernel)) (in_app im_wsX30 (in_app im_wsX10 (in_app im_c_isDoneBy (in_app im_wsX60 im_nil)))))
set_option maxHeartbeats 4000000 in
set_option maxRecDepth 100000 in
theorem c_linesDoneBy (l : Launch) (dC : Nat → ClassId) (dI : Nat → Nat → Nat) (ad av : Nat → Nat) (sz : Nat) (a : Nat → Nat) (k : Nat → ClassId) (τ ln : Nat → Nat) (y : Nat → Nat → Int32) (g : Nat → Nat → Option Nat) (u : Nat → Int) (p0 : Int32) (hI : IC a u τ ln y g) : Met l yX3_linesDoneBy wm_c_linesDoneBy ({ frames := 1, cells := 0, slots := 0, locals := 60 }) (pw_ ad av (dC, dI) sz [.ref (a 3), .int p0] a k τ ln y g) (va_Qi (fun (r u : Int32) => u = r) (fun (r : Int32) (t : State) => (tw (dC, dI) a k τ ln y g t.heap)) (fr τ sz)) 0 0 (fr τ sz) := by
  refine Met.ofW (cc := cX3_linesDoneBy) (maxL := 4) (ret := (some .int)) (by decide) rfl ?_
  intro p e s m args below meth c s₁ B hml hv
  obtain ⟨rfl, hsz, hT, hK, hM⟩ := hv
  have hx := B.exec
  have hb := B.bytes
  have hr := B.returns
  have hts := atoms_spec (ws := wm_c_linesDoneBy) B.pre
  have hown : s.vm.findClass RX3 = some m.cls := findClass_of_methodNamed B.named
  have hlocks := B.notSynchronized
  subst hsz
  generalize hAe : fr τ s.heap.size = A at hM ⊢
  have hA : ∀ q : Nat, s.heap.size ≤ q → A q := fun q h => by rw [← hAe]; exact Or.inr h
  have hF : ∀ q, τ q ≠ 0 → A q := fun q h => by rw [← hAe]; exact Or.inl h
  have hS : va_S A s.heap s.heap [] := va_S.rf
  have hX := hI.1
  have hR := ic_r hI
  have hl := lv_entry ([.ref (a 3), .int p0]) (n := 4) (Nat.le_of_ble_eq_true rfl)
  rw [lg_entry_eq]
  generalize (lg_sl ([.ref (a 3), .int p0]) ++ List.replicate (4 - (lg_sl ([.ref (a 3), .int p0])).length) Slot.unset).toArray = ls at hl ⊢
  have hl : lv_has ls 4 [(0, .ref (a 3)), (1, .int p0)] := hl
  refine lv_iconst (v := 0) hx hb dX3_linesDoneBy_0 (by decide) ?_
  refine lv_istore_n (lv' := [(2, .int 0), (0, .ref (a 3)), (1, .int p0)]) hx hb dX3_linesDoneBy_1 rfl hl (by decide) rfl (fun ls hl => ?_)
  refine lv_iconst (v := 0) hx hb dX3_linesDoneBy_2 (by decide) ?_
  refine lv_istore_n (lv' := [(3, .int 0), (2, .int 0), (0, .ref (a 3)), (1, .int p0)]) hx hb dX3_linesDoneBy_3 rfl hl (by decide) rfl (fun ls hl => ?_)
  have loop_4 : ∀ (n : Nat) (w2 : Int32) (i3 : Int32) (H : Heap) (locs : List Loc) (ls : Array Slot), (u 2 - i3.toInt).toNat < n → 0 ≤ i3.toInt → i3.toInt ≤ u 2 → tw (dC, dI) a k τ ln y g H → va_S A s.heap H locs → lv_has ls 4 [(0, .ref (a 3)), (1, .int p0), (2, .int w2), (3, .int i3)] → W p l e (headSpec wm_c_linesDoneBy ({ frames := 1, cells := 0, slots := 0, locals := 60 })).room s m ([.ref (a 3), .int p0] : List Value).toArray below meth c H locs 0 0 (MQ below (va_Qi (fun (r u : Int32) => u = r) (fun (r : Int32) (t : State) => (tw (dC, dI) a k τ ln y g t.heap)) A) ([.ref (a 3), .int p0] : List Value).toArray s 0 0 A) (F0 m 4 ls []) := by
    intro n
    induction n with
    | zero => intro w2 i3 H locs ls hlt; exact absurd hlt (Nat.not_lt_zero _)
    | succ n ih_4 =>
      intro w2 i3 H locs ls hlt hi4_0 hi4_1 hT hS hl
      refine lv_iload_n hx hb dX3_linesDoneBy_4 rfl (lv_at hl 3 rfl) ?_
      refine lv_aload_n hx hb dX3_linesDoneBy_5 rfl (lv_at hl 0 rfl) ?_
      refine tw_get (D := (dC, dI)) (v := .ref (a 1)) (C := RX3) (T := TX3) (N := 12) hx hb hts (fun _ hh => (List.mem_cons_of_mem _ (List.mem_append_right _ (List.mem_append_left _ hh)))) hown hK hT (fx_3 hX) (by decide) cl_e13 rfl 0 (by decide) (hts (.fieldLink RX3 43 "TypingPool$Floor" "book" "LTypingPool$Book;") (List.mem_cons_of_mem _ (List.mem_append_left _ (List.mem_of_getElem? (i := 0) rfl)))) (fun _ h9 => h9) rfl dX3_linesDoneBy_6 ?_
      refine tw_get (D := (dC, dI)) (v := .int (y (a 1) 5)) (C := RX1) (T := TX1) (N := 8) hx hb hts (fun _ hh => (List.mem_cons_of_mem _ (List.mem_append_right _ (List.mem_append_right _ (List.mem_append_left _ hh))))) hown hK hT (fx_1 hX) (by decide) cl_e11 rfl 5 (by decide) (hts (.fieldLink RX3 85 "TypingPool$Book" "pieceCount" "I") (List.mem_cons_of_mem _ (List.mem_append_left _ (List.mem_of_getElem? (i := 1) rfl)))) (fun _ h9 => h9) rfl dX3_linesDoneBy_9 ?_
      have hc_1 := ic_2 hI
      refine lv_icmp_ge (tgt := 45) hx hb dX3_linesDoneBy_12 (by decide) (fun c_2 => ?_) (fun c_2 => ?_)
      · have nc_2 := z_le hc_1 rfl c_2
        refine lv_iload_n hx hb dX3_linesDoneBy_45 rfl (lv_at hl 2 rfl) ?_
        exact W.iret (v := w2) hx hb hr (fun t ht hW9 => ⟨⟨w2, w2, rfl, rfl, (tw_at ht hT)⟩, hS.F ht⟩) hS.2.2 dX3_linesDoneBy_46
      · have nc_2 := z_nle hc_1 rfl c_2
        refine lv_aload_n hx hb dX3_linesDoneBy_15 rfl (lv_at hl 0 rfl) ?_
        refine lv_iload_n hx hb dX3_linesDoneBy_16 rfl (lv_at hl 3 rfl) ?_
        refine lv_iload_n hx hb dX3_linesDoneBy_17 rfl (lv_at hl 1 rfl) ?_
        have hFc := tw_free hF hS hA
        refine va_calli (va_runV (As := [.int i3, .int p0]) (rest := []) ⟨hx, hb, hml, hown, hts⟩ (c_isDoneBy l dC dI ad av H.size a k τ ln y g u i3 p0 hI (by omega) (by omega)) (cwV 2 hts (gi_4 (List.mem_cons_of_mem _ (List.mem_append_left _ (List.mem_of_getElem? (i := 2) rfl))) (List.mem_cons_of_mem _ (List.mem_append_left _ (List.mem_of_getElem? (i := 3) rfl))) (List.mem_cons_of_mem _ (List.mem_append_left _ (List.mem_of_getElem? (i := 4) rfl))) (List.mem_cons_of_mem _ (List.mem_append_left _ (List.mem_of_getElem? (i := 5) rfl))) (fun _ hh => (List.mem_cons_of_mem _ (List.mem_append_right _ (List.mem_append_right _ (List.mem_append_right _ (List.mem_append_left _ hh)))))) gd_c_isDoneBy) rfl rfl rfl (by decide +kernel) ⟨Nat.le_of_ble_eq_true rfl, Nat.le_of_ble_eq_true rfl⟩) ⟨pw_blind, tw_recv hK hT (fx_3 hX) (by decide) cl_e13 rfl, pw_use hT hK hFc hS hM⟩ rfl rfl hl.1 rfl (lv_room (Nat.le_of_ble_eq_true rfl)) dX3_linesDoneBy_18 ⟨Nat.le_of_ble_eq_true rfl, Nat.le_of_ble_eq_true rfl⟩) hS (fun q _ h => hFc q h) hFc (fun r0 r_3 t H locs ht hvm hw hB hz1 hk1 hS => ?_)
        refine W.widen (k := 0) (n := 0) (Nat.le_of_ble_eq_true rfl) (Nat.le_of_ble_eq_true rfl) ?_
        clear hvm hz1 hk1
        subst hw
        rcases hB with ⟨hre, hT⟩ | ⟨hre, hT⟩
        · refine lq_top (v := 1) hre ?_
          rw [ht] at hT
          refine lv_if_eq (tgt := 39) hx hb dX3_linesDoneBy_21 (by decide) (fun c_4 => absurd c_4 (by decide)) (fun c_4 => ?_)
          refine lv_iload_n hx hb dX3_linesDoneBy_24 rfl (lv_at hl 2 rfl) ?_
          refine lv_aload_n hx hb dX3_linesDoneBy_25 rfl (lv_at hl 0 rfl) ?_
          refine tw_get (D := (dC, dI)) (v := .ref (a 1)) (C := RX3) (T := TX3) (N := 12) hx hb hts (fun _ hh => (List.mem_cons_of_mem _ (List.mem_append_right _ (List.mem_append_left _ hh)))) hown hK hT (fx_3 hX) (by decide) cl_e13 rfl 0 (by decide) (hts (.fieldLink RX3 43 "TypingPool$Floor" "book" "LTypingPool$Book;") (List.mem_cons_of_mem _ (List.mem_append_left _ (List.mem_of_getElem? (i := 0) rfl)))) (fun _ h9 => h9) rfl dX3_linesDoneBy_26 ?_
          refine tw_get (D := (dC, dI)) (v := .ref (a 11)) (C := RX1) (T := TX1) (N := 8) hx hb hts (fun _ hh => (List.mem_cons_of_mem _ (List.mem_append_right _ (List.mem_append_right _ (List.mem_append_left _ hh))))) hown hK hT (fx_1 hX) (by decide) cl_e11 rfl 4 (by decide) (hts (.fieldLink RX3 103 "TypingPool$Book" "pieces" "[LTypingPool$Piece;") (List.mem_cons_of_mem _ (List.mem_append_left _ (List.mem_of_getElem? (i := 6) rfl)))) (fun _ h9 => h9) rfl dX3_linesDoneBy_29 ?_
          refine lv_iload_n hx hb dX3_linesDoneBy_32 rfl (lv_at hl 3 rfl) ?_
          refine tw_aald hx hb hK hT 4 (fx_11 hX) (by decide) cl_e21 rfl (z_in rfl (by omega) (by omega)) dX3_linesDoneBy_33 ?_
          obtain ⟨q_5, hgq_5, htq_5⟩ := ic_l11 hI (x := i3) rfl (by omega) (by omega)
          refine lq_topr hgq_5 ?_
          refine tw_get (D := (dC, dI)) (v := .int (y q_5 2)) (C := RX6) (T := TX6) (N := 11) hx hb hts (fun _ hh => (List.mem_cons_of_mem _ (List.mem_append_right _ (List.mem_append_right _ (List.mem_append_right _ (List.mem_append_right _ (List.mem_append_left _ hh))))))) hown hK hT htq_5 (by decide) cl_e2 rfl 2 (by decide) (hts (.fieldLink RX3 187 "TypingPool$Piece" "lines" "I") (List.mem_cons_of_mem _ (List.mem_append_left _ (List.mem_of_getElem? (i := 7) rfl)))) (fun _ h9 => h9) rfl dX3_linesDoneBy_34 ?_
          refine lv_iadd hx hb dX3_linesDoneBy_37 ?_
          refine lv_topi (fun x_6 ex_6 => ?_)
          refine lv_istore_n (lv' := [(2, .int x_6), (0, .ref (a 3)), (1, .int p0), (3, .int i3)]) hx hb dX3_linesDoneBy_38 rfl hl (by decide) rfl (fun ls hl => ?_)
          obtain ⟨x_7, ex_7⟩ : ∃ y : Int32, y = i3 + Int32.ofInt 1 := ⟨_, rfl⟩
          have hx_7 := z_add ex_7 rfl (zk (x := Int32.ofInt 1) 1 rfl) (by omega) (by omega)
          refine lv_iinc (v := x_7) (lv' := [(3, .int x_7), (2, .int x_6), (0, .ref (a 3)), (1, .int p0)]) hx hb dX3_linesDoneBy_39 hl (k := 3) rfl ex_7.symm (by decide) rfl (fun ls hl => ?_)
          refine lv_goto (tgt := 4) hx hb dX3_linesDoneBy_42 (by decide) ?_
          exact ih_4  x_6 x_7 H _ ls (by omega) (by omega) (by omega) hT hS (lv_sub hl [2, 3, 1, 0] rfl)
        · refine lq_top (v := 0) hre ?_
          rw [ht] at hT
          refine lv_if_eq (tgt := 39) hx hb dX3_linesDoneBy_21 (by decide) (fun c_8 => ?_) (fun c_8 => absurd c_8 (by decide))
          obtain ⟨x_9, ex_9⟩ : ∃ y : Int32, y = i3 + Int32.ofInt 1 := ⟨_, rfl⟩
          have hx_9 := z_add ex_9 rfl (zk (x := Int32.ofInt 1) 1 rfl) (by omega) (by omega)
          refine lv_iinc (v := x_9) (lv' := [(3, .int x_9), (0, .ref (a 3)), (1, .int p0), (2, .int w2)]) hx hb dX3_linesDoneBy_39 hl (k := 3) rfl ex_9.symm (by decide) rfl (fun ls hl => ?_)
          refine lv_goto (tgt := 4) hx hb dX3_linesDoneBy_42 (by decide) ?_
          exact ih_4  w2 x_9 H _ ls (by omega) (by omega) (by omega) hT hS (lv_sub hl [1, 2, 3, 0] rfl)
  have hp_10 : (0 : Int32).toInt = 0 := (zk (x := 0) 0 rfl)
  have hp_11 : (0 : Int32).toInt = 0 := (zk (x := 0) 0 rfl)
  exact loop_4 _ (0 : Int32) (0 : Int32) s.heap _ ls (Nat.lt_succ_self _) (by omega) (by omega) hT hS (lv_sub hl [2, 3, 1, 0] rfl)
def wo_c_piecesDoneBy : List Cond := [.fieldLink RX3 43 "TypingPool$Floor" "book" "LTypingPool$Book;", .fieldLink RX3 85 "TypingPool$Book" "pieceCount" "I", .methodLink RX3 202 yX3_isDoneBy, .instanceMethod yX3_isDoneBy, .selects RX3 yX3_isDoneBy yX3_isDoneBy, .initialized RX3]
def wm_c_piecesDoneBy : List Cond := .code yX3_piecesDoneBy cX3_piecesDoneBy 4 (some .int) :: (wo_c_piecesDoneBy ++ (wsX30 ++ (wsX10 ++ (wm_c_isDoneBy ++ ([] : List Cond)))))
theorem gd_c_piecesDoneBy : ∀ w ∈ wm_c_piecesDoneBy, goodWord w = true := gd_c rfl (gd_a (by decide) (gd_a gd_wsX30 (gd_a gd_wsX10 (gd_a gd_c_isDoneBy gd_nil))))
set_option maxRecDepth 20000 in
theorem im_c_piecesDoneBy : ∀ w ∈ wm_c_piecesDoneBy, w ∈ lw_tbl := im_c (in_r [.code yX3_piecesDoneBy cX3_piecesDoneBy 4 (some .int)] [1158] (by decide +kernel)) (in_app (in_r wo_c_piecesDoneBy [426, 134, 997, 967, 968, 83] (by decide +kernel)) (in_app im_wsX30 (in_app im_wsX10 (in_app im_c_isDoneBy im_nil))))
set_option maxHeartbeats 4000000 in
set_option maxRecDepth 100000 in
theorem c_piecesDoneBy (l : Launch) (dC : Nat → ClassId) (dI : Nat → Nat → Nat) (ad av : Nat → Nat) (sz : Nat) (a : Nat → Nat) (k : Nat → ClassId) (τ ln : Nat → Nat) (y : Nat → Nat → Int32) (g : Nat → Nat → Option Nat) (u : Nat → Int) (p0 : Int32) (hI : IC a u τ ln y g) : Met l yX3_piecesDoneBy wm_c_piecesDoneBy ({ frames := 1, cells := 0, slots := 0, locals := 60 }) (pw_ ad av (dC, dI) sz [.ref (a 3), .int p0] a k τ ln y g) (va_Qi (fun (r u : Int32) => u = r) (fun (r : Int32) (t : State) => (tw (dC, dI) a k τ ln y g t.heap)) (fr τ sz)) 0 0 (fr τ sz) := by
  refine Met.ofW (cc := cX3_piecesDoneBy) (maxL := 4) (ret := (some .int)) (by decide) rfl ?_
  intro p e s m args below meth c s₁ B hml hv
  obtain ⟨rfl, hsz, hT, hK, hM⟩ := hv
  have hx := B.exec
  have hb := B.bytes
  have hr := B.returns
  have hts := atoms_spec (ws := wm_c_piecesDoneBy) B.pre
  have hown : s.vm.findClass RX3 = some m.cls := findClass_of_methodNamed B.named
  have hlocks := B.notSynchronized
  subst hsz
  generalize hAe : fr τ s.heap.size = A at hM ⊢
  have hA : ∀ q : Nat, s.heap.size ≤ q → A q := fun q h => by rw [← hAe]; exact Or.inr h
  have hF : ∀ q, τ q ≠ 0 → A q := fun q h => by rw [← hAe]; exact Or.inl h
  have hS : va_S A s.heap s.heap [] := va_S.rf
  have hX := hI.1
  have hR := ic_r hI
  have hl := lv_entry ([.ref (a 3), .int p0]) (n := 4) (Nat.le_of_ble_eq_true rfl)
  rw [lg_entry_eq]
  generalize (lg_sl ([.ref (a 3), .int p0]) ++ List.replicate (4 - (lg_sl ([.ref (a 3), .int p0])).length) Slot.unset).toArray = ls at hl ⊢
  have hl : lv_has ls 4 [(0, .ref (a 3)), (1, .int p0)] := hl
  refine lv_iconst (v := 0) hx hb dX3_piecesDoneBy_0 (by decide) ?_
  refine lv_istore_n (lv' := [(2, .int 0), (0, .ref (a 3)), (1, .int p0)]) hx hb dX3_piecesDoneBy_1 rfl hl (by decide) rfl (fun ls hl => ?_)
  refine lv_iconst (v := 0) hx hb dX3_piecesDoneBy_2 (by decide) ?_
  refine lv_istore_n (lv' := [(3, .int 0), (2, .int 0), (0, .ref (a 3)), (1, .int p0)]) hx hb dX3_piecesDoneBy_3 rfl hl (by decide) rfl (fun ls hl => ?_)
  have loop_4 : ∀ (n : Nat) (w2 : Int32) (i3 : Int32) (H : Heap) (locs : List Loc) (ls : Array Slot), (u 2 - i3.toInt).toNat < n → 0 ≤ i3.toInt → i3.toInt ≤ u 2 → tw (dC, dI) a k τ ln y g H → va_S A s.heap H locs → lv_has ls 4 [(0, .ref (a 3)), (1, .int p0), (2, .int w2), (3, .int i3)] → W p l e (headSpec wm_c_piecesDoneBy ({ frames := 1, cells := 0, slots := 0, locals := 60 })).room s m ([.ref (a 3), .int p0] : List Value).toArray below meth c H locs 0 0 (MQ below (va_Qi (fun (r u : Int32) => u = r) (fun (r : Int32) (t : State) => (tw (dC, dI) a k τ ln y g t.heap)) A) ([.ref (a 3), .int p0] : List Value).toArray s 0 0 A) (F0 m 4 ls []) := by
    intro n
    induction n with
    | zero => intro w2 i3 H locs ls hlt; exact absurd hlt (Nat.not_lt_zero _)
    | succ n ih_4 =>
      intro w2 i3 H locs ls hlt hi4_0 hi4_1 hT hS hl
      refine lv_iload_n hx hb dX3_piecesDoneBy_4 rfl (lv_at hl 3 rfl) ?_
      refine lv_aload_n hx hb dX3_piecesDoneBy_5 rfl (lv_at hl 0 rfl) ?_
      refine tw_get (D := (dC, dI)) (v := .ref (a 1)) (C := RX3) (T := TX3) (N := 12) hx hb hts (fun _ hh => (List.mem_cons_of_mem _ (List.mem_append_right _ (List.mem_append_left _ hh)))) hown hK hT (fx_3 hX) (by decide) cl_e13 rfl 0 (by decide) (hts (.fieldLink RX3 43 "TypingPool$Floor" "book" "LTypingPool$Book;") (List.mem_cons_of_mem _ (List.mem_append_left _ (List.mem_of_getElem? (i := 0) rfl)))) (fun _ h9 => h9) rfl dX3_piecesDoneBy_6 ?_
      refine tw_get (D := (dC, dI)) (v := .int (y (a 1) 5)) (C := RX1) (T := TX1) (N := 8) hx hb hts (fun _ hh => (List.mem_cons_of_mem _ (List.mem_append_right _ (List.mem_append_right _ (List.mem_append_left _ hh))))) hown hK hT (fx_1 hX) (by decide) cl_e11 rfl 5 (by decide) (hts (.fieldLink RX3 85 "TypingPool$Book" "pieceCount" "I") (List.mem_cons_of_mem _ (List.mem_append_left _ (List.mem_of_getElem? (i := 1) rfl)))) (fun _ h9 => h9) rfl dX3_piecesDoneBy_9 ?_
      have hc_1 := ic_2 hI
      refine lv_icmp_ge (tgt := 33) hx hb dX3_piecesDoneBy_12 (by decide) (fun c_2 => ?_) (fun c_2 => ?_)
      · have nc_2 := z_le hc_1 rfl c_2
        refine lv_iload_n hx hb dX3_piecesDoneBy_33 rfl (lv_at hl 2 rfl) ?_
        exact W.iret (v := w2) hx hb hr (fun t ht hW9 => ⟨⟨w2, w2, rfl, rfl, (tw_at ht hT)⟩, hS.F ht⟩) hS.2.2 dX3_piecesDoneBy_34
      · have nc_2 := z_nle hc_1 rfl c_2
        refine lv_aload_n hx hb dX3_piecesDoneBy_15 rfl (lv_at hl 0 rfl) ?_
        refine lv_iload_n hx hb dX3_piecesDoneBy_16 rfl (lv_at hl 3 rfl) ?_
        refine lv_iload_n hx hb dX3_piecesDoneBy_17 rfl (lv_at hl 1 rfl) ?_
        have hFc := tw_free hF hS hA
        refine va_calli (va_runV (As := [.int i3, .int p0]) (rest := []) ⟨hx, hb, hml, hown, hts⟩ (c_isDoneBy l dC dI ad av H.size a k τ ln y g u i3 p0 hI (by omega) (by omega)) (cwV 2 hts (gi_4 (List.mem_cons_of_mem _ (List.mem_append_left _ (List.mem_of_getElem? (i := 2) rfl))) (List.mem_cons_of_mem _ (List.mem_append_left _ (List.mem_of_getElem? (i := 3) rfl))) (List.mem_cons_of_mem _ (List.mem_append_left _ (List.mem_of_getElem? (i := 4) rfl))) (List.mem_cons_of_mem _ (List.mem_append_left _ (List.mem_of_getElem? (i := 5) rfl))) (fun _ hh => (List.mem_cons_of_mem _ (List.mem_append_right _ (List.mem_append_right _ (List.mem_append_right _ (List.mem_append_left _ hh)))))) gd_c_isDoneBy) rfl rfl rfl (by decide +kernel) ⟨Nat.le_of_ble_eq_true rfl, Nat.le_of_ble_eq_true rfl⟩) ⟨pw_blind, tw_recv hK hT (fx_3 hX) (by decide) cl_e13 rfl, pw_use hT hK hFc hS hM⟩ rfl rfl hl.1 rfl (lv_room (Nat.le_of_ble_eq_true rfl)) dX3_piecesDoneBy_18 ⟨Nat.le_of_ble_eq_true rfl, Nat.le_of_ble_eq_true rfl⟩) hS (fun q _ h => hFc q h) hFc (fun r0 r_3 t H locs ht hvm hw hB hz1 hk1 hS => ?_)
        refine W.widen (k := 0) (n := 0) (Nat.le_of_ble_eq_true rfl) (Nat.le_of_ble_eq_true rfl) ?_
        clear hvm hz1 hk1
        subst hw
        rcases hB with ⟨hre, hT⟩ | ⟨hre, hT⟩
        · refine lq_top (v := 1) hre ?_
          rw [ht] at hT
          refine lv_if_eq (tgt := 27) hx hb dX3_piecesDoneBy_21 (by decide) (fun c_4 => absurd c_4 (by decide)) (fun c_4 => ?_)
          obtain ⟨x_5, ex_5⟩ : ∃ y : Int32, y = w2 + Int32.ofInt 1 := ⟨_, rfl⟩
          refine lv_iinc (v := x_5) (lv' := [(2, .int x_5), (0, .ref (a 3)), (1, .int p0), (3, .int i3)]) hx hb dX3_piecesDoneBy_24 hl (k := 2) rfl ex_5.symm (by decide) rfl (fun ls hl => ?_)
          obtain ⟨x_6, ex_6⟩ : ∃ y : Int32, y = i3 + Int32.ofInt 1 := ⟨_, rfl⟩
          have hx_6 := z_add ex_6 rfl (zk (x := Int32.ofInt 1) 1 rfl) (by omega) (by omega)
          refine lv_iinc (v := x_6) (lv' := [(3, .int x_6), (2, .int x_5), (0, .ref (a 3)), (1, .int p0)]) hx hb dX3_piecesDoneBy_27 hl (k := 3) rfl ex_6.symm (by decide) rfl (fun ls hl => ?_)
          refine lv_goto (tgt := 4) hx hb dX3_piecesDoneBy_30 (by decide) ?_
          exact ih_4  x_5 x_6 H _ ls (by omega) (by omega) (by omega) hT hS (lv_sub hl [2, 3, 1, 0] rfl)
        · refine lq_top (v := 0) hre ?_
          rw [ht] at hT
          refine lv_if_eq (tgt := 27) hx hb dX3_piecesDoneBy_21 (by decide) (fun c_7 => ?_) (fun c_7 => absurd c_7 (by decide))
          obtain ⟨x_8, ex_8⟩ : ∃ y : Int32, y = i3 + Int32.ofInt 1 := ⟨_, rfl⟩
          have hx_8 := z_add ex_8 rfl (zk (x := Int32.ofInt 1) 1 rfl) (by omega) (by omega)
          refine lv_iinc (v := x_8) (lv' := [(3, .int x_8), (0, .ref (a 3)), (1, .int p0), (2, .int w2)]) hx hb dX3_piecesDoneBy_27 hl (k := 3) rfl ex_8.symm (by decide) rfl (fun ls hl => ?_)
          refine lv_goto (tgt := 4) hx hb dX3_piecesDoneBy_30 (by decide) ?_
          exact ih_4  w2 x_8 H _ ls (by omega) (by omega) (by omega) hT hS (lv_sub hl [1, 2, 3, 0] rfl)
  have hp_9 : (0 : Int32).toInt = 0 := (zk (x := 0) 0 rfl)
  have hp_10 : (0 : Int32).toInt = 0 := (zk (x := 0) 0 rfl)
  exact loop_4 _ (0 : Int32) (0 : Int32) s.heap _ ls (Nat.lt_succ_self _) (by omega) (by omega) hT hS (lv_sub hl [2, 3, 1, 0] rfl)
def wo_c_plainMinutesOf : List Cond := [.fieldLink RX3 43 "TypingPool$Floor" "book" "LTypingPool$Book;", .fieldLink RX3 85 "TypingPool$Book" "pieceCount" "I", .methodLink RX3 202 yX3_isDoneBy, .instanceMethod yX3_isDoneBy, .selects RX3 yX3_isDoneBy yX3_isDoneBy, .initialized RX3, .fieldLink RX3 103 "TypingPool$Book" "pieces" "[LTypingPool$Piece;", .methodLink RX3 205 yX6_allWork, .instanceMethod yX6_allWork, .selects RX6 yX6_allWork yX6_allWork, .initialized RX6, .initialized RX11, .static yX11_minutesFor]
def wm_c_plainMinutesOf : List Cond := .code yX3_plainMinutesOf cX3_plainMinutesOf 4 (some .int) :: (wo_c_plainMinutesOf ++ (wsX30 ++ (wsX10 ++ (wm_c_isDoneBy ++ (wm_c_allWork ++ (wm_c_minutesFor ++ ([] : List Cond)))))))
theorem gd_c_plainMinutesOf : ∀ w ∈ wm_c_plainMinutesOf, goodWord w = true := gd_c rfl (gd_a (by decide) (gd_a gd_wsX30 (gd_a gd_wsX10 (gd_a gd_c_isDoneBy (gd_a gd_c_allWork (gd_a gd_c_minutesFor gd_nil))))))
set_option maxRecDepth 20000 in
theorem im_c_plainMinutesOf : ∀ w ∈ wm_c_plainMinutesOf, w ∈ lw_tbl := im_c (in_r [.code yX3_plainMinutesOf cX3_plainMinutesOf 4 (some .int)] [1001] (by decide +kernel)) (in_app (in_r wo_c_plainMinutesOf [426, 134, 997, 967, 968, 83, 130, 1002, 720, 721, 89, 70, 845] (by decide +kernel)) (in_app im_wsX30 (in_app im_wsX10 (in_app im_c_isDoneBy (in_app im_c_allWork (in_app im_c_minutesFor im_nil))))))
set_option maxHeartbeats 4000000 in
set_option maxRecDepth 100000 in
theorem c_plainMinutesOf (l : Launch) (dC : Nat → ClassId) (dI : Nat → Nat → Nat) (ad av : Nat → Nat) (sz : Nat) (a : Nat → Nat) (k : Nat → ClassId) (τ ln : Nat → Nat) (y : Nat → Nat → Int32) (g : Nat → Nat → Option Nat) (u : Nat → Int) (p0 : Int32) (hI : IC a u τ ln y g) : Met l yX3_plainMinutesOf wm_c_plainMinutesOf ({ frames := 1, cells := 0, slots := 0, locals := 60 }) (pw_ ad av (dC, dI) sz [.ref (a 3), .int p0] a k τ ln y g) (va_Qi (fun (r u : Int32) => u = r) (fun (r : Int32) (t : State) => (tw (dC, dI) a k τ ln y g t.heap)) (fr τ sz)) 0 0 (fr τ sz) := by
  refine Met.ofW (cc := cX3_plainMinutesOf) (maxL := 4) (ret := (some .int)) (by decide) rfl ?_
  intro p e s m args below meth c s₁ B hml hv
  obtain ⟨rfl, hsz, hT, hK, hM⟩ := hv
  have hx := B.exec
  have hb := B.bytes
  have hr := B.returns
  have hts := atoms_spec (ws := wm_c_plainMinutesOf) B.pre
  have hown : s.vm.findClass RX3 = some m.cls := findClass_of_methodNamed B.named
  have hlocks := B.notSynchronized
  subst hsz
  generalize hAe : fr τ s.heap.size = A at hM ⊢
  have hA : ∀ q : Nat, s.heap.size ≤ q → A q := fun q h => by rw [← hAe]; exact Or.inr h
  have hF : ∀ q, τ q ≠ 0 → A q := fun q h => by rw [← hAe]; exact Or.inl h
  have hS : va_S A s.heap s.heap [] := va_S.rf
  have hX := hI.1
  have hR := ic_r hI
  have hl := lv_entry ([.ref (a 3), .int p0]) (n := 4) (Nat.le_of_ble_eq_true rfl)
  rw [lg_entry_eq]
  generalize (lg_sl ([.ref (a 3), .int p0]) ++ List.replicate (4 - (lg_sl ([.ref (a 3), .int p0])).length) Slot.unset).toArray = ls at hl ⊢
  have hl : lv_has ls 4 [(0, .ref (a 3)), (1, .int p0)] := hl
  refine lv_iconst (v := 0) hx hb dX3_plainMinutesOf_0 (by decide) ?_
  refine lv_istore_n (lv' := [(2, .int 0), (0, .ref (a 3)), (1, .int p0)]) hx hb dX3_plainMinutesOf_1 rfl hl (by decide) rfl (fun ls hl => ?_)
  refine lv_iconst (v := 0) hx hb dX3_plainMinutesOf_2 (by decide) ?_
  refine lv_istore_n (lv' := [(3, .int 0), (2, .int 0), (0, .ref (a 3)), (1, .int p0)]) hx hb dX3_plainMinutesOf_3 rfl hl (by decide) rfl (fun ls hl => ?_)
  have loop_4 : ∀ (n : Nat) (w2 : Int32) (i3 : Int32) (H : Heap) (locs : List Loc) (ls : Array Slot), (u 2 - i3.toInt).toNat < n → 0 ≤ i3.toInt → i3.toInt ≤ u 2 → tw (dC, dI) a k τ ln y g H → va_S A s.heap H locs → lv_has ls 4 [(0, .ref (a 3)), (1, .int p0), (2, .int w2), (3, .int i3)] → W p l e (headSpec wm_c_plainMinutesOf ({ frames := 1, cells := 0, slots := 0, locals := 60 })).room s m ([.ref (a 3), .int p0] : List Value).toArray below meth c H locs 0 0 (MQ below (va_Qi (fun (r u : Int32) => u = r) (fun (r : Int32) (t : State) => (tw (dC, dI) a k τ ln y g t.heap)) A) ([.ref (a 3), .int p0] : List Value).toArray s 0 0 A) (F0 m 4 ls []) := by
    intro n
    induction n with
    | zero => intro w2 i3 H locs ls hlt; exact absurd hlt (Nat.not_lt_zero _)
    | succ n ih_4 =>
      intro w2 i3 H locs ls hlt hi4_0 hi4_1 hT hS hl
      refine lv_iload_n hx hb dX3_plainMinutesOf_4 rfl (lv_at hl 3 rfl) ?_
      refine lv_aload_n hx hb dX3_plainMinutesOf_5 rfl (lv_at hl 0 rfl) ?_
      refine tw_get (D := (dC, dI)) (v := .ref (a 1)) (C := RX3) (T := TX3) (N := 12) hx hb hts (fun _ hh => (List.mem_cons_of_mem _ (List.mem_append_right _ (List.mem_append_left _ hh)))) hown hK hT (fx_3 hX) (by decide) cl_e13 rfl 0 (by decide) (hts (.fieldLink RX3 43 "TypingPool$Floor" "book" "LTypingPool$Book;") (List.mem_cons_of_mem _ (List.mem_append_left _ (List.mem_of_getElem? (i := 0) rfl)))) (fun _ h9 => h9) rfl dX3_plainMinutesOf_6 ?_
      refine tw_get (D := (dC, dI)) (v := .int (y (a 1) 5)) (C := RX1) (T := TX1) (N := 8) hx hb hts (fun _ hh => (List.mem_cons_of_mem _ (List.mem_append_right _ (List.mem_append_right _ (List.mem_append_left _ hh))))) hown hK hT (fx_1 hX) (by decide) cl_e11 rfl 5 (by decide) (hts (.fieldLink RX3 85 "TypingPool$Book" "pieceCount" "I") (List.mem_cons_of_mem _ (List.mem_append_left _ (List.mem_of_getElem? (i := 1) rfl)))) (fun _ h9 => h9) rfl dX3_plainMinutesOf_9 ?_
      have hc_1 := ic_2 hI
      refine lv_icmp_ge (tgt := 50) hx hb dX3_plainMinutesOf_12 (by decide) (fun c_2 => ?_) (fun c_2 => ?_)
      · have nc_2 := z_le hc_1 rfl c_2
        refine lv_iload_n hx hb dX3_plainMinutesOf_50 rfl (lv_at hl 2 rfl) ?_
        exact W.iret (v := w2) hx hb hr (fun t ht hW9 => ⟨⟨w2, w2, rfl, rfl, (tw_at ht hT)⟩, hS.F ht⟩) hS.2.2 dX3_plainMinutesOf_51
      · have nc_2 := z_nle hc_1 rfl c_2
        refine lv_aload_n hx hb dX3_plainMinutesOf_15 rfl (lv_at hl 0 rfl) ?_
        refine lv_iload_n hx hb dX3_plainMinutesOf_16 rfl (lv_at hl 3 rfl) ?_
        refine lv_iload_n hx hb dX3_plainMinutesOf_17 rfl (lv_at hl 1 rfl) ?_
        have hFc := tw_free hF hS hA
        refine va_calli (va_runV (As := [.int i3, .int p0]) (rest := []) ⟨hx, hb, hml, hown, hts⟩ (c_isDoneBy l dC dI ad av H.size a k τ ln y g u i3 p0 hI (by omega) (by omega)) (cwV 2 hts (gi_4 (List.mem_cons_of_mem _ (List.mem_append_left _ (List.mem_of_getElem? (i := 2) rfl))) (List.mem_cons_of_mem _ (List.mem_append_left _ (List.mem_of_getElem? (i := 3) rfl))) (List.mem_cons_of_mem _ (List.mem_append_left _ (List.mem_of_getElem? (i := 4) rfl))) (List.mem_cons_of_mem _ (List.mem_append_left _ (List.mem_of_getElem? (i := 5) rfl))) (fun _ hh => (List.mem_cons_of_mem _ (List.mem_append_right _ (List.mem_append_right _ (List.mem_append_right _ (List.mem_append_left _ hh)))))) gd_c_isDoneBy) rfl rfl rfl (by decide +kernel) ⟨Nat.le_of_ble_eq_true rfl, Nat.le_of_ble_eq_true rfl⟩) ⟨pw_blind, tw_recv hK hT (fx_3 hX) (by decide) cl_e13 rfl, pw_use hT hK hFc hS hM⟩ rfl rfl hl.1 rfl (lv_room (Nat.le_of_ble_eq_true rfl)) dX3_plainMinutesOf_18 ⟨Nat.le_of_ble_eq_true rfl, Nat.le_of_ble_eq_true rfl⟩) hS (fun q _ h => hFc q h) hFc (fun r0 r_3 t H locs ht hvm hw hB hz1 hk1 hS => ?_)
        refine W.widen (k := 0) (n := 0) (Nat.le_of_ble_eq_true rfl) (Nat.le_of_ble_eq_true rfl) ?_
        clear hvm hz1 hk1
        subst hw
        rcases hB with ⟨hre, hT⟩ | ⟨hre, hT⟩
        · refine lq_top (v := 1) hre ?_
          rw [ht] at hT
          refine lv_if_eq (tgt := 44) hx hb dX3_plainMinutesOf_21 (by decide) (fun c_4 => absurd c_4 (by decide)) (fun c_4 => ?_)
          refine lv_iload_n hx hb dX3_plainMinutesOf_24 rfl (lv_at hl 2 rfl) ?_
          refine lv_aload_n hx hb dX3_plainMinutesOf_25 rfl (lv_at hl 0 rfl) ?_
          refine tw_get (D := (dC, dI)) (v := .ref (a 1)) (C := RX3) (T := TX3) (N := 12) hx hb hts (fun _ hh => (List.mem_cons_of_mem _ (List.mem_append_right _ (List.mem_append_left _ hh)))) hown hK hT (fx_3 hX) (by decide) cl_e13 rfl 0 (by decide) (hts (.fieldLink RX3 43 "TypingPool$Floor" "book" "LTypingPool$Book;") (List.mem_cons_of_mem _ (List.mem_append_left _ (List.mem_of_getElem? (i := 0) rfl)))) (fun _ h9 => h9) rfl dX3_plainMinutesOf_26 ?_
          refine tw_get (D := (dC, dI)) (v := .ref (a 11)) (C := RX1) (T := TX1) (N := 8) hx hb hts (fun _ hh => (List.mem_cons_of_mem _ (List.mem_append_right _ (List.mem_append_right _ (List.mem_append_left _ hh))))) hown hK hT (fx_1 hX) (by decide) cl_e11 rfl 4 (by decide) (hts (.fieldLink RX3 103 "TypingPool$Book" "pieces" "[LTypingPool$Piece;") (List.mem_cons_of_mem _ (List.mem_append_left _ (List.mem_of_getElem? (i := 6) rfl)))) (fun _ h9 => h9) rfl dX3_plainMinutesOf_29 ?_
          refine lv_iload_n hx hb dX3_plainMinutesOf_32 rfl (lv_at hl 3 rfl) ?_
          refine tw_aald hx hb hK hT 4 (fx_11 hX) (by decide) cl_e21 rfl (z_in rfl (by omega) (by omega)) dX3_plainMinutesOf_33 ?_
          obtain ⟨q_5, hgq_5, htq_5⟩ := ic_l11 hI (x := i3) rfl (by omega) (by omega)
          refine lq_topr hgq_5 ?_
          have hFc := tw_free hF hS hA
          refine va_calli (va_runV (As := []) (rest := [.int w2]) ⟨hx, hb, hml, hown, hts⟩ (c_allWork l dC dI ad av H.size a k τ ln y g u q_5 hI htq_5) (cwV 0 hts (gi_4 (List.mem_cons_of_mem _ (List.mem_append_left _ (List.mem_of_getElem? (i := 7) rfl))) (List.mem_cons_of_mem _ (List.mem_append_left _ (List.mem_of_getElem? (i := 8) rfl))) (List.mem_cons_of_mem _ (List.mem_append_left _ (List.mem_of_getElem? (i := 9) rfl))) (List.mem_cons_of_mem _ (List.mem_append_left _ (List.mem_of_getElem? (i := 10) rfl))) (fun _ hh => (List.mem_cons_of_mem _ (List.mem_append_right _ (List.mem_append_right _ (List.mem_append_right _ (List.mem_append_right _ (List.mem_append_left _ hh))))))) gd_c_allWork) rfl rfl rfl (by decide +kernel) ⟨Nat.le_of_ble_eq_true rfl, Nat.le_of_ble_eq_true rfl⟩) ⟨pw_blind, tw_recv hK hT htq_5 (by decide) cl_e2 rfl, pw_use hT hK hFc hS hM⟩ rfl rfl hl.1 rfl (lv_room (Nat.le_of_ble_eq_true rfl)) dX3_plainMinutesOf_34 ⟨Nat.le_of_ble_eq_true rfl, Nat.le_of_ble_eq_true rfl⟩) hS (fun q _ h => hFc q h) hFc (fun r0 r_6 t H locs ht hvm hw hB hz1 hk1 hS => ?_)
          refine W.widen (k := 0) (n := 0) (Nat.le_of_ble_eq_true rfl) (Nat.le_of_ble_eq_true rfl) ?_
          clear hvm hz1 hk1
          subst hw
          have hT := hB
          rw [ht] at hT
          refine lv_bipush (v := 60) hx hb dX3_plainMinutesOf_37 (by decide) ?_
          have hFc := tw_free hF hS hA
          have hp_7 : (60 : Int32).toInt = 60 := (zk (x := 60) 60 rfl)
          refine va_calli (va_runSN (As := [.int r_6, .int 60]) (rest := [.int w2]) ⟨hx, hb, hml, hown, hts⟩ (c_minutesFor l dC dI ad av H.size a k τ ln y g u r_6 (60 : Int32)  ) ⟨va_cnB 2 hts (gi_0  (fun _ hh => (List.mem_cons_of_mem _ (List.mem_append_right _ (List.mem_append_right _ (List.mem_append_right _ (List.mem_append_right _ (List.mem_append_right _ (List.mem_append_left _ hh)))))))) gd_c_minutesFor) rfl rfl rfl hM.1.2.2.1 (hts (.initialized RX11) (List.mem_cons_of_mem _ (List.mem_append_left _ (List.mem_of_getElem? (i := 11) rfl)))) (by decide +kernel) ⟨Nat.le_of_ble_eq_true rfl, Nat.le_of_ble_eq_true rfl⟩, (hts (.static yX11_minutesFor) (List.mem_cons_of_mem _ (List.mem_append_left _ (List.mem_of_getElem? (i := 12) rfl)))), trivial⟩ ⟨pw_blind, pw_use hT hK hFc hS hM⟩ rfl rfl hl.1 rfl (lv_room (Nat.le_of_ble_eq_true rfl)) dX3_plainMinutesOf_39 ⟨Nat.le_of_ble_eq_true rfl, Nat.le_of_ble_eq_true rfl⟩) hS (fun q _ h => hFc q h) hFc (fun r0 r_8 t H locs ht hvm hw hB hz1 hk1 hS => ?_)
          refine W.widen (k := 0) (n := 0) (Nat.le_of_ble_eq_true rfl) (Nat.le_of_ble_eq_true rfl) ?_
          clear hvm hz1 hk1
          subst hw
          have hT := hB
          rw [ht] at hT
          clear hp_7
          refine lv_iadd hx hb dX3_plainMinutesOf_42 ?_
          refine lv_topi (fun x_9 ex_9 => ?_)
          refine lv_istore_n (lv' := [(2, .int x_9), (0, .ref (a 3)), (1, .int p0), (3, .int i3)]) hx hb dX3_plainMinutesOf_43 rfl hl (by decide) rfl (fun ls hl => ?_)
          obtain ⟨x_10, ex_10⟩ : ∃ y : Int32, y = i3 + Int32.ofInt 1 := ⟨_, rfl⟩
          have hx_10 := z_add ex_10 rfl (zk (x := Int32.ofInt 1) 1 rfl) (by omega) (by omega)
          refine lv_iinc (v := x_10) (lv' := [(3, .int x_10), (2, .int x_9), (0, .ref (a 3)), (1, .int p0)]) hx hb dX3_plainMinutesOf_44 hl (k := 3) rfl ex_10.symm (by decide) rfl (fun ls hl => ?_)
          refine lv_goto (tgt := 4) hx hb dX3_plainMinutesOf_47 (by decide) ?_
          exact ih_4  x_9 x_10 H _ ls (by omega) (by omega) (by omega) hT hS (lv_sub hl [2, 3, 1, 0] rfl)
        · refine lq_top (v := 0) hre ?_
          rw [ht] at hT
          refine lv_if_eq (tgt := 44) hx hb dX3_plainMinutesOf_21 (by decide) (fun c_11 => ?_) (fun c_11 => absurd c_11 (by decide))
          obtain ⟨x_12, ex_12⟩ : ∃ y : Int32, y = i3 + Int32.ofInt 1 := ⟨_, rfl⟩
          have hx_12 := z_add ex_12 rfl (zk (x := Int32.ofInt 1) 1 rfl) (by omega) (by omega)
          refine lv_iinc (v := x_12) (lv' := [(3, .int x_12), (0, .ref (a 3)), (1, .int p0), (2, .int w2)]) hx hb dX3_plainMinutesOf_44 hl (k := 3) rfl ex_12.symm (by decide) rfl (fun ls hl => ?_)
          refine lv_goto (tgt := 4) hx hb dX3_plainMinutesOf_47 (by decide) ?_
          exact ih_4  w2 x_12 H _ ls (by omega) (by omega) (by omega) hT hS (lv_sub hl [1, 2, 3, 0] rfl)
  have hp_13 : (0 : Int32).toInt = 0 := (zk (x := 0) 0 rfl)
  have hp_14 : (0 : Int32).toInt = 0 := (zk (x := 0) 0 rfl)
  exact loop_4 _ (0 : Int32) (0 : Int32) s.heap _ ls (Nat.lt_succ_self _) (by omega) (by omega) hT hS (lv_sub hl [2, 3, 1, 0] rfl)
def wo_c_waitedIn : List Cond := [.fieldLink RX3 43 "TypingPool$Floor" "book" "LTypingPool$Book;", .fieldLink RX3 85 "TypingPool$Book" "pieceCount" "I", .fieldLink RX3 103 "TypingPool$Book" "pieces" "[LTypingPool$Piece;", .fieldLink RX3 166 "TypingPool$Piece" "department" "I", .fieldLink RX3 31 "TypingPool$Floor" "taken" "[I", .fieldLink RX3 184 "TypingPool$Piece" "comes" "I"]
def wm_c_waitedIn : List Cond := .code yX3_waitedIn cX3_waitedIn 4 (some .int) :: (wo_c_waitedIn ++ (wsX30 ++ (wsX10 ++ (wsX60 ++ ([] : List Cond)))))
theorem gd_c_waitedIn : ∀ w ∈ wm_c_waitedIn, goodWord w = true := gd_c rfl (gd_a (by decide) (gd_a gd_wsX30 (gd_a gd_wsX10 (gd_a gd_wsX60 gd_nil))))
set_option maxRecDepth 20000 in
theorem im_c_waitedIn : ∀ w ∈ wm_c_waitedIn, w ∈ lw_tbl := im_c (in_r [.code yX3_waitedIn cX3_waitedIn 4 (some .int)] [1010] (by decide +kernel)) (in_app (in_r wo_c_waitedIn [426, 134, 130, 667, 444, 681] (by decide +kernel)) (in_app im_wsX30 (in_app im_wsX10 (in_app im_wsX60 im_nil))))
set_option maxHeartbeats 4000000 in
set_option maxRecDepth 100000 in
theorem c_waitedIn (l : Launch) (dC : Nat → ClassId) (dI : Nat → Nat → Nat) (ad av : Nat → Nat) (sz : Nat) (a : Nat → Nat) (k : Nat → ClassId) (τ ln : Nat → Nat) (y : Nat → Nat → Int32) (g : Nat → Nat → Option Nat) (u : Nat → Int) (p0 : Int32) (hI : IC a u τ ln y g) : Met l yX3_waitedIn wm_c_waitedIn ({ frames := 0, cells := 0, slots := 0, locals := 0 }) (pw_ ad av (dC, dI) sz [.ref (a 3), .int p0] a k τ ln y g) (va_Qi (fun (r u : Int32) => u = r) (fun (r : Int32) (t : State) => (tw (dC, dI) a k τ ln y g t.heap)) (fr τ sz)) 0 0 (fr τ sz) := by
  refine Met.ofW (cc := cX3_waitedIn) (maxL := 4) (ret := (some .int)) (by decide) rfl ?_
  intro p e s m args below meth c s₁ B hml hv
  obtain ⟨rfl, hsz, hT, hK, hM⟩ := hv
  have hx := B.exec
  have hb := B.bytes
  have hr := B.returns
  have hts := atoms_spec (ws := wm_c_waitedIn) B.pre
  have hown : s.vm.findClass RX3 = some m.cls := findClass_of_methodNamed B.named
  have hlocks := B.notSynchronized
  subst hsz
  generalize hAe : fr τ s.heap.size = A at hM ⊢
  have hA : ∀ q : Nat, s.heap.size ≤ q → A q := fun q h => by rw [← hAe]; exact Or.inr h
  have hF : ∀ q, τ q ≠ 0 → A q := fun q h => by rw [← hAe]; exact Or.inl h
  have hS : va_S A s.heap s.heap [] := va_S.rf
  have hX := hI.1
  have hR := ic_r hI
  have hl := lv_entry ([.ref (a 3), .int p0]) (n := 4) (Nat.le_of_ble_eq_true rfl)
  rw [lg_entry_eq]
  generalize (lg_sl ([.ref (a 3), .int p0]) ++ List.replicate (4 - (lg_sl ([.ref (a 3), .int p0])).length) Slot.unset).toArray = ls at hl ⊢
  have hl : lv_has ls 4 [(0, .ref (a 3)), (1, .int p0)] := hl
  refine lv_iconst (v := 0) hx hb dX3_waitedIn_0 (by decide) ?_
  refine lv_istore_n (lv' := [(2, .int 0), (0, .ref (a 3)), (1, .int p0)]) hx hb dX3_waitedIn_1 rfl hl (by decide) rfl (fun ls hl => ?_)
  refine lv_iconst (v := 0) hx hb dX3_waitedIn_2 (by decide) ?_
  refine lv_istore_n (lv' := [(3, .int 0), (2, .int 0), (0, .ref (a 3)), (1, .int p0)]) hx hb dX3_waitedIn_3 rfl hl (by decide) rfl (fun ls hl => ?_)
  have loop_4 : ∀ (n : Nat) (w2 : Int32) (i3 : Int32) (H : Heap) (locs : List Loc) (ls : Array Slot), (u 2 - i3.toInt).toNat < n → 0 ≤ i3.toInt → i3.toInt ≤ u 2 → tw (dC, dI) a k τ ln y g H → va_S A s.heap H locs → lv_has ls 4 [(0, .ref (a 3)), (1, .int p0), (2, .int w2), (3, .int i3)] → W p l e (headSpec wm_c_waitedIn ({ frames := 0, cells := 0, slots := 0, locals := 0 })).room s m ([.ref (a 3), .int p0] : List Value).toArray below meth c H locs 0 0 (MQ below (va_Qi (fun (r u : Int32) => u = r) (fun (r : Int32) (t : State) => (tw (dC, dI) a k τ ln y g t.heap)) A) ([.ref (a 3), .int p0] : List Value).toArray s 0 0 A) (F0 m 4 ls []) := by
    intro n
    induction n with
    | zero => intro w2 i3 H locs ls hlt; exact absurd hlt (Nat.not_lt_zero _)
    | succ n ih_4 =>
      intro w2 i3 H locs ls hlt hi4_0 hi4_1 hT hS hl
      refine lv_iload_n hx hb dX3_waitedIn_4 rfl (lv_at hl 3 rfl) ?_
      refine lv_aload_n hx hb dX3_waitedIn_5 rfl (lv_at hl 0 rfl) ?_
      refine tw_get (D := (dC, dI)) (v := .ref (a 1)) (C := RX3) (T := TX3) (N := 12) hx hb hts (fun _ hh => (List.mem_cons_of_mem _ (List.mem_append_right _ (List.mem_append_left _ hh)))) hown hK hT (fx_3 hX) (by decide) cl_e13 rfl 0 (by decide) (hts (.fieldLink RX3 43 "TypingPool$Floor" "book" "LTypingPool$Book;") (List.mem_cons_of_mem _ (List.mem_append_left _ (List.mem_of_getElem? (i := 0) rfl)))) (fun _ h9 => h9) rfl dX3_waitedIn_6 ?_
      refine tw_get (D := (dC, dI)) (v := .int (y (a 1) 5)) (C := RX1) (T := TX1) (N := 8) hx hb hts (fun _ hh => (List.mem_cons_of_mem _ (List.mem_append_right _ (List.mem_append_right _ (List.mem_append_left _ hh))))) hown hK hT (fx_1 hX) (by decide) cl_e11 rfl 5 (by decide) (hts (.fieldLink RX3 85 "TypingPool$Book" "pieceCount" "I") (List.mem_cons_of_mem _ (List.mem_append_left _ (List.mem_of_getElem? (i := 1) rfl)))) (fun _ h9 => h9) rfl dX3_waitedIn_9 ?_
      have hc_1 := ic_2 hI
      refine lv_icmp_ge (tgt := 69) hx hb dX3_waitedIn_12 (by decide) (fun c_2 => ?_) (fun c_2 => ?_)
      · have nc_2 := z_le hc_1 rfl c_2
        refine lv_iload_n hx hb dX3_waitedIn_69 rfl (lv_at hl 2 rfl) ?_
        exact W.iret (v := w2) hx hb hr (fun t ht hW9 => ⟨⟨w2, w2, rfl, rfl, (tw_at ht hT)⟩, hS.F ht⟩) hS.2.2 dX3_waitedIn_70
      · have nc_2 := z_nle hc_1 rfl c_2
        refine lv_aload_n hx hb dX3_waitedIn_15 rfl (lv_at hl 0 rfl) ?_
        refine tw_get (D := (dC, dI)) (v := .ref (a 1)) (C := RX3) (T := TX3) (N := 12) hx hb hts (fun _ hh => (List.mem_cons_of_mem _ (List.mem_append_right _ (List.mem_append_left _ hh)))) hown hK hT (fx_3 hX) (by decide) cl_e13 rfl 0 (by decide) (hts (.fieldLink RX3 43 "TypingPool$Floor" "book" "LTypingPool$Book;") (List.mem_cons_of_mem _ (List.mem_append_left _ (List.mem_of_getElem? (i := 0) rfl)))) (fun _ h9 => h9) rfl dX3_waitedIn_16 ?_
        refine tw_get (D := (dC, dI)) (v := .ref (a 11)) (C := RX1) (T := TX1) (N := 8) hx hb hts (fun _ hh => (List.mem_cons_of_mem _ (List.mem_append_right _ (List.mem_append_right _ (List.mem_append_left _ hh))))) hown hK hT (fx_1 hX) (by decide) cl_e11 rfl 4 (by decide) (hts (.fieldLink RX3 103 "TypingPool$Book" "pieces" "[LTypingPool$Piece;") (List.mem_cons_of_mem _ (List.mem_append_left _ (List.mem_of_getElem? (i := 2) rfl)))) (fun _ h9 => h9) rfl dX3_waitedIn_19 ?_
        refine lv_iload_n hx hb dX3_waitedIn_22 rfl (lv_at hl 3 rfl) ?_
        refine tw_aald hx hb hK hT 4 (fx_11 hX) (by decide) cl_e21 rfl (z_in rfl (by omega) (by omega)) dX3_waitedIn_23 ?_
        obtain ⟨q_3, hgq_3, htq_3⟩ := ic_l11 hI (x := i3) rfl (by omega) (by omega)
        refine lq_topr hgq_3 ?_
        refine tw_get (D := (dC, dI)) (v := .int (y q_3 0)) (C := RX6) (T := TX6) (N := 11) hx hb hts (fun _ hh => (List.mem_cons_of_mem _ (List.mem_append_right _ (List.mem_append_right _ (List.mem_append_right _ (List.mem_append_left _ hh)))))) hown hK hT htq_3 (by decide) cl_e2 rfl 0 (by decide) (hts (.fieldLink RX3 166 "TypingPool$Piece" "department" "I") (List.mem_cons_of_mem _ (List.mem_append_left _ (List.mem_of_getElem? (i := 3) rfl)))) (fun _ h9 => h9) rfl dX3_waitedIn_24 ?_
        refine lv_iload_n hx hb dX3_waitedIn_27 rfl (lv_at hl 1 rfl) ?_
        refine lv_icmp_ne (tgt := 63) hx hb dX3_waitedIn_28 (by decide) (fun c_4 => ?_) (fun c_4 => ?_)
        · have nc_4 := z_ne rfl rfl c_4
          obtain ⟨x_5, ex_5⟩ : ∃ y : Int32, y = i3 + Int32.ofInt 1 := ⟨_, rfl⟩
          have hx_5 := z_add ex_5 rfl (zk (x := Int32.ofInt 1) 1 rfl) (by omega) (by omega)
          refine lv_iinc (v := x_5) (lv' := [(3, .int x_5), (0, .ref (a 3)), (1, .int p0), (2, .int w2)]) hx hb dX3_waitedIn_63 hl (k := 3) rfl ex_5.symm (by decide) rfl (fun ls hl => ?_)
          refine lv_goto (tgt := 4) hx hb dX3_waitedIn_66 (by decide) ?_
          exact ih_4  w2 x_5 H _ ls (by omega) (by omega) (by omega) hT hS (lv_sub hl [1, 2, 3, 0] rfl)
        · have nc_4 := z_eq rfl rfl c_4
          refine lv_aload_n hx hb dX3_waitedIn_31 rfl (lv_at hl 0 rfl) ?_
          refine tw_get (D := (dC, dI)) (v := .ref (a 25)) (C := RX3) (T := TX3) (N := 12) hx hb hts (fun _ hh => (List.mem_cons_of_mem _ (List.mem_append_right _ (List.mem_append_left _ hh)))) hown hK hT (fx_3 hX) (by decide) cl_e13 rfl 8 (by decide) (hts (.fieldLink RX3 31 "TypingPool$Floor" "taken" "[I") (List.mem_cons_of_mem _ (List.mem_append_left _ (List.mem_of_getElem? (i := 4) rfl)))) (fun _ h9 => h9) rfl dX3_waitedIn_32 ?_
          refine lv_iload_n hx hb dX3_waitedIn_35 rfl (lv_at hl 3 rfl) ?_
          refine tw_iald hx hb hK hT 0 (fx_25 hX) (by decide) cl_e35 rfl (z_in rfl (by omega) (by omega)) dX3_waitedIn_36 ?_
          refine lv_iconst (v := (-1)) hx hb dX3_waitedIn_37 (by decide) ?_
          refine lv_icmp_eq (tgt := 63) hx hb dX3_waitedIn_38 (by decide) (fun c_6 => ?_) (fun c_6 => ?_)
          · have nc_6 := z_eq rfl (zk (x := (-1)) (-1) rfl) c_6
            obtain ⟨x_7, ex_7⟩ : ∃ y : Int32, y = i3 + Int32.ofInt 1 := ⟨_, rfl⟩
            have hx_7 := z_add ex_7 rfl (zk (x := Int32.ofInt 1) 1 rfl) (by omega) (by omega)
            refine lv_iinc (v := x_7) (lv' := [(3, .int x_7), (0, .ref (a 3)), (1, .int p0), (2, .int w2)]) hx hb dX3_waitedIn_63 hl (k := 3) rfl ex_7.symm (by decide) rfl (fun ls hl => ?_)
            refine lv_goto (tgt := 4) hx hb dX3_waitedIn_66 (by decide) ?_
            exact ih_4  w2 x_7 H _ ls (by omega) (by omega) (by omega) hT hS (lv_sub hl [1, 2, 3, 0] rfl)
          · have nc_6 := z_ne rfl (zk (x := (-1)) (-1) rfl) c_6
            refine lv_iload_n hx hb dX3_waitedIn_41 rfl (lv_at hl 2 rfl) ?_
            refine lv_aload_n hx hb dX3_waitedIn_42 rfl (lv_at hl 0 rfl) ?_
            refine tw_get (D := (dC, dI)) (v := .ref (a 25)) (C := RX3) (T := TX3) (N := 12) hx hb hts (fun _ hh => (List.mem_cons_of_mem _ (List.mem_append_right _ (List.mem_append_left _ hh)))) hown hK hT (fx_3 hX) (by decide) cl_e13 rfl 8 (by decide) (hts (.fieldLink RX3 31 "TypingPool$Floor" "taken" "[I") (List.mem_cons_of_mem _ (List.mem_append_left _ (List.mem_of_getElem? (i := 4) rfl)))) (fun _ h9 => h9) rfl dX3_waitedIn_43 ?_
            refine lv_iload_n hx hb dX3_waitedIn_46 rfl (lv_at hl 3 rfl) ?_
            refine tw_iald hx hb hK hT 0 (fx_25 hX) (by decide) cl_e35 rfl (z_in rfl (by omega) (by omega)) dX3_waitedIn_47 ?_
            refine lv_aload_n hx hb dX3_waitedIn_48 rfl (lv_at hl 0 rfl) ?_
            refine tw_get (D := (dC, dI)) (v := .ref (a 1)) (C := RX3) (T := TX3) (N := 12) hx hb hts (fun _ hh => (List.mem_cons_of_mem _ (List.mem_append_right _ (List.mem_append_left _ hh)))) hown hK hT (fx_3 hX) (by decide) cl_e13 rfl 0 (by decide) (hts (.fieldLink RX3 43 "TypingPool$Floor" "book" "LTypingPool$Book;") (List.mem_cons_of_mem _ (List.mem_append_left _ (List.mem_of_getElem? (i := 0) rfl)))) (fun _ h9 => h9) rfl dX3_waitedIn_49 ?_
            refine tw_get (D := (dC, dI)) (v := .ref (a 11)) (C := RX1) (T := TX1) (N := 8) hx hb hts (fun _ hh => (List.mem_cons_of_mem _ (List.mem_append_right _ (List.mem_append_right _ (List.mem_append_left _ hh))))) hown hK hT (fx_1 hX) (by decide) cl_e11 rfl 4 (by decide) (hts (.fieldLink RX3 103 "TypingPool$Book" "pieces" "[LTypingPool$Piece;") (List.mem_cons_of_mem _ (List.mem_append_left _ (List.mem_of_getElem? (i := 2) rfl)))) (fun _ h9 => h9) rfl dX3_waitedIn_52 ?_
            refine lv_iload_n hx hb dX3_waitedIn_55 rfl (lv_at hl 3 rfl) ?_
            refine tw_aald hx hb hK hT 4 (fx_11 hX) (by decide) cl_e21 rfl (z_in rfl (by omega) (by omega)) dX3_waitedIn_56 ?_
            obtain ⟨q_8, hgq_8, htq_8⟩ := ic_l11 hI (x := i3) rfl (by omega) (by omega)
            refine lq_topr hgq_8 ?_
            refine tw_get (D := (dC, dI)) (v := .int (y q_8 5)) (C := RX6) (T := TX6) (N := 11) hx hb hts (fun _ hh => (List.mem_cons_of_mem _ (List.mem_append_right _ (List.mem_append_right _ (List.mem_append_right _ (List.mem_append_left _ hh)))))) hown hK hT htq_8 (by decide) cl_e2 rfl 5 (by decide) (hts (.fieldLink RX3 184 "TypingPool$Piece" "comes" "I") (List.mem_cons_of_mem _ (List.mem_append_left _ (List.mem_of_getElem? (i := 5) rfl)))) (fun _ h9 => h9) rfl dX3_waitedIn_57 ?_
            refine lv_isub hx hb dX3_waitedIn_60 ?_
            refine lv_topi (fun x_9 ex_9 => ?_)
            refine lv_iadd hx hb dX3_waitedIn_61 ?_
            refine lv_topi (fun x_10 ex_10 => ?_)
            refine lv_istore_n (lv' := [(2, .int x_10), (0, .ref (a 3)), (1, .int p0), (3, .int i3)]) hx hb dX3_waitedIn_62 rfl hl (by decide) rfl (fun ls hl => ?_)
            obtain ⟨x_11, ex_11⟩ : ∃ y : Int32, y = i3 + Int32.ofInt 1 := ⟨_, rfl⟩
            have hx_11 := z_add ex_11 rfl (zk (x := Int32.ofInt 1) 1 rfl) (by omega) (by omega)
            refine lv_iinc (v := x_11) (lv' := [(3, .int x_11), (2, .int x_10), (0, .ref (a 3)), (1, .int p0)]) hx hb dX3_waitedIn_63 hl (k := 3) rfl ex_11.symm (by decide) rfl (fun ls hl => ?_)
            refine lv_goto (tgt := 4) hx hb dX3_waitedIn_66 (by decide) ?_
            exact ih_4  x_10 x_11 H _ ls (by omega) (by omega) (by omega) hT hS (lv_sub hl [2, 3, 1, 0] rfl)
  have hp_12 : (0 : Int32).toInt = 0 := (zk (x := 0) 0 rfl)
  have hp_13 : (0 : Int32).toInt = 0 := (zk (x := 0) 0 rfl)
  exact loop_4 _ (0 : Int32) (0 : Int32) s.heap _ ls (Nat.lt_succ_self _) (by omega) (by omega) hT hS (lv_sub hl [2, 3, 1, 0] rfl)
def wo_c_waitingIn : List Cond := [.fieldLink RX3 43 "TypingPool$Floor" "book" "LTypingPool$Book;", .fieldLink RX3 85 "TypingPool$Book" "pieceCount" "I", .fieldLink RX3 103 "TypingPool$Book" "pieces" "[LTypingPool$Piece;", .fieldLink RX3 166 "TypingPool$Piece" "department" "I", .methodLink RX3 88 yX3_stateOf, .instanceMethod yX3_stateOf, .selects RX3 yX3_stateOf yX3_stateOf, .initialized RX3]
def wm_c_waitingIn : List Cond := .code yX3_waitingIn cX3_waitingIn 4 (some .int) :: (wo_c_waitingIn ++ (wsX30 ++ (wsX10 ++ (wsX60 ++ (wm_c_stateOf ++ ([] : List Cond))))))
theorem gd_c_waitingIn : ∀ w ∈ wm_c_waitingIn, goodWord w = true := gd_c rfl (gd_a (by decide) (gd_a gd_wsX30 (gd_a gd_wsX10 (gd_a gd_wsX60 (gd_a gd_c_stateOf gd_nil)))))
set_option maxRecDepth 20000 in
theorem im_c_waitingIn : ∀ w ∈ wm_c_waitingIn, w ∈ lw_tbl := im_c (in_r [.code yX3_waitingIn cX3_waitingIn 4 (some .int)] [814] (by decide +kernel)) (in_app (in_r wo_c_waitingIn [426, 134, 130, 667, 767, 768, 769, 83] (by decide +kernel)) (in_app im_wsX30 (in_app im_wsX10 (in_app im_wsX60 (in_app im_c_stateOf im_nil)))))
set_option maxHeartbeats 4000000 in
set_option maxRecDepth 100000 in
theorem c_waitingIn (l : Launch) (dC : Nat → ClassId) (dI : Nat → Nat → Nat) (ad av : Nat → Nat) (sz : Nat) (a : Nat → Nat) (k : Nat → ClassId) (τ ln : Nat → Nat) (y : Nat → Nat → Int32) (g : Nat → Nat → Option Nat) (u : Nat → Int) (p0 : Int32) (hI : IC a u τ ln y g) : Met l yX3_waitingIn wm_c_waitingIn ({ frames := 1, cells := 0, slots := 0, locals := 60 }) (pw_ ad av (dC, dI) sz [.ref (a 3), .int p0] a k τ ln y g) (va_Qi (fun (r u : Int32) => u = r) (fun (r : Int32) (t : State) => (tw (dC, dI) a k τ ln y g t.heap)) (fr τ sz)) 0 0 (fr τ sz) := by
  refine Met.ofW (cc := cX3_waitingIn) (maxL := 4) (ret := (some .int)) (by decide) rfl ?_
  intro p e s m args below meth c s₁ B hml hv
  obtain ⟨rfl, hsz, hT, hK, hM⟩ := hv
  have hx := B.exec
  have hb := B.bytes
  have hr := B.returns
  have hts := atoms_spec (ws := wm_c_waitingIn) B.pre
  have hown : s.vm.findClass RX3 = some m.cls := findClass_of_methodNamed B.named
  have hlocks := B.notSynchronized
  subst hsz
  generalize hAe : fr τ s.heap.size = A at hM ⊢
  have hA : ∀ q : Nat, s.heap.size ≤ q → A q := fun q h => by rw [← hAe]; exact Or.inr h
  have hF : ∀ q, τ q ≠ 0 → A q := fun q h => by rw [← hAe]; exact Or.inl h
  have hS : va_S A s.heap s.heap [] := va_S.rf
  have hX := hI.1
  have hR := ic_r hI
  have hl := lv_entry ([.ref (a 3), .int p0]) (n := 4) (Nat.le_of_ble_eq_true rfl)
  rw [lg_entry_eq]
  generalize (lg_sl ([.ref (a 3), .int p0]) ++ List.replicate (4 - (lg_sl ([.ref (a 3), .int p0])).length) Slot.unset).toArray = ls at hl ⊢
  have hl : lv_has ls 4 [(0, .ref (a 3)), (1, .int p0)] := hl
  refine lv_iconst (v := 0) hx hb dX3_waitingIn_0 (by decide) ?_
  refine lv_istore_n (lv' := [(2, .int 0), (0, .ref (a 3)), (1, .int p0)]) hx hb dX3_waitingIn_1 rfl hl (by decide) rfl (fun ls hl => ?_)
  refine lv_iconst (v := 0) hx hb dX3_waitingIn_2 (by decide) ?_
  refine lv_istore_n (lv' := [(3, .int 0), (2, .int 0), (0, .ref (a 3)), (1, .int p0)]) hx hb dX3_waitingIn_3 rfl hl (by decide) rfl (fun ls hl => ?_)
  have loop_4 : ∀ (n : Nat) (w2 : Int32) (i3 : Int32) (H : Heap) (locs : List Loc) (ls : Array Slot), (u 2 - i3.toInt).toNat < n → 0 ≤ i3.toInt → i3.toInt ≤ u 2 → tw (dC, dI) a k τ ln y g H → va_S A s.heap H locs → lv_has ls 4 [(0, .ref (a 3)), (1, .int p0), (2, .int w2), (3, .int i3)] → W p l e (headSpec wm_c_waitingIn ({ frames := 1, cells := 0, slots := 0, locals := 60 })).room s m ([.ref (a 3), .int p0] : List Value).toArray below meth c H locs 0 0 (MQ below (va_Qi (fun (r u : Int32) => u = r) (fun (r : Int32) (t : State) => (tw (dC, dI) a k τ ln y g t.heap)) A) ([.ref (a 3), .int p0] : List Value).toArray s 0 0 A) (F0 m 4 ls []) := by
    intro n
    induction n with
    | zero => intro w2 i3 H locs ls hlt; exact absurd hlt (Nat.not_lt_zero _)
    | succ n ih_4 =>
      intro w2 i3 H locs ls hlt hi4_0 hi4_1 hT hS hl
      refine lv_iload_n hx hb dX3_waitingIn_4 rfl (lv_at hl 3 rfl) ?_
      refine lv_aload_n hx hb dX3_waitingIn_5 rfl (lv_at hl 0 rfl) ?_
      refine tw_get (D := (dC, dI)) (v := .ref (a 1)) (C := RX3) (T := TX3) (N := 12) hx hb hts (fun _ hh => (List.mem_cons_of_mem _ (List.mem_append_right _ (List.mem_append_left _ hh)))) hown hK hT (fx_3 hX) (by decide) cl_e13 rfl 0 (by decide) (hts (.fieldLink RX3 43 "TypingPool$Floor" "book" "LTypingPool$Book;") (List.mem_cons_of_mem _ (List.mem_append_left _ (List.mem_of_getElem? (i := 0) rfl)))) (fun _ h9 => h9) rfl dX3_waitingIn_6 ?_
      refine tw_get (D := (dC, dI)) (v := .int (y (a 1) 5)) (C := RX1) (T := TX1) (N := 8) hx hb hts (fun _ hh => (List.mem_cons_of_mem _ (List.mem_append_right _ (List.mem_append_right _ (List.mem_append_left _ hh))))) hown hK hT (fx_1 hX) (by decide) cl_e11 rfl 5 (by decide) (hts (.fieldLink RX3 85 "TypingPool$Book" "pieceCount" "I") (List.mem_cons_of_mem _ (List.mem_append_left _ (List.mem_of_getElem? (i := 1) rfl)))) (fun _ h9 => h9) rfl dX3_waitingIn_9 ?_
      have hc_1 := ic_2 hI
      refine lv_icmp_ge (tgt := 49) hx hb dX3_waitingIn_12 (by decide) (fun c_2 => ?_) (fun c_2 => ?_)
      · have nc_2 := z_le hc_1 rfl c_2
        refine lv_iload_n hx hb dX3_waitingIn_49 rfl (lv_at hl 2 rfl) ?_
        exact W.iret (v := w2) hx hb hr (fun t ht hW9 => ⟨⟨w2, w2, rfl, rfl, (tw_at ht hT)⟩, hS.F ht⟩) hS.2.2 dX3_waitingIn_50
      · have nc_2 := z_nle hc_1 rfl c_2
        refine lv_aload_n hx hb dX3_waitingIn_15 rfl (lv_at hl 0 rfl) ?_
        refine tw_get (D := (dC, dI)) (v := .ref (a 1)) (C := RX3) (T := TX3) (N := 12) hx hb hts (fun _ hh => (List.mem_cons_of_mem _ (List.mem_append_right _ (List.mem_append_left _ hh)))) hown hK hT (fx_3 hX) (by decide) cl_e13 rfl 0 (by decide) (hts (.fieldLink RX3 43 "TypingPool$Floor" "book" "LTypingPool$Book;") (List.mem_cons_of_mem _ (List.mem_append_left _ (List.mem_of_getElem? (i := 0) rfl)))) (fun _ h9 => h9) rfl dX3_waitingIn_16 ?_
        refine tw_get (D := (dC, dI)) (v := .ref (a 11)) (C := RX1) (T := TX1) (N := 8) hx hb hts (fun _ hh => (List.mem_cons_of_mem _ (List.mem_append_right _ (List.mem_append_right _ (List.mem_append_left _ hh))))) hown hK hT (fx_1 hX) (by decide) cl_e11 rfl 4 (by decide) (hts (.fieldLink RX3 103 "TypingPool$Book" "pieces" "[LTypingPool$Piece;") (List.mem_cons_of_mem _ (List.mem_append_left _ (List.mem_of_getElem? (i := 2) rfl)))) (fun _ h9 => h9) rfl dX3_waitingIn_19 ?_
        refine lv_iload_n hx hb dX3_waitingIn_22 rfl (lv_at hl 3 rfl) ?_
        refine tw_aald hx hb hK hT 4 (fx_11 hX) (by decide) cl_e21 rfl (z_in rfl (by omega) (by omega)) dX3_waitingIn_23 ?_
        obtain ⟨q_3, hgq_3, htq_3⟩ := ic_l11 hI (x := i3) rfl (by omega) (by omega)
        refine lq_topr hgq_3 ?_
        refine tw_get (D := (dC, dI)) (v := .int (y q_3 0)) (C := RX6) (T := TX6) (N := 11) hx hb hts (fun _ hh => (List.mem_cons_of_mem _ (List.mem_append_right _ (List.mem_append_right _ (List.mem_append_right _ (List.mem_append_left _ hh)))))) hown hK hT htq_3 (by decide) cl_e2 rfl 0 (by decide) (hts (.fieldLink RX3 166 "TypingPool$Piece" "department" "I") (List.mem_cons_of_mem _ (List.mem_append_left _ (List.mem_of_getElem? (i := 3) rfl)))) (fun _ h9 => h9) rfl dX3_waitingIn_24 ?_
        refine lv_iload_n hx hb dX3_waitingIn_27 rfl (lv_at hl 1 rfl) ?_
        refine lv_icmp_ne (tgt := 43) hx hb dX3_waitingIn_28 (by decide) (fun c_4 => ?_) (fun c_4 => ?_)
        · have nc_4 := z_ne rfl rfl c_4
          obtain ⟨x_5, ex_5⟩ : ∃ y : Int32, y = i3 + Int32.ofInt 1 := ⟨_, rfl⟩
          have hx_5 := z_add ex_5 rfl (zk (x := Int32.ofInt 1) 1 rfl) (by omega) (by omega)
          refine lv_iinc (v := x_5) (lv' := [(3, .int x_5), (0, .ref (a 3)), (1, .int p0), (2, .int w2)]) hx hb dX3_waitingIn_43 hl (k := 3) rfl ex_5.symm (by decide) rfl (fun ls hl => ?_)
          refine lv_goto (tgt := 4) hx hb dX3_waitingIn_46 (by decide) ?_
          exact ih_4  w2 x_5 H _ ls (by omega) (by omega) (by omega) hT hS (lv_sub hl [1, 2, 3, 0] rfl)
        · have nc_4 := z_eq rfl rfl c_4
          refine lv_aload_n hx hb dX3_waitingIn_31 rfl (lv_at hl 0 rfl) ?_
          refine lv_iload_n hx hb dX3_waitingIn_32 rfl (lv_at hl 3 rfl) ?_
          have hFc := tw_free hF hS hA
          refine va_calli (va_runV (As := [.int i3]) (rest := []) ⟨hx, hb, hml, hown, hts⟩ (c_stateOf l dC dI ad av H.size a k τ ln y g u i3 hI (by omega) (by omega)) (cwV 1 hts (gi_4 (List.mem_cons_of_mem _ (List.mem_append_left _ (List.mem_of_getElem? (i := 4) rfl))) (List.mem_cons_of_mem _ (List.mem_append_left _ (List.mem_of_getElem? (i := 5) rfl))) (List.mem_cons_of_mem _ (List.mem_append_left _ (List.mem_of_getElem? (i := 6) rfl))) (List.mem_cons_of_mem _ (List.mem_append_left _ (List.mem_of_getElem? (i := 7) rfl))) (fun _ hh => (List.mem_cons_of_mem _ (List.mem_append_right _ (List.mem_append_right _ (List.mem_append_right _ (List.mem_append_right _ (List.mem_append_left _ hh))))))) gd_c_stateOf) rfl rfl rfl (by decide +kernel) ⟨Nat.le_of_ble_eq_true rfl, Nat.le_of_ble_eq_true rfl⟩) ⟨pw_blind, tw_recv hK hT (fx_3 hX) (by decide) cl_e13 rfl, pw_use hT hK hFc hS hM⟩ rfl rfl hl.1 rfl (lv_room (Nat.le_of_ble_eq_true rfl)) dX3_waitingIn_33 ⟨Nat.le_of_ble_eq_true rfl, Nat.le_of_ble_eq_true rfl⟩) hS (fun q _ h => hFc q h) hFc (fun r0 r_6 t H locs ht hvm hw hB hz1 hk1 hS => ?_)
          refine W.widen (k := 0) (n := 0) (Nat.le_of_ble_eq_true rfl) (Nat.le_of_ble_eq_true rfl) ?_
          clear hvm hz1 hk1
          subst hw
          have hT := hB
          rw [ht] at hT
          refine lv_iconst (v := 1) hx hb dX3_waitingIn_36 (by decide) ?_
          refine lv_icmp_ne (tgt := 43) hx hb dX3_waitingIn_37 (by decide) (fun c_7 => ?_) (fun c_7 => ?_)
          · have nc_7 := z_ne rfl (zk (x := 1) 1 rfl) c_7
            obtain ⟨x_8, ex_8⟩ : ∃ y : Int32, y = i3 + Int32.ofInt 1 := ⟨_, rfl⟩
            have hx_8 := z_add ex_8 rfl (zk (x := Int32.ofInt 1) 1 rfl) (by omega) (by omega)
            refine lv_iinc (v := x_8) (lv' := [(3, .int x_8), (0, .ref (a 3)), (1, .int p0), (2, .int w2)]) hx hb dX3_waitingIn_43 hl (k := 3) rfl ex_8.symm (by decide) rfl (fun ls hl => ?_)
            refine lv_goto (tgt := 4) hx hb dX3_waitingIn_46 (by decide) ?_
            exact ih_4  w2 x_8 H _ ls (by omega) (by omega) (by omega) hT hS (lv_sub hl [1, 2, 3, 0] rfl)
          · have nc_7 := z_eq rfl (zk (x := 1) 1 rfl) c_7
            obtain ⟨x_9, ex_9⟩ : ∃ y : Int32, y = w2 + Int32.ofInt 1 := ⟨_, rfl⟩
            refine lv_iinc (v := x_9) (lv' := [(2, .int x_9), (0, .ref (a 3)), (1, .int p0), (3, .int i3)]) hx hb dX3_waitingIn_40 hl (k := 2) rfl ex_9.symm (by decide) rfl (fun ls hl => ?_)
            obtain ⟨x_10, ex_10⟩ : ∃ y : Int32, y = i3 + Int32.ofInt 1 := ⟨_, rfl⟩
            have hx_10 := z_add ex_10 rfl (zk (x := Int32.ofInt 1) 1 rfl) (by omega) (by omega)
            refine lv_iinc (v := x_10) (lv' := [(3, .int x_10), (2, .int x_9), (0, .ref (a 3)), (1, .int p0)]) hx hb dX3_waitingIn_43 hl (k := 3) rfl ex_10.symm (by decide) rfl (fun ls hl => ?_)
            refine lv_goto (tgt := 4) hx hb dX3_waitingIn_46 (by decide) ?_
            exact ih_4  x_9 x_10 H _ ls (by omega) (by omega) (by omega) hT hS (lv_sub hl [2, 3, 1, 0] rfl)
  have hp_11 : (0 : Int32).toInt = 0 := (zk (x := 0) 0 rfl)
  have hp_12 : (0 : Int32).toInt = 0 := (zk (x := 0) 0 rfl)
  exact loop_4 _ (0 : Int32) (0 : Int32) s.heap _ ls (Nat.lt_succ_self _) (by omega) (by omega) hT hS (lv_sub hl [2, 3, 1, 0] rfl)
def wo_c_countsFor : List Cond := [.fieldLink RX3 43 "TypingPool$Floor" "book" "LTypingPool$Book;", .fieldLink RX3 103 "TypingPool$Book" "pieces" "[LTypingPool$Piece;", .methodLink RX3 199 yX3_isLate, .instanceMethod yX3_isLate, .selects RX3 yX3_isLate yX3_isLate, .initialized RX3, .fieldLink RX3 181 "TypingPool$Piece" "claim" "I", .fieldLink RX3 190 "TypingPool$Piece" "due" "I", .fieldLink RX3 184 "TypingPool$Piece" "comes" "I", .methodLink RX3 169 yX3_today, .instanceMethod yX3_today, .selects RX3 yX3_today yX3_today, .fieldLink RX3 187 "TypingPool$Piece" "lines" "I"]
def wm_c_countsFor : List Cond := .code yX3_countsFor cX3_countsFor 4 (some .int) :: (wo_c_countsFor ++ (wsX30 ++ (wsX10 ++ (wm_c_isLate ++ (wsX60 ++ (wm_c_today ++ ([] : List Cond)))))))
theorem gd_c_countsFor : ∀ w ∈ wm_c_countsFor, goodWord w = true := gd_c rfl (gd_a (by decide) (gd_a gd_wsX30 (gd_a gd_wsX10 (gd_a gd_c_isLate (gd_a gd_wsX60 (gd_a gd_c_today gd_nil))))))
set_option maxRecDepth 20000 in
theorem im_c_countsFor : ∀ w ∈ wm_c_countsFor, w ∈ lw_tbl := im_c (in_r [.code yX3_countsFor cX3_countsFor 4 (some .int)] [1014] (by decide +kernel)) (in_app (in_r wo_c_countsFor [426, 130, 895, 862, 863, 83, 678, 684, 681, 775, 776, 777, 673] (by decide +kernel)) (in_app im_wsX30 (in_app im_wsX10 (in_app im_c_isLate (in_app im_wsX60 (in_app im_c_today im_nil))))))
set_option maxHeartbeats 4000000 in
set_option maxRecDepth 100000 in
theorem c_countsFor (l : Launch) (dC : Nat → ClassId) (dI : Nat → Nat → Nat) (ad av : Nat → Nat) (sz : Nat) (a : Nat → Nat) (k : Nat → ClassId) (τ ln : Nat → Nat) (y : Nat → Nat → Int32) (g : Nat → Nat → Option Nat) (u : Nat → Int) (p0 : Int32) (p1 : Int32) (hI : IC a u τ ln y g) (hlp0 : 0 ≤ p0.toInt) (hup0 : p0.toInt < u 2) : Met l yX3_countsFor wm_c_countsFor ({ frames := 4, cells := 0, slots := 0, locals := 200 }) (pw_ ad av (dC, dI) sz [.ref (a 3), .int p0, .int p1] a k τ ln y g) (va_Qi (fun (r u : Int32) => u = r) (fun (r : Int32) (t : State) => (tw (dC, dI) a k τ ln y g t.heap)) (fr τ sz)) 0 0 (fr τ sz) := by
  refine Met.ofW (cc := cX3_countsFor) (maxL := 4) (ret := (some .int)) (by decide) rfl ?_
  intro p e s m args below meth c s₁ B hml hv
  obtain ⟨rfl, hsz, hT, hK, hM⟩ := hv
  have hx := B.exec
  have hb := B.bytes
  have hr := B.returns
  have hts := atoms_spec (ws := wm_c_countsFor) B.pre
  have hown : s.vm.findClass RX3 = some m.cls := findClass_of_methodNamed B.named
  have hlocks := B.notSynchronized
  subst hsz
  generalize hAe : fr τ s.heap.size = A at hM ⊢
  have hA : ∀ q : Nat, s.heap.size ≤ q → A q := fun q h => by rw [← hAe]; exact Or.inr h
  have hF : ∀ q, τ q ≠ 0 → A q := fun q h => by rw [← hAe]; exact Or.inl h
  have hS : va_S A s.heap s.heap [] := va_S.rf
  have hX := hI.1
  have hR := ic_r hI
  have hl := lv_entry ([.ref (a 3), .int p0, .int p1]) (n := 4) (Nat.le_of_ble_eq_true rfl)
  rw [lg_entry_eq]
  generalize (lg_sl ([.ref (a 3), .int p0, .int p1]) ++ List.replicate (4 - (lg_sl ([.ref (a 3), .int p0, .int p1])).length) Slot.unset).toArray = ls at hl ⊢
  have hl : lv_has ls 4 [(0, .ref (a 3)), (1, .int p0), (2, .int p1)] := hl
  refine lv_aload_n hx hb dX3_countsFor_0 rfl (lv_at hl 0 rfl) ?_
  refine tw_get (D := (dC, dI)) (v := .ref (a 1)) (C := RX3) (T := TX3) (N := 12) hx hb hts (fun _ hh => (List.mem_cons_of_mem _ (List.mem_append_right _ (List.mem_append_left _ hh)))) hown hK hT (fx_3 hX) (by decide) cl_e13 rfl 0 (by decide) (hts (.fieldLink RX3 43 "TypingPool$Floor" "book" "LTypingPool$Book;") (List.mem_cons_of_mem _ (List.mem_append_left _ (List.mem_of_getElem? (i := 0) rfl)))) (fun _ h9 => h9) rfl dX3_countsFor_1 ?_
  refine tw_get (D := (dC, dI)) (v := .ref (a 11)) (C := RX1) (T := TX1) (N := 8) hx hb hts (fun _ hh => (List.mem_cons_of_mem _ (List.mem_append_right _ (List.mem_append_right _ (List.mem_append_left _ hh))))) hown hK hT (fx_1 hX) (by decide) cl_e11 rfl 4 (by decide) (hts (.fieldLink RX3 103 "TypingPool$Book" "pieces" "[LTypingPool$Piece;") (List.mem_cons_of_mem _ (List.mem_append_left _ (List.mem_of_getElem? (i := 1) rfl)))) (fun _ h9 => h9) rfl dX3_countsFor_4 ?_
  refine lv_iload_n hx hb dX3_countsFor_7 rfl (lv_at hl 1 rfl) ?_
  refine tw_aald hx hb hK hT 4 (fx_11 hX) (by decide) cl_e21 rfl (z_in rfl (by omega) (by omega)) dX3_countsFor_8 ?_
  obtain ⟨q_1, hgq_1, htq_1⟩ := ic_l11 hI (x := p0) rfl (by omega) (by omega)
  refine lq_topr hgq_1 ?_
  refine lv_astore_n (lv' := [(3, .ref q_1), (0, .ref (a 3)), (1, .int p0), (2, .int p1)]) hx hb dX3_countsFor_9 rfl hl (by decide) rfl (fun ls hl => ?_)
  refine lv_iload_n hx hb dX3_countsFor_10 rfl (lv_at hl 3 rfl) ?_
  rcases tb_1_3 p1 with t_2 | t_2 | t_2 | t_2
  · refine lq_top (v := 1) t_2 ?_
    have nt_2 := z_eq rfl (zk (x := 1) 1 rfl) t_2
    refine lv_tableIn (tgt := 36) hx hb dX3_countsFor_11 (by decide) (by decide) (off := 25) (by decide) (by decide) ?_
    refine lv_iconst (v := 1) hx hb dX3_countsFor_36 (by decide) ?_
    exact W.iret (v := 1) hx hb hr (fun t ht hW9 => ⟨⟨1, 1, rfl, rfl, (tw_at ht hT)⟩, hS.F ht⟩) hS.2.2 dX3_countsFor_37
  · refine lq_top (v := 2) t_2 ?_
    have nt_2 := z_eq rfl (zk (x := 2) 2 rfl) t_2
    refine lv_tableIn (tgt := 38) hx hb dX3_countsFor_11 (by decide) (by decide) (off := 27) (by decide) (by decide) ?_
    refine lv_aload_n hx hb dX3_countsFor_38 rfl (lv_at hl 1 rfl) ?_
    refine lv_iload_n hx hb dX3_countsFor_39 rfl (lv_at hl 2 rfl) ?_
    have hFc := tw_free hF hS hA
    refine va_calli (va_runV (As := [.int p0]) (rest := []) ⟨hx, hb, hml, hown, hts⟩ (c_isLate l dC dI ad av s.heap.size a k τ ln y g u p0 hI (by omega) (by omega)) (cwV 1 hts (gi_4 (List.mem_cons_of_mem _ (List.mem_append_left _ (List.mem_of_getElem? (i := 2) rfl))) (List.mem_cons_of_mem _ (List.mem_append_left _ (List.mem_of_getElem? (i := 3) rfl))) (List.mem_cons_of_mem _ (List.mem_append_left _ (List.mem_of_getElem? (i := 4) rfl))) (List.mem_cons_of_mem _ (List.mem_append_left _ (List.mem_of_getElem? (i := 5) rfl))) (fun _ hh => (List.mem_cons_of_mem _ (List.mem_append_right _ (List.mem_append_right _ (List.mem_append_right _ (List.mem_append_left _ hh)))))) gd_c_isLate) rfl rfl rfl (by decide +kernel) ⟨Nat.le_of_ble_eq_true rfl, Nat.le_of_ble_eq_true rfl⟩) ⟨pw_blind, tw_recv hK hT (fx_3 hX) (by decide) cl_e13 rfl, pw_use hT hK hFc hS hM⟩ rfl rfl hl.1 rfl (lv_room (Nat.le_of_ble_eq_true rfl)) dX3_countsFor_40 ⟨Nat.le_of_ble_eq_true rfl, Nat.le_of_ble_eq_true rfl⟩) hS (fun q _ h => hFc q h) hFc (fun r0 r_3 t H locs ht hvm hw hB hz1 hk1 hS => ?_)
    refine W.widen (k := 0) (n := 0) (Nat.le_of_ble_eq_true rfl) (Nat.le_of_ble_eq_true rfl) ?_
    clear hvm hz1 hk1
    subst hw
    rcases hB with ⟨hre, hT⟩ | ⟨hre, hT⟩
    · refine lq_top (v := 1) hre ?_
      rw [ht] at hT
      refine lv_if_eq (tgt := 50) hx hb dX3_countsFor_43 (by decide) (fun c_4 => absurd c_4 (by decide)) (fun c_4 => ?_)
      refine lv_iconst (v := 1) hx hb dX3_countsFor_46 (by decide) ?_
      refine lv_goto (tgt := 51) hx hb dX3_countsFor_47 (by decide) ?_
      exact W.iret (v := 1) hx hb hr (fun t ht hW9 => ⟨⟨1, 1, rfl, rfl, (tw_at ht hT)⟩, hS.F ht⟩) hS.2.2 dX3_countsFor_51
    · refine lq_top (v := 0) hre ?_
      rw [ht] at hT
      refine lv_if_eq (tgt := 50) hx hb dX3_countsFor_43 (by decide) (fun c_5 => ?_) (fun c_5 => absurd c_5 (by decide))
      refine lv_iconst (v := 0) hx hb dX3_countsFor_50 (by decide) ?_
      exact W.iret (v := 0) hx hb hr (fun t ht hW9 => ⟨⟨0, 0, rfl, rfl, (tw_at ht hT)⟩, hS.F ht⟩) hS.2.2 dX3_countsFor_51
  · refine lq_top (v := 3) t_2 ?_
    have nt_2 := z_eq rfl (zk (x := 3) 3 rfl) t_2
    refine lv_tableIn (tgt := 52) hx hb dX3_countsFor_11 (by decide) (by decide) (off := 41) (by decide) (by decide) ?_
    refine lv_aload_n hx hb dX3_countsFor_52 rfl (lv_at hl 0 rfl) ?_
    refine tw_get (D := (dC, dI)) (v := .int (y q_1 4)) (C := RX6) (T := TX6) (N := 11) hx hb hts (fun _ hh => (List.mem_cons_of_mem _ (List.mem_append_right _ (List.mem_append_right _ (List.mem_append_right _ (List.mem_append_right _ (List.mem_append_left _ hh))))))) hown hK hT htq_1 (by decide) cl_e2 rfl 4 (by decide) (hts (.fieldLink RX3 181 "TypingPool$Piece" "claim" "I") (List.mem_cons_of_mem _ (List.mem_append_left _ (List.mem_of_getElem? (i := 6) rfl)))) (fun _ h9 => h9) rfl dX3_countsFor_53 ?_
    refine lv_bipush (v := 7) hx hb dX3_countsFor_56 (by decide) ?_
    refine lv_icmp_lt (tgt := 80) hx hb dX3_countsFor_58 (by decide) (fun c_6 => ?_) (fun c_6 => ?_)
    · have nc_6 := z_lt rfl (zk (x := 7) 7 rfl) c_6
      refine lv_iconst (v := 0) hx hb dX3_countsFor_80 (by decide) ?_
      exact W.iret (v := 0) hx hb hr (fun t ht hW9 => ⟨⟨0, 0, rfl, rfl, (tw_at ht hT)⟩, hS.F ht⟩) hS.2.2 dX3_countsFor_81
    · have nc_6 := z_nlt rfl (zk (x := 7) 7 rfl) c_6
      refine lv_aload_n hx hb dX3_countsFor_61 rfl (lv_at hl 0 rfl) ?_
      refine tw_get (D := (dC, dI)) (v := .int (y q_1 6)) (C := RX6) (T := TX6) (N := 11) hx hb hts (fun _ hh => (List.mem_cons_of_mem _ (List.mem_append_right _ (List.mem_append_right _ (List.mem_append_right _ (List.mem_append_right _ (List.mem_append_left _ hh))))))) hown hK hT htq_1 (by decide) cl_e2 rfl 6 (by decide) (hts (.fieldLink RX3 190 "TypingPool$Piece" "due" "I") (List.mem_cons_of_mem _ (List.mem_append_left _ (List.mem_of_getElem? (i := 7) rfl)))) (fun _ h9 => h9) rfl dX3_countsFor_62 ?_
      refine lv_aload_n hx hb dX3_countsFor_65 rfl (lv_at hl 0 rfl) ?_
      refine tw_get (D := (dC, dI)) (v := .int (y q_1 5)) (C := RX6) (T := TX6) (N := 11) hx hb hts (fun _ hh => (List.mem_cons_of_mem _ (List.mem_append_right _ (List.mem_append_right _ (List.mem_append_right _ (List.mem_append_right _ (List.mem_append_left _ hh))))))) hown hK hT htq_1 (by decide) cl_e2 rfl 5 (by decide) (hts (.fieldLink RX3 184 "TypingPool$Piece" "comes" "I") (List.mem_cons_of_mem _ (List.mem_append_left _ (List.mem_of_getElem? (i := 8) rfl)))) (fun _ h9 => h9) rfl dX3_countsFor_66 ?_
      refine lv_isub hx hb dX3_countsFor_69 ?_
      refine lv_topi (fun x_7 ex_7 => ?_)
      refine lv_sipush (v := 480) hx hb dX3_countsFor_70 (by decide) ?_
      refine lv_icmp_lt (tgt := 80) hx hb dX3_countsFor_73 (by decide) (fun c_8 => ?_) (fun c_8 => ?_)
      · have nc_8 := z_lt rfl (zk (x := 480) 480 rfl) c_8
        refine lv_iconst (v := 0) hx hb dX3_countsFor_80 (by decide) ?_
        exact W.iret (v := 0) hx hb hr (fun t ht hW9 => ⟨⟨0, 0, rfl, rfl, (tw_at ht hT)⟩, hS.F ht⟩) hS.2.2 dX3_countsFor_81
      · have nc_8 := z_nlt rfl (zk (x := 480) 480 rfl) c_8
        refine lv_iconst (v := 1) hx hb dX3_countsFor_76 (by decide) ?_
        refine lv_goto (tgt := 81) hx hb dX3_countsFor_77 (by decide) ?_
        exact W.iret (v := 1) hx hb hr (fun t ht hW9 => ⟨⟨1, 1, rfl, rfl, (tw_at ht hT)⟩, hS.F ht⟩) hS.2.2 dX3_countsFor_81
  · refine lv_tableOut (tgt := 82) hx hb dX3_countsFor_11 t_2 (by decide) ?_
    refine lv_aload_n hx hb dX3_countsFor_82 rfl (lv_at hl 0 rfl) ?_
    refine tw_get (D := (dC, dI)) (v := .int (y q_1 5)) (C := RX6) (T := TX6) (N := 11) hx hb hts (fun _ hh => (List.mem_cons_of_mem _ (List.mem_append_right _ (List.mem_append_right _ (List.mem_append_right _ (List.mem_append_right _ (List.mem_append_left _ hh))))))) hown hK hT htq_1 (by decide) cl_e2 rfl 5 (by decide) (hts (.fieldLink RX3 184 "TypingPool$Piece" "comes" "I") (List.mem_cons_of_mem _ (List.mem_append_left _ (List.mem_of_getElem? (i := 8) rfl)))) (fun _ h9 => h9) rfl dX3_countsFor_83 ?_
    refine lv_sipush (v := 480) hx hb dX3_countsFor_86 (by decide) ?_
    refine lv_idiv hx hb dX3_countsFor_89 (by decide) ?_
    refine lv_topi (fun x_9 ex_9 => ?_)
    refine lv_aload_n hx hb dX3_countsFor_90 rfl (lv_at hl 1 rfl) ?_
    have hFc := tw_free hF hS hA
    refine va_calli (va_runV (As := []) (rest := [.int x_9]) ⟨hx, hb, hml, hown, hts⟩ (c_today l dC dI ad av s.heap.size a k τ ln y g u  hI ) (cwV 0 hts (gi_4 (List.mem_cons_of_mem _ (List.mem_append_left _ (List.mem_of_getElem? (i := 9) rfl))) (List.mem_cons_of_mem _ (List.mem_append_left _ (List.mem_of_getElem? (i := 10) rfl))) (List.mem_cons_of_mem _ (List.mem_append_left _ (List.mem_of_getElem? (i := 11) rfl))) (List.mem_cons_of_mem _ (List.mem_append_left _ (List.mem_of_getElem? (i := 5) rfl))) (fun _ hh => (List.mem_cons_of_mem _ (List.mem_append_right _ (List.mem_append_right _ (List.mem_append_right _ (List.mem_append_right _ (List.mem_append_right _ (List.mem_append_left _ hh)))))))) gd_c_today) rfl rfl rfl (by decide +kernel) ⟨Nat.le_of_ble_eq_true rfl, Nat.le_of_ble_eq_true rfl⟩) ⟨pw_blind, tw_recv hK hT (fx_3 hX) (by decide) cl_e13 rfl, pw_use hT hK hFc hS hM⟩ rfl rfl hl.1 rfl (lv_room (Nat.le_of_ble_eq_true rfl)) dX3_countsFor_91 ⟨Nat.le_of_ble_eq_true rfl, Nat.le_of_ble_eq_true rfl⟩) hS (fun q _ h => hFc q h) hFc (fun r0 r_10 t H locs ht hvm hw hB hz1 hk1 hS => ?_)
    refine W.widen (k := 0) (n := 0) (Nat.le_of_ble_eq_true rfl) (Nat.le_of_ble_eq_true rfl) ?_
    clear hvm hz1 hk1
    subst hw
    have hT := hB
    rw [ht] at hT
    refine lv_icmp_ne (tgt := 104) hx hb dX3_countsFor_94 (by decide) (fun c_11 => ?_) (fun c_11 => ?_)
    · have nc_11 := z_ne rfl rfl c_11
      refine lv_iconst (v := 0) hx hb dX3_countsFor_104 (by decide) ?_
      exact W.iret (v := 0) hx hb hr (fun t ht hW9 => ⟨⟨0, 0, rfl, rfl, (tw_at ht hT)⟩, hS.F ht⟩) hS.2.2 dX3_countsFor_105
    · have nc_11 := z_eq rfl rfl c_11
      refine lv_aload_n hx hb dX3_countsFor_97 rfl (lv_at hl 0 rfl) ?_
      refine tw_get (D := (dC, dI)) (v := .int (y q_1 2)) (C := RX6) (T := TX6) (N := 11) hx hb hts (fun _ hh => (List.mem_cons_of_mem _ (List.mem_append_right _ (List.mem_append_right _ (List.mem_append_right _ (List.mem_append_right _ (List.mem_append_left _ hh))))))) hown hK hT htq_1 (by decide) cl_e2 rfl 2 (by decide) (hts (.fieldLink RX3 187 "TypingPool$Piece" "lines" "I") (List.mem_cons_of_mem _ (List.mem_append_left _ (List.mem_of_getElem? (i := 12) rfl)))) (fun _ h9 => h9) rfl dX3_countsFor_98 ?_
      refine lv_goto (tgt := 105) hx hb dX3_countsFor_101 (by decide) ?_
      exact W.iret (v := y q_1 2) hx hb hr (fun t ht hW9 => ⟨⟨y q_1 2, y q_1 2, rfl, rfl, (tw_at ht hT)⟩, hS.F ht⟩) hS.2.2 dX3_countsFor_105
def wo_c_rateFor : List Cond := [.fieldLink RX3 43 "TypingPool$Floor" "book" "LTypingPool$Book;", .fieldLink RX3 112 "TypingPool$Book" "hands" "[LTypingPool$Hand;", .fieldLink RX3 116 "TypingPool$Hand" "speed" "I", .fieldLink RX3 103 "TypingPool$Book" "pieces" "[LTypingPool$Piece;", .methodLink RX3 107 yX6_unknownTo, .instanceMethod yX6_unknownTo, .selects RX6 yX6_unknownTo yX6_unknownTo, .initialized RX6, .methodLink RX3 121 Lib.Math.max.name, .static Lib.Math.max.name, .initialized "java/lang/Math", .code Lib.Math.max.name Lib.Math.max.code 2 (some .int)]
def wm_c_rateFor : List Cond := .code yX3_rateFor cX3_rateFor 4 (some .int) :: (wo_c_rateFor ++ (wsX30 ++ (wsX10 ++ (wsX40 ++ (wm_c_unknownTo ++ ([] : List Cond))))))
theorem gd_c_rateFor : ∀ w ∈ wm_c_rateFor, goodWord w = true := gd_c rfl (gd_a (by decide) (gd_a gd_wsX30 (gd_a gd_wsX10 (gd_a gd_wsX40 (gd_a gd_c_unknownTo gd_nil)))))
set_option maxRecDepth 20000 in
theorem im_c_rateFor : ∀ w ∈ wm_c_rateFor, w ∈ lw_tbl := im_c (in_r [.code yX3_rateFor cX3_rateFor 4 (some .int)] [822] (by decide +kernel)) (in_app (in_r wo_c_rateFor [426, 122, 609, 130, 801, 802, 803, 89, 823, 289, 78, 290] (by decide +kernel)) (in_app im_wsX30 (in_app im_wsX10 (in_app im_wsX40 (in_app im_c_unknownTo im_nil)))))
set_option maxHeartbeats 4000000 in
set_option maxRecDepth 100000 in
theorem c_rateFor (l : Launch) (dC : Nat → ClassId) (dI : Nat → Nat → Nat) (ad av : Nat → Nat) (sz : Nat) (a : Nat → Nat) (k : Nat → ClassId) (τ ln : Nat → Nat) (y : Nat → Nat → Int32) (g : Nat → Nat → Option Nat) (u : Nat → Int) (p0 : Int32) (p1 : Int32) (p2 : Int32) (hI : IC a u τ ln y g) (hlp0 : 0 ≤ p0.toInt) (hup0 : p0.toInt < u 1) (hlp1 : 0 ≤ p1.toInt) (hup1 : p1.toInt < u 2) : Met l yX3_rateFor wm_c_rateFor ({ frames := 2, cells := 0, slots := 0, locals := 120 }) (pw_ ad av (dC, dI) sz [.ref (a 3), .int p0, .int p1, .int p2] a k τ ln y g) (va_Qi (fun (r u : Int32) => u = r) (fun (r : Int32) (t : State) => (tw (dC, dI) a k τ ln y g t.heap)) (fr τ sz)) 0 0 (fr τ sz) := by
  refine Met.ofW (cc := cX3_rateFor) (maxL := 4) (ret := (some .int)) (by decide) rfl ?_
  intro p e s m args below meth c s₁ B hml hv
  obtain ⟨rfl, hsz, hT, hK, hM⟩ := hv
  have hx := B.exec
  have hb := B.bytes
  have hr := B.returns
  have hts := atoms_spec (ws := wm_c_rateFor) B.pre
  have hown : s.vm.findClass RX3 = some m.cls := findClass_of_methodNamed B.named
  have hlocks := B.notSynchronized
  subst hsz
  generalize hAe : fr τ s.heap.size = A at hM ⊢
  have hA : ∀ q : Nat, s.heap.size ≤ q → A q := fun q h => by rw [← hAe]; exact Or.inr h
  have hF : ∀ q, τ q ≠ 0 → A q := fun q h => by rw [← hAe]; exact Or.inl h
  have hS : va_S A s.heap s.heap [] := va_S.rf
  have hX := hI.1
  have hR := ic_r hI
  have hl := lv_entry ([.ref (a 3), .int p0, .int p1, .int p2]) (n := 4) (Nat.le_of_ble_eq_true rfl)
  rw [lg_entry_eq]
  generalize (lg_sl ([.ref (a 3), .int p0, .int p1, .int p2]) ++ List.replicate (4 - (lg_sl ([.ref (a 3), .int p0, .int p1, .int p2])).length) Slot.unset).toArray = ls at hl ⊢
  have hl : lv_has ls 4 [(0, .ref (a 3)), (1, .int p0), (2, .int p1), (3, .int p2)] := hl
  refine lv_iconst (v := 5) hx hb dX3_rateFor_0 (by decide) ?_
  refine lv_aload_n hx hb dX3_rateFor_1 rfl (lv_at hl 0 rfl) ?_
  refine tw_get (D := (dC, dI)) (v := .ref (a 1)) (C := RX3) (T := TX3) (N := 12) hx hb hts (fun _ hh => (List.mem_cons_of_mem _ (List.mem_append_right _ (List.mem_append_left _ hh)))) hown hK hT (fx_3 hX) (by decide) cl_e13 rfl 0 (by decide) (hts (.fieldLink RX3 43 "TypingPool$Floor" "book" "LTypingPool$Book;") (List.mem_cons_of_mem _ (List.mem_append_left _ (List.mem_of_getElem? (i := 0) rfl)))) (fun _ h9 => h9) rfl dX3_rateFor_2 ?_
  refine tw_get (D := (dC, dI)) (v := .ref (a 10)) (C := RX1) (T := TX1) (N := 8) hx hb hts (fun _ hh => (List.mem_cons_of_mem _ (List.mem_append_right _ (List.mem_append_right _ (List.mem_append_left _ hh))))) hown hK hT (fx_1 hX) (by decide) cl_e11 rfl 2 (by decide) (hts (.fieldLink RX3 112 "TypingPool$Book" "hands" "[LTypingPool$Hand;") (List.mem_cons_of_mem _ (List.mem_append_left _ (List.mem_of_getElem? (i := 1) rfl)))) (fun _ h9 => h9) rfl dX3_rateFor_5 ?_
  refine lv_iload_n hx hb dX3_rateFor_8 rfl (lv_at hl 1 rfl) ?_
  refine tw_aald hx hb hK hT 3 (fx_10 hX) (by decide) cl_e20 rfl (z_in rfl (by omega) (by omega)) dX3_rateFor_9 ?_
  obtain ⟨q_1, hgq_1, htq_1⟩ := ic_l10 hI (x := p0) rfl (by omega) (by omega)
  refine lq_topr hgq_1 ?_
  refine tw_get (D := (dC, dI)) (v := .int (y q_1 0)) (C := RX4) (T := TX4) (N := 3) hx hb hts (fun _ hh => (List.mem_cons_of_mem _ (List.mem_append_right _ (List.mem_append_right _ (List.mem_append_right _ (List.mem_append_left _ hh)))))) hown hK hT htq_1 (by decide) cl_e1 rfl 0 (by decide) (hts (.fieldLink RX3 116 "TypingPool$Hand" "speed" "I") (List.mem_cons_of_mem _ (List.mem_append_left _ (List.mem_of_getElem? (i := 2) rfl)))) (fun _ h9 => h9) rfl dX3_rateFor_10 ?_
  refine lv_iconst (v := 5) hx hb dX3_rateFor_13 (by decide) ?_
  refine lv_aload_n hx hb dX3_rateFor_14 rfl (lv_at hl 0 rfl) ?_
  refine tw_get (D := (dC, dI)) (v := .ref (a 1)) (C := RX3) (T := TX3) (N := 12) hx hb hts (fun _ hh => (List.mem_cons_of_mem _ (List.mem_append_right _ (List.mem_append_left _ hh)))) hown hK hT (fx_3 hX) (by decide) cl_e13 rfl 0 (by decide) (hts (.fieldLink RX3 43 "TypingPool$Floor" "book" "LTypingPool$Book;") (List.mem_cons_of_mem _ (List.mem_append_left _ (List.mem_of_getElem? (i := 0) rfl)))) (fun _ h9 => h9) rfl dX3_rateFor_15 ?_
  refine tw_get (D := (dC, dI)) (v := .ref (a 11)) (C := RX1) (T := TX1) (N := 8) hx hb hts (fun _ hh => (List.mem_cons_of_mem _ (List.mem_append_right _ (List.mem_append_right _ (List.mem_append_left _ hh))))) hown hK hT (fx_1 hX) (by decide) cl_e11 rfl 4 (by decide) (hts (.fieldLink RX3 103 "TypingPool$Book" "pieces" "[LTypingPool$Piece;") (List.mem_cons_of_mem _ (List.mem_append_left _ (List.mem_of_getElem? (i := 3) rfl)))) (fun _ h9 => h9) rfl dX3_rateFor_18 ?_
  refine lv_iload_n hx hb dX3_rateFor_21 rfl (lv_at hl 2 rfl) ?_
  refine tw_aald hx hb hK hT 4 (fx_11 hX) (by decide) cl_e21 rfl (z_in rfl (by omega) (by omega)) dX3_rateFor_22 ?_
  obtain ⟨q_2, hgq_2, htq_2⟩ := ic_l11 hI (x := p1) rfl (by omega) (by omega)
  refine lq_topr hgq_2 ?_
  refine lv_iload_n hx hb dX3_rateFor_23 rfl (lv_at hl 3 rfl) ?_
  have hFc := tw_free hF hS hA
  refine va_calli (va_runV (As := [.int p2]) (rest := [.int 5, .int (y q_1 0), .int 5]) ⟨hx, hb, hml, hown, hts⟩ (c_unknownTo l dC dI ad av s.heap.size a k τ ln y g u q_2 p2 hI htq_2) (cwV 1 hts (gi_4 (List.mem_cons_of_mem _ (List.mem_append_left _ (List.mem_of_getElem? (i := 4) rfl))) (List.mem_cons_of_mem _ (List.mem_append_left _ (List.mem_of_getElem? (i := 5) rfl))) (List.mem_cons_of_mem _ (List.mem_append_left _ (List.mem_of_getElem? (i := 6) rfl))) (List.mem_cons_of_mem _ (List.mem_append_left _ (List.mem_of_getElem? (i := 7) rfl))) (fun _ hh => (List.mem_cons_of_mem _ (List.mem_append_right _ (List.mem_append_right _ (List.mem_append_right _ (List.mem_append_right _ (List.mem_append_left _ hh))))))) gd_c_unknownTo) rfl rfl rfl (by decide +kernel) ⟨Nat.le_of_ble_eq_true rfl, Nat.le_of_ble_eq_true rfl⟩) ⟨pw_blind, tw_recv hK hT htq_2 (by decide) cl_e2 rfl, pw_use hT hK hFc hS hM⟩ rfl rfl hl.1 rfl (lv_room (Nat.le_of_ble_eq_true rfl)) dX3_rateFor_24 ⟨Nat.le_of_ble_eq_true rfl, Nat.le_of_ble_eq_true rfl⟩) hS (fun q _ h => hFc q h) hFc (fun r0 r_3 t H locs ht hvm hw hB hz1 hk1 hS => ?_)
  refine W.widen (k := 0) (n := 0) (Nat.le_of_ble_eq_true rfl) (Nat.le_of_ble_eq_true rfl) ?_
  clear hvm hz1 hk1
  subst hw
  obtain ⟨hf_4, hf_5, hT⟩ := hB
  rw [ht] at hT
  refine lv_imul hx hb dX3_rateFor_27 ?_
  refine lv_topi (fun x_6 ex_6 => ?_)
  have hx_6 := z_mul ex_6 (zk (x := 5) 5 rfl) rfl (by omega) (by omega)
  refine lv_isub hx hb dX3_rateFor_28 ?_
  refine lv_topi (fun x_7 ex_7 => ?_)
  refine va_mmax hx hb (by rw [hml]; exact hl.1.symm) hown (hts (.methodLink RX3 121 Lib.Math.max.name) (List.mem_cons_of_mem _ (List.mem_append_left _ (List.mem_of_getElem? (i := 8) rfl)))) (hts (.static Lib.Math.max.name) (List.mem_cons_of_mem _ (List.mem_append_left _ (List.mem_of_getElem? (i := 9) rfl)))) (hts (.initialized "java/lang/Math") (List.mem_cons_of_mem _ (List.mem_append_left _ (List.mem_of_getElem? (i := 10) rfl)))) (hts (.code Lib.Math.max.name Lib.Math.max.code 2 (some .int)) (List.mem_cons_of_mem _ (List.mem_append_left _ (List.mem_of_getElem? (i := 11) rfl)))) (Nat.le_of_ble_eq_true rfl) (Nat.le_of_ble_eq_true rfl) (Nat.le_of_ble_eq_true rfl) (Nat.le_of_ble_eq_true rfl) dX3_rateFor_29 ?_
  refine lv_topi (fun x_8 ex_8 => ?_)
  have hx_8 := z_max ex_8 (zk (x := 5) 5 rfl) rfl
  exact W.iret (v := x_8) hx hb hr (fun t ht hW9 => ⟨⟨x_8, x_8, rfl, rfl, (tw_at ht hT)⟩, hS.F ht⟩) hS.2.2 dX3_rateFor_32
def wo_c_openHand : List Cond := [.fieldLink RX3 15 "TypingPool$Floor" "has" "[I", .fieldLink RX3 19 "TypingPool$Floor" "rate" "[I", .fieldLink RX3 22 "TypingPool$Floor" "words" "[I", .fieldLink RX3 25 "TypingPool$Floor" "worked" "[I"]
def wm_c_openHand : List Cond := .code yX3_openHand cX3_openHand 3 none :: (wo_c_openHand ++ (wsX30 ++ ([] : List Cond)))
theorem gd_c_openHand : ∀ w ∈ wm_c_openHand, goodWord w = true := gd_c rfl (gd_a (by decide) (gd_a gd_wsX30 gd_nil))
set_option maxRecDepth 20000 in
theorem im_c_openHand : ∀ w ∈ wm_c_openHand, w ∈ lw_tbl := im_c (in_r [.code yX3_openHand cX3_openHand 3 none] [624] (by decide +kernel)) (in_app (in_r wo_c_openHand [431, 434, 437, 440] (by decide +kernel)) (in_app im_wsX30 im_nil))
set_option maxHeartbeats 4000000 in
set_option maxRecDepth 100000 in
theorem c_openHand (l : Launch) (dC : Nat → ClassId) (dI : Nat → Nat → Nat) (ad av : Nat → Nat) (sz : Nat) (a : Nat → Nat) (k : Nat → ClassId) (τ ln : Nat → Nat) (y : Nat → Nat → Int32) (g : Nat → Nat → Option Nat) (u : Nat → Int) (p0 : Int32) (p1 : Int32) (hI : IC a u τ ln y g) (hlp0 : 0 ≤ p0.toInt) (hup0 : p0.toInt < 8) : Met l yX3_openHand wm_c_openHand ({ frames := 0, cells := 0, slots := 0, locals := 0 }) (pw_ ad av (dC, dI) sz [.ref (a 3), .int p0, .int p1] a k τ ln y g) (va_Qv (fun (_ : Unit) => True) (fun (_ : Unit) (t : State) => (∃ (y' : Nat → Nat → Int32), ag τ [30, 31, 32, 33] y y' ∧ tw (dC, dI) a k τ ln y' g t.heap)) (fr τ sz)) 0 0 (fr τ sz) := by
  refine Met.ofW (cc := cX3_openHand) (maxL := 3) (ret := none) (by decide) rfl ?_
  intro p e s m args below meth c s₁ B hml hv
  obtain ⟨rfl, hsz, hT, hK, hM⟩ := hv
  have hx := B.exec
  have hb := B.bytes
  have hr := B.returns
  have hts := atoms_spec (ws := wm_c_openHand) B.pre
  have hown : s.vm.findClass RX3 = some m.cls := findClass_of_methodNamed B.named
  have hlocks := B.notSynchronized
  subst hsz
  generalize hAe : fr τ s.heap.size = A at hM ⊢
  have hA : ∀ q : Nat, s.heap.size ≤ q → A q := fun q h => by rw [← hAe]; exact Or.inr h
  have hF : ∀ q, τ q ≠ 0 → A q := fun q h => by rw [← hAe]; exact Or.inl h
  have hS : va_S A s.heap s.heap [] := va_S.rf
  have hX := hI.1
  have hR := ic_r hI
  have hG : ag τ [30, 31, 32, 33] y y := ag.rf
  have hl := lv_entry ([.ref (a 3), .int p0, .int p1]) (n := 3) (Nat.le_of_ble_eq_true rfl)
  rw [lg_entry_eq]
  generalize (lg_sl ([.ref (a 3), .int p0, .int p1]) ++ List.replicate (3 - (lg_sl ([.ref (a 3), .int p0, .int p1])).length) Slot.unset).toArray = ls at hl ⊢
  have hl : lv_has ls 3 [(0, .ref (a 3)), (1, .int p0), (2, .int p1)] := hl
  refine lv_aload_n hx hb dX3_openHand_0 rfl (lv_at hl 0 rfl) ?_
  refine tw_get (D := (dC, dI)) (v := .ref (a 20)) (C := RX3) (T := TX3) (N := 12) hx hb hts (fun _ hh => (List.mem_cons_of_mem _ (List.mem_append_right _ (List.mem_append_left _ hh)))) hown hK hT (fx_3 hX) (by decide) cl_e13 rfl 3 (by decide) (hts (.fieldLink RX3 15 "TypingPool$Floor" "has" "[I") (List.mem_cons_of_mem _ (List.mem_append_left _ (List.mem_of_getElem? (i := 0) rfl)))) (fun _ h9 => h9) rfl dX3_openHand_1 ?_
  refine lv_iload_n hx hb dX3_openHand_4 rfl (lv_at hl 1 rfl) ?_
  refine lv_iconst (v := (-1)) hx hb dX3_openHand_5 (by decide) ?_
  refine tw_iast hx hb hK hT hF hS 0 (fx_20 hX) (by decide) (fun _ => cl_e30) rfl (z_in rfl (by omega) (by omega)) dX3_openHand_6 (fun H locs hT hS => ?_)
  obtain ⟨y_1, hy_1, hT⟩ : ∃ z : Nat → Nat → Int32, z = up2 y (a 20) p0.toNatClampNeg (-1 : Int32) ∧ tw (dC, dI) a k τ ln z g H := ⟨_, rfl, hT⟩
  have hG : ag τ [30, 31, 32, 33] y y_1 := by rw [hy_1]; exact hG.up (fx_20 hX) (by decide)
  have hI := hI.ag (S := [30]) (y' := y_1) (by rw [hy_1]; exact ag.one (fx_20 hX)) (by decide)
  refine lv_aload_n hx hb dX3_openHand_7 rfl (lv_at hl 0 rfl) ?_
  refine tw_get (D := (dC, dI)) (v := .ref (a 21)) (C := RX3) (T := TX3) (N := 12) hx hb hts (fun _ hh => (List.mem_cons_of_mem _ (List.mem_append_right _ (List.mem_append_left _ hh)))) hown hK hT (fx_3 hX) (by decide) cl_e13 rfl 4 (by decide) (hts (.fieldLink RX3 19 "TypingPool$Floor" "rate" "[I") (List.mem_cons_of_mem _ (List.mem_append_left _ (List.mem_of_getElem? (i := 1) rfl)))) (fun _ h9 => h9) rfl dX3_openHand_8 ?_
  refine lv_iload_n hx hb dX3_openHand_11 rfl (lv_at hl 1 rfl) ?_
  refine lv_iconst (v := (-1)) hx hb dX3_openHand_12 (by decide) ?_
  refine tw_iast hx hb hK hT hF hS 0 (fx_21 hX) (by decide) (fun _ => cl_e31) rfl (z_in rfl (by omega) (by omega)) dX3_openHand_13 (fun H locs hT hS => ?_)
  obtain ⟨y_2, hy_2, hT⟩ : ∃ z : Nat → Nat → Int32, z = up2 y_1 (a 21) p0.toNatClampNeg (-1 : Int32) ∧ tw (dC, dI) a k τ ln z g H := ⟨_, rfl, hT⟩
  have hG : ag τ [30, 31, 32, 33] y y_2 := by rw [hy_2]; exact hG.up (fx_21 hX) (by decide)
  have hI := hI.ag (S := [31]) (y' := y_2) (by rw [hy_2]; exact ag.one (fx_21 hX)) (by decide)
  refine lv_aload_n hx hb dX3_openHand_14 rfl (lv_at hl 0 rfl) ?_
  refine tw_get (D := (dC, dI)) (v := .ref (a 22)) (C := RX3) (T := TX3) (N := 12) hx hb hts (fun _ hh => (List.mem_cons_of_mem _ (List.mem_append_right _ (List.mem_append_left _ hh)))) hown hK hT (fx_3 hX) (by decide) cl_e13 rfl 5 (by decide) (hts (.fieldLink RX3 22 "TypingPool$Floor" "words" "[I") (List.mem_cons_of_mem _ (List.mem_append_left _ (List.mem_of_getElem? (i := 2) rfl)))) (fun _ h9 => h9) rfl dX3_openHand_15 ?_
  refine lv_iload_n hx hb dX3_openHand_18 rfl (lv_at hl 1 rfl) ?_
  refine lv_iload_n hx hb dX3_openHand_19 rfl (lv_at hl 2 rfl) ?_
  refine tw_iast hx hb hK hT hF hS 0 (fx_22 hX) (by decide) (fun _ => cl_e32) rfl (z_in rfl (by omega) (by omega)) dX3_openHand_20 (fun H locs hT hS => ?_)
  obtain ⟨y_3, hy_3, hT⟩ : ∃ z : Nat → Nat → Int32, z = up2 y_2 (a 22) p0.toNatClampNeg p1 ∧ tw (dC, dI) a k τ ln z g H := ⟨_, rfl, hT⟩
  have hG : ag τ [30, 31, 32, 33] y y_3 := by rw [hy_3]; exact hG.up (fx_22 hX) (by decide)
  have hI := hI.ag (S := [32]) (y' := y_3) (by rw [hy_3]; exact ag.one (fx_22 hX)) (by decide)
  refine lv_aload_n hx hb dX3_openHand_21 rfl (lv_at hl 0 rfl) ?_
  refine tw_get (D := (dC, dI)) (v := .ref (a 23)) (C := RX3) (T := TX3) (N := 12) hx hb hts (fun _ hh => (List.mem_cons_of_mem _ (List.mem_append_right _ (List.mem_append_left _ hh)))) hown hK hT (fx_3 hX) (by decide) cl_e13 rfl 6 (by decide) (hts (.fieldLink RX3 25 "TypingPool$Floor" "worked" "[I") (List.mem_cons_of_mem _ (List.mem_append_left _ (List.mem_of_getElem? (i := 3) rfl)))) (fun _ h9 => h9) rfl dX3_openHand_22 ?_
  refine lv_iload_n hx hb dX3_openHand_25 rfl (lv_at hl 1 rfl) ?_
  refine lv_iconst (v := 0) hx hb dX3_openHand_26 (by decide) ?_
  refine tw_iast hx hb hK hT hF hS 0 (fx_23 hX) (by decide) (fun _ => cl_e33) rfl (z_in rfl (by omega) (by omega)) dX3_openHand_27 (fun H locs hT hS => ?_)
  obtain ⟨y_4, hy_4, hT⟩ : ∃ z : Nat → Nat → Int32, z = up2 y_3 (a 23) p0.toNatClampNeg (0 : Int32) ∧ tw (dC, dI) a k τ ln z g H := ⟨_, rfl, hT⟩
  have hG : ag τ [30, 31, 32, 33] y y_4 := by rw [hy_4]; exact hG.up (fx_23 hX) (by decide)
  have hI := hI.ag (S := [33]) (y' := y_4) (by rw [hy_4]; exact ag.one (fx_23 hX)) (by decide)
  exact W.vret hx hb hr (fun t ht hW9 => ⟨⟨(), rfl, trivial, ⟨y_4, hG, tw_at ht hT⟩⟩, hS.F ht⟩) hS.2.2 dX3_openHand_28
def wo_c_openPiece : List Cond := [.fieldLink RX3 28 "TypingPool$Floor" "by" "[I", .fieldLink RX3 31 "TypingPool$Floor" "taken" "[I", .fieldLink RX3 34 "TypingPool$Floor" "done" "[I", .fieldLink RX3 37 "TypingPool$Floor" "workLeft" "[I", .fieldLink RX3 40 "TypingPool$Floor" "knew" "[I"]
def wm_c_openPiece : List Cond := .code yX3_openPiece cX3_openPiece 3 none :: (wo_c_openPiece ++ (wsX30 ++ ([] : List Cond)))
theorem gd_c_openPiece : ∀ w ∈ wm_c_openPiece, goodWord w = true := gd_c rfl (gd_a (by decide) (gd_a gd_wsX30 gd_nil))
set_option maxRecDepth 20000 in
theorem im_c_openPiece : ∀ w ∈ wm_c_openPiece, w ∈ lw_tbl := im_c (in_r [.code yX3_openPiece cX3_openPiece 3 none] [726] (by decide +kernel)) (in_app (in_r wo_c_openPiece [442, 444, 446, 449, 452] (by decide +kernel)) (in_app im_wsX30 im_nil))
set_option maxHeartbeats 4000000 in
set_option maxRecDepth 100000 in
theorem c_openPiece (l : Launch) (dC : Nat → ClassId) (dI : Nat → Nat → Nat) (ad av : Nat → Nat) (sz : Nat) (a : Nat → Nat) (k : Nat → ClassId) (τ ln : Nat → Nat) (y : Nat → Nat → Int32) (g : Nat → Nat → Option Nat) (u : Nat → Int) (p0 : Int32) (p1 : Int32) (hI : IC a u τ ln y g) (hlp0 : 0 ≤ p0.toInt) (hup0 : p0.toInt < 30) : Met l yX3_openPiece wm_c_openPiece ({ frames := 0, cells := 0, slots := 0, locals := 0 }) (pw_ ad av (dC, dI) sz [.ref (a 3), .int p0, .int p1] a k τ ln y g) (va_Qv (fun (_ : Unit) => True) (fun (_ : Unit) (t : State) => (∃ (y' : Nat → Nat → Int32), ag τ [34, 35, 36, 37, 38] y y' ∧ tw (dC, dI) a k τ ln y' g t.heap)) (fr τ sz)) 0 0 (fr τ sz) := by
  refine Met.ofW (cc := cX3_openPiece) (maxL := 3) (ret := none) (by decide) rfl ?_
  intro p e s m args below meth c s₁ B hml hv
  obtain ⟨rfl, hsz, hT, hK, hM⟩ := hv
  have hx := B.exec
  have hb := B.bytes
  have hr := B.returns
  have hts := atoms_spec (ws := wm_c_openPiece) B.pre
  have hown : s.vm.findClass RX3 = some m.cls := findClass_of_methodNamed B.named
  have hlocks := B.notSynchronized
  subst hsz
  generalize hAe : fr τ s.heap.size = A at hM ⊢
  have hA : ∀ q : Nat, s.heap.size ≤ q → A q := fun q h => by rw [← hAe]; exact Or.inr h
  have hF : ∀ q, τ q ≠ 0 → A q := fun q h => by rw [← hAe]; exact Or.inl h
  have hS : va_S A s.heap s.heap [] := va_S.rf
  have hX := hI.1
  have hR := ic_r hI
  have hG : ag τ [34, 35, 36, 37, 38] y y := ag.rf
  have hl := lv_entry ([.ref (a 3), .int p0, .int p1]) (n := 3) (Nat.le_of_ble_eq_true rfl)
  rw [lg_entry_eq]
  generalize (lg_sl ([.ref (a 3), .int p0, .int p1]) ++ List.replicate (3 - (lg_sl ([.ref (a 3), .int p0, .int p1])).length) Slot.unset).toArray = ls at hl ⊢
  have hl : lv_has ls 3 [(0, .ref (a 3)), (1, .int p0), (2, .int p1)] := hl
  refine lv_aload_n hx hb dX3_openPiece_0 rfl (lv_at hl 0 rfl) ?_
  refine tw_get (D := (dC, dI)) (v := .ref (a 24)) (C := RX3) (T := TX3) (N := 12) hx hb hts (fun _ hh => (List.mem_cons_of_mem _ (List.mem_append_right _ (List.mem_append_left _ hh)))) hown hK hT (fx_3 hX) (by decide) cl_e13 rfl 7 (by decide) (hts (.fieldLink RX3 28 "TypingPool$Floor" "by" "[I") (List.mem_cons_of_mem _ (List.mem_append_left _ (List.mem_of_getElem? (i := 0) rfl)))) (fun _ h9 => h9) rfl dX3_openPiece_1 ?_
  refine lv_iload_n hx hb dX3_openPiece_4 rfl (lv_at hl 1 rfl) ?_
  refine lv_iconst (v := (-1)) hx hb dX3_openPiece_5 (by decide) ?_
  refine tw_iast hx hb hK hT hF hS 0 (fx_24 hX) (by decide) (fun _ => cl_e34) rfl (z_in rfl (by omega) (by omega)) dX3_openPiece_6 (fun H locs hT hS => ?_)
  obtain ⟨y_1, hy_1, hT⟩ : ∃ z : Nat → Nat → Int32, z = up2 y (a 24) p0.toNatClampNeg (-1 : Int32) ∧ tw (dC, dI) a k τ ln z g H := ⟨_, rfl, hT⟩
  have hG : ag τ [34, 35, 36, 37, 38] y y_1 := by rw [hy_1]; exact hG.up (fx_24 hX) (by decide)
  have hI := hI.ag (S := [34]) (y' := y_1) (by rw [hy_1]; exact ag.one (fx_24 hX)) (by decide)
  refine lv_aload_n hx hb dX3_openPiece_7 rfl (lv_at hl 0 rfl) ?_
  refine tw_get (D := (dC, dI)) (v := .ref (a 25)) (C := RX3) (T := TX3) (N := 12) hx hb hts (fun _ hh => (List.mem_cons_of_mem _ (List.mem_append_right _ (List.mem_append_left _ hh)))) hown hK hT (fx_3 hX) (by decide) cl_e13 rfl 8 (by decide) (hts (.fieldLink RX3 31 "TypingPool$Floor" "taken" "[I") (List.mem_cons_of_mem _ (List.mem_append_left _ (List.mem_of_getElem? (i := 1) rfl)))) (fun _ h9 => h9) rfl dX3_openPiece_8 ?_
  refine lv_iload_n hx hb dX3_openPiece_11 rfl (lv_at hl 1 rfl) ?_
  refine lv_iconst (v := (-1)) hx hb dX3_openPiece_12 (by decide) ?_
  refine tw_iast hx hb hK hT hF hS 0 (fx_25 hX) (by decide) (fun _ => cl_e35) rfl (z_in rfl (by omega) (by omega)) dX3_openPiece_13 (fun H locs hT hS => ?_)
  obtain ⟨y_2, hy_2, hT⟩ : ∃ z : Nat → Nat → Int32, z = up2 y_1 (a 25) p0.toNatClampNeg (-1 : Int32) ∧ tw (dC, dI) a k τ ln z g H := ⟨_, rfl, hT⟩
  have hG : ag τ [34, 35, 36, 37, 38] y y_2 := by rw [hy_2]; exact hG.up (fx_25 hX) (by decide)
  have hI := hI.ag (S := [35]) (y' := y_2) (by rw [hy_2]; exact ag.one (fx_25 hX)) (by decide)
  refine lv_aload_n hx hb dX3_openPiece_14 rfl (lv_at hl 0 rfl) ?_
  refine tw_get (D := (dC, dI)) (v := .ref (a 26)) (C := RX3) (T := TX3) (N := 12) hx hb hts (fun _ hh => (List.mem_cons_of_mem _ (List.mem_append_right _ (List.mem_append_left _ hh)))) hown hK hT (fx_3 hX) (by decide) cl_e13 rfl 9 (by decide) (hts (.fieldLink RX3 34 "TypingPool$Floor" "done" "[I") (List.mem_cons_of_mem _ (List.mem_append_left _ (List.mem_of_getElem? (i := 2) rfl)))) (fun _ h9 => h9) rfl dX3_openPiece_15 ?_
  refine lv_iload_n hx hb dX3_openPiece_18 rfl (lv_at hl 1 rfl) ?_
  refine lv_iconst (v := (-1)) hx hb dX3_openPiece_19 (by decide) ?_
  refine tw_iast hx hb hK hT hF hS 0 (fx_26 hX) (by decide) (fun _ => cl_e36) rfl (z_in rfl (by omega) (by omega)) dX3_openPiece_20 (fun H locs hT hS => ?_)
  obtain ⟨y_3, hy_3, hT⟩ : ∃ z : Nat → Nat → Int32, z = up2 y_2 (a 26) p0.toNatClampNeg (-1 : Int32) ∧ tw (dC, dI) a k τ ln z g H := ⟨_, rfl, hT⟩
  have hG : ag τ [34, 35, 36, 37, 38] y y_3 := by rw [hy_3]; exact hG.up (fx_26 hX) (by decide)
  have hI := hI.ag (S := [36]) (y' := y_3) (by rw [hy_3]; exact ag.one (fx_26 hX)) (by decide)
  refine lv_aload_n hx hb dX3_openPiece_21 rfl (lv_at hl 0 rfl) ?_
  refine tw_get (D := (dC, dI)) (v := .ref (a 27)) (C := RX3) (T := TX3) (N := 12) hx hb hts (fun _ hh => (List.mem_cons_of_mem _ (List.mem_append_right _ (List.mem_append_left _ hh)))) hown hK hT (fx_3 hX) (by decide) cl_e13 rfl 10 (by decide) (hts (.fieldLink RX3 37 "TypingPool$Floor" "workLeft" "[I") (List.mem_cons_of_mem _ (List.mem_append_left _ (List.mem_of_getElem? (i := 3) rfl)))) (fun _ h9 => h9) rfl dX3_openPiece_22 ?_
  refine lv_iload_n hx hb dX3_openPiece_25 rfl (lv_at hl 1 rfl) ?_
  refine lv_iload_n hx hb dX3_openPiece_26 rfl (lv_at hl 2 rfl) ?_
  refine tw_iast hx hb hK hT hF hS 0 (fx_27 hX) (by decide) (fun _ => cl_e37) rfl (z_in rfl (by omega) (by omega)) dX3_openPiece_27 (fun H locs hT hS => ?_)
  obtain ⟨y_4, hy_4, hT⟩ : ∃ z : Nat → Nat → Int32, z = up2 y_3 (a 27) p0.toNatClampNeg p1 ∧ tw (dC, dI) a k τ ln z g H := ⟨_, rfl, hT⟩
  have hG : ag τ [34, 35, 36, 37, 38] y y_4 := by rw [hy_4]; exact hG.up (fx_27 hX) (by decide)
  have hI := hI.ag (S := [37]) (y' := y_4) (by rw [hy_4]; exact ag.one (fx_27 hX)) (by decide)
  refine lv_aload_n hx hb dX3_openPiece_28 rfl (lv_at hl 0 rfl) ?_
  refine tw_get (D := (dC, dI)) (v := .ref (a 28)) (C := RX3) (T := TX3) (N := 12) hx hb hts (fun _ hh => (List.mem_cons_of_mem _ (List.mem_append_right _ (List.mem_append_left _ hh)))) hown hK hT (fx_3 hX) (by decide) cl_e13 rfl 11 (by decide) (hts (.fieldLink RX3 40 "TypingPool$Floor" "knew" "[I") (List.mem_cons_of_mem _ (List.mem_append_left _ (List.mem_of_getElem? (i := 4) rfl)))) (fun _ h9 => h9) rfl dX3_openPiece_29 ?_
  refine lv_iload_n hx hb dX3_openPiece_32 rfl (lv_at hl 1 rfl) ?_
  refine lv_iconst (v := 0) hx hb dX3_openPiece_33 (by decide) ?_
  refine tw_iast hx hb hK hT hF hS 0 (fx_28 hX) (by decide) (fun _ => cl_e38) rfl (z_in rfl (by omega) (by omega)) dX3_openPiece_34 (fun H locs hT hS => ?_)
  obtain ⟨y_5, hy_5, hT⟩ : ∃ z : Nat → Nat → Int32, z = up2 y_4 (a 28) p0.toNatClampNeg (0 : Int32) ∧ tw (dC, dI) a k τ ln z g H := ⟨_, rfl, hT⟩
  have hG : ag τ [34, 35, 36, 37, 38] y y_5 := by rw [hy_5]; exact hG.up (fx_28 hX) (by decide)
  have hI := hI.ag (S := [38]) (y' := y_5) (by rw [hy_5]; exact ag.one (fx_28 hX)) (by decide)
  exact W.vret hx hb hr (fun t ht hW9 => ⟨⟨(), rfl, trivial, ⟨y_5, hG, tw_at ht hT⟩⟩, hS.F ht⟩) hS.2.2 dX3_openPiece_35
def wo_c_isBusy : List Cond := [.fieldLink RX3 43 "TypingPool$Floor" "book" "LTypingPool$Book;", .fieldLink RX3 15 "TypingPool$Floor" "has" "[I", .methodLink RX3 139 yX1_hasPiece, .instanceMethod yX1_hasPiece, .selects RX1 yX1_hasPiece yX1_hasPiece, .initialized RX1]
def wm_c_isBusy : List Cond := .code yX3_isBusy cX3_isBusy 3 (some .boolean) :: (wo_c_isBusy ++ (wsX30 ++ (wm_c_hasPiece ++ ([] : List Cond))))
theorem gd_c_isBusy : ∀ w ∈ wm_c_isBusy, goodWord w = true := gd_c rfl (gd_a (by decide) (gd_a gd_wsX30 (gd_a gd_c_hasPiece gd_nil)))
set_option maxRecDepth 20000 in
theorem im_c_isBusy : ∀ w ∈ wm_c_isBusy, w ∈ lw_tbl := im_c (in_r [.code yX3_isBusy cX3_isBusy 3 (some .boolean)] [839] (by decide +kernel)) (in_app (in_r wo_c_isBusy [426, 431, 840, 841, 842, 71] (by decide +kernel)) (in_app im_wsX30 (in_app im_c_hasPiece im_nil)))
set_option maxHeartbeats 4000000 in
set_option maxRecDepth 100000 in
theorem c_isBusy (l : Launch) (dC : Nat → ClassId) (dI : Nat → Nat → Nat) (ad av : Nat → Nat) (sz : Nat) (a : Nat → Nat) (k : Nat → ClassId) (τ ln : Nat → Nat) (y : Nat → Nat → Int32) (g : Nat → Nat → Option Nat) (u : Nat → Int) (p0 : Int32) (p1 : Int32) (hI : IC a u τ ln y g) (hlp0 : 0 ≤ p0.toInt) (hup0 : p0.toInt < u 1) : Met l yX3_isBusy wm_c_isBusy ({ frames := 1, cells := 0, slots := 0, locals := 60 }) (pw_ ad av (dC, dI) sz [.ref (a 3), .int p0, .int p1] a k τ ln y g) (va_Qi (fun (r u : Int32) => u = r) (fun (r : Int32) (t : State) => (r = 1 ∧ 0 ≤ (y (a 20) p0.toNatClampNeg).toInt ∧ (y (a 20) p0.toNatClampNeg).toInt < u 2 ∧ tw (dC, dI) a k τ ln y g t.heap) ∨ (r = 0 ∧ tw (dC, dI) a k τ ln y g t.heap)) (fr τ sz)) 0 0 (fr τ sz) := by
  refine Met.ofW (cc := cX3_isBusy) (maxL := 3) (ret := (some .boolean)) (by decide) rfl ?_
  intro p e s m args below meth c s₁ B hml hv
  obtain ⟨rfl, hsz, hT, hK, hM⟩ := hv
  have hx := B.exec
  have hb := B.bytes
  have hr := B.returns
  have hts := atoms_spec (ws := wm_c_isBusy) B.pre
  have hown : s.vm.findClass RX3 = some m.cls := findClass_of_methodNamed B.named
  have hlocks := B.notSynchronized
  subst hsz
  generalize hAe : fr τ s.heap.size = A at hM ⊢
  have hA : ∀ q : Nat, s.heap.size ≤ q → A q := fun q h => by rw [← hAe]; exact Or.inr h
  have hF : ∀ q, τ q ≠ 0 → A q := fun q h => by rw [← hAe]; exact Or.inl h
  have hS : va_S A s.heap s.heap [] := va_S.rf
  have hX := hI.1
  have hR := ic_r hI
  have hl := lv_entry ([.ref (a 3), .int p0, .int p1]) (n := 3) (Nat.le_of_ble_eq_true rfl)
  rw [lg_entry_eq]
  generalize (lg_sl ([.ref (a 3), .int p0, .int p1]) ++ List.replicate (3 - (lg_sl ([.ref (a 3), .int p0, .int p1])).length) Slot.unset).toArray = ls at hl ⊢
  have hl : lv_has ls 3 [(0, .ref (a 3)), (1, .int p0), (2, .int p1)] := hl
  refine lv_iload_n hx hb dX3_isBusy_0 rfl (lv_at hl 2 rfl) ?_
  refine lv_iload_n hx hb dX3_isBusy_1 rfl (lv_at hl 1 rfl) ?_
  refine lv_ishr hx hb dX3_isBusy_2 ?_
  refine lv_topi (fun x_1 ex_1 => ?_)
  refine lv_iconst (v := 1) hx hb dX3_isBusy_3 (by decide) ?_
  refine lv_iand hx hb dX3_isBusy_4 ?_
  refine lv_topi (fun x_2 ex_2 => ?_)
  have hx_2 := z_and (x := x_1) (zk (x := 1) 1 rfl) (by omega)
  rw [← ex_2] at hx_2
  refine lv_if_ne (tgt := 28) hx hb dX3_isBusy_5 (by decide) (fun c_3 => ?_) (fun c_3 => ?_)
  · have nc_3 := z_ne rfl (zk (x := 0) 0 rfl) c_3
    refine lv_iconst (v := 0) hx hb dX3_isBusy_28 (by decide) ?_
    exact W.zret (v := 0) hx hb hr (by decide) (fun t ht hW9 => ⟨⟨0, 0, rfl, rfl, Or.inr (⟨rfl, tw_at ht hT⟩)⟩, hS.F ht⟩) hS.2.2 dX3_isBusy_29
  · have nc_3 := z_eq rfl (zk (x := 0) 0 rfl) c_3
    refine lv_aload_n hx hb dX3_isBusy_8 rfl (lv_at hl 0 rfl) ?_
    refine tw_get (D := (dC, dI)) (v := .ref (a 1)) (C := RX3) (T := TX3) (N := 12) hx hb hts (fun _ hh => (List.mem_cons_of_mem _ (List.mem_append_right _ (List.mem_append_left _ hh)))) hown hK hT (fx_3 hX) (by decide) cl_e13 rfl 0 (by decide) (hts (.fieldLink RX3 43 "TypingPool$Floor" "book" "LTypingPool$Book;") (List.mem_cons_of_mem _ (List.mem_append_left _ (List.mem_of_getElem? (i := 0) rfl)))) (fun _ h9 => h9) rfl dX3_isBusy_9 ?_
    refine lv_aload_n hx hb dX3_isBusy_12 rfl (lv_at hl 0 rfl) ?_
    refine tw_get (D := (dC, dI)) (v := .ref (a 20)) (C := RX3) (T := TX3) (N := 12) hx hb hts (fun _ hh => (List.mem_cons_of_mem _ (List.mem_append_right _ (List.mem_append_left _ hh)))) hown hK hT (fx_3 hX) (by decide) cl_e13 rfl 3 (by decide) (hts (.fieldLink RX3 15 "TypingPool$Floor" "has" "[I") (List.mem_cons_of_mem _ (List.mem_append_left _ (List.mem_of_getElem? (i := 1) rfl)))) (fun _ h9 => h9) rfl dX3_isBusy_13 ?_
    refine lv_iload_n hx hb dX3_isBusy_16 rfl (lv_at hl 1 rfl) ?_
    refine tw_iald hx hb hK hT 0 (fx_20 hX) (by decide) cl_e30 rfl (z_in rfl (by omega) (by omega)) dX3_isBusy_17 ?_
    have hFc := tw_free hF hS hA
    refine va_calli (va_runV (As := [.int (y (a 20) p0.toNatClampNeg)]) (rest := []) ⟨hx, hb, hml, hown, hts⟩ (c_hasPiece l dC dI ad av s.heap.size a k τ ln y g u (y (a 20) p0.toNatClampNeg) hI ) (cwV 1 hts (gi_4 (List.mem_cons_of_mem _ (List.mem_append_left _ (List.mem_of_getElem? (i := 2) rfl))) (List.mem_cons_of_mem _ (List.mem_append_left _ (List.mem_of_getElem? (i := 3) rfl))) (List.mem_cons_of_mem _ (List.mem_append_left _ (List.mem_of_getElem? (i := 4) rfl))) (List.mem_cons_of_mem _ (List.mem_append_left _ (List.mem_of_getElem? (i := 5) rfl))) (fun _ hh => (List.mem_cons_of_mem _ (List.mem_append_right _ (List.mem_append_right _ (List.mem_append_left _ hh))))) gd_c_hasPiece) rfl rfl rfl (by decide +kernel) ⟨Nat.le_of_ble_eq_true rfl, Nat.le_of_ble_eq_true rfl⟩) ⟨pw_blind, tw_recv hK hT (fx_1 hX) (by decide) cl_e11 rfl, pw_use hT hK hFc hS hM⟩ rfl rfl hl.1 rfl (lv_room (Nat.le_of_ble_eq_true rfl)) dX3_isBusy_18 ⟨Nat.le_of_ble_eq_true rfl, Nat.le_of_ble_eq_true rfl⟩) hS (fun q _ h => hFc q h) hFc (fun r0 r_4 t H locs ht hvm hw hB hz1 hk1 hS => ?_)
    refine W.widen (k := 0) (n := 0) (Nat.le_of_ble_eq_true rfl) (Nat.le_of_ble_eq_true rfl) ?_
    clear hvm hz1 hk1
    subst hw
    rcases hB with ⟨hre, hf_5, hf_6, hT⟩ | ⟨hre, hf_7, hT⟩
    · refine lq_top (v := 1) hre ?_
      rw [ht] at hT
      refine lv_if_eq (tgt := 28) hx hb dX3_isBusy_21 (by decide) (fun c_8 => absurd c_8 (by decide)) (fun c_8 => ?_)
      refine lv_iconst (v := 1) hx hb dX3_isBusy_24 (by decide) ?_
      refine lv_goto (tgt := 29) hx hb dX3_isBusy_25 (by decide) ?_
      have hrv : (1 : Int32).toInt = 1 := (zk (x := 1) 1 rfl)
      exact W.zret (v := 1) hx hb hr (by decide) (fun t ht hW9 => ⟨⟨1, 1, rfl, rfl, Or.inl ⟨rfl, by omega, by omega, tw_at ht hT⟩⟩, hS.F ht⟩) hS.2.2 dX3_isBusy_29
    · refine lq_top (v := 0) hre ?_
      rw [ht] at hT
      refine lv_if_eq (tgt := 28) hx hb dX3_isBusy_21 (by decide) (fun c_9 => ?_) (fun c_9 => absurd c_9 (by decide))
      refine lv_iconst (v := 0) hx hb dX3_isBusy_28 (by decide) ?_
      exact W.zret (v := 0) hx hb hr (by decide) (fun t ht hW9 => ⟨⟨0, 0, rfl, rfl, Or.inr (⟨rfl, tw_at ht hT⟩)⟩, hS.F ht⟩) hS.2.2 dX3_isBusy_29
def wo_c_finish : List Cond := [.fieldLink RX3 37 "TypingPool$Floor" "workLeft" "[I", .fieldLink RX3 34 "TypingPool$Floor" "done" "[I", .fieldLink RX3 22 "TypingPool$Floor" "words" "[I", .fieldLink RX3 43 "TypingPool$Floor" "book" "LTypingPool$Book;", .fieldLink RX3 103 "TypingPool$Book" "pieces" "[LTypingPool$Piece;", .fieldLink RX3 147 "TypingPool$Piece" "words" "I", .fieldLink RX3 15 "TypingPool$Floor" "has" "[I", .fieldLink RX3 19 "TypingPool$Floor" "rate" "[I"]
def wm_c_finish : List Cond := .code yX3_finish cX3_finish 4 none :: (wo_c_finish ++ (wsX30 ++ (wsX10 ++ (wsX60 ++ ([] : List Cond)))))
theorem gd_c_finish : ∀ w ∈ wm_c_finish, goodWord w = true := gd_c rfl (gd_a (by decide) (gd_a gd_wsX30 (gd_a gd_wsX10 (gd_a gd_wsX60 gd_nil))))
set_option maxRecDepth 20000 in
theorem im_c_finish : ∀ w ∈ wm_c_finish, w ∈ lw_tbl := im_c (in_r [.code yX3_finish cX3_finish 4 none] [854] (by decide +kernel)) (in_app (in_r wo_c_finish [449, 446, 437, 426, 130, 688, 431, 434] (by decide +kernel)) (in_app im_wsX30 (in_app im_wsX10 (in_app im_wsX60 im_nil))))
set_option maxHeartbeats 4000000 in
set_option maxRecDepth 100000 in
theorem c_finish (l : Launch) (dC : Nat → ClassId) (dI : Nat → Nat → Nat) (ad av : Nat → Nat) (sz : Nat) (a : Nat → Nat) (k : Nat → ClassId) (τ ln : Nat → Nat) (y : Nat → Nat → Int32) (g : Nat → Nat → Option Nat) (u : Nat → Int) (p0 : Int32) (p1 : Int32) (p2 : Int32) (hI : IC a u τ ln y g) (hlp0 : 0 ≤ p0.toInt) (hup0 : p0.toInt < u 1) (hlp1 : 0 ≤ p1.toInt) (hup1 : p1.toInt < u 2) : Met l yX3_finish wm_c_finish ({ frames := 0, cells := 0, slots := 0, locals := 0 }) (pw_ ad av (dC, dI) sz [.ref (a 3), .int p0, .int p1, .int p2] a k τ ln y g) (va_Qv (fun (_ : Unit) => True) (fun (_ : Unit) (t : State) => (∃ (y' : Nat → Nat → Int32), ag τ [30, 31, 32, 36, 37] y y' ∧ tw (dC, dI) a k τ ln y' g t.heap)) (fr τ sz)) 0 0 (fr τ sz) := by
  refine Met.ofW (cc := cX3_finish) (maxL := 4) (ret := none) (by decide) rfl ?_
  intro p e s m args below meth c s₁ B hml hv
  obtain ⟨rfl, hsz, hT, hK, hM⟩ := hv
  have hx := B.exec
  have hb := B.bytes
  have hr := B.returns
  have hts := atoms_spec (ws := wm_c_finish) B.pre
  have hown : s.vm.findClass RX3 = some m.cls := findClass_of_methodNamed B.named
  have hlocks := B.notSynchronized
  subst hsz
  generalize hAe : fr τ s.heap.size = A at hM ⊢
  have hA : ∀ q : Nat, s.heap.size ≤ q → A q := fun q h => by rw [← hAe]; exact Or.inr h
  have hF : ∀ q, τ q ≠ 0 → A q := fun q h => by rw [← hAe]; exact Or.inl h
  have hS : va_S A s.heap s.heap [] := va_S.rf
  have hX := hI.1
  have hR := ic_r hI
  have hG : ag τ [30, 31, 32, 36, 37] y y := ag.rf
  have hl := lv_entry ([.ref (a 3), .int p0, .int p1, .int p2]) (n := 4) (Nat.le_of_ble_eq_true rfl)
  rw [lg_entry_eq]
  generalize (lg_sl ([.ref (a 3), .int p0, .int p1, .int p2]) ++ List.replicate (4 - (lg_sl ([.ref (a 3), .int p0, .int p1, .int p2])).length) Slot.unset).toArray = ls at hl ⊢
  have hl : lv_has ls 4 [(0, .ref (a 3)), (1, .int p0), (2, .int p1), (3, .int p2)] := hl
  refine lv_aload_n hx hb dX3_finish_0 rfl (lv_at hl 0 rfl) ?_
  refine tw_get (D := (dC, dI)) (v := .ref (a 27)) (C := RX3) (T := TX3) (N := 12) hx hb hts (fun _ hh => (List.mem_cons_of_mem _ (List.mem_append_right _ (List.mem_append_left _ hh)))) hown hK hT (fx_3 hX) (by decide) cl_e13 rfl 10 (by decide) (hts (.fieldLink RX3 37 "TypingPool$Floor" "workLeft" "[I") (List.mem_cons_of_mem _ (List.mem_append_left _ (List.mem_of_getElem? (i := 0) rfl)))) (fun _ h9 => h9) rfl dX3_finish_1 ?_
  refine lv_iload_n hx hb dX3_finish_4 rfl (lv_at hl 2 rfl) ?_
  refine lv_iconst (v := 0) hx hb dX3_finish_5 (by decide) ?_
  refine tw_iast hx hb hK hT hF hS 0 (fx_27 hX) (by decide) (fun _ => cl_e37) rfl (z_in rfl (by omega) (by omega)) dX3_finish_6 (fun H locs hT hS => ?_)
  obtain ⟨y_1, hy_1, hT⟩ : ∃ z : Nat → Nat → Int32, z = up2 y (a 27) p1.toNatClampNeg (0 : Int32) ∧ tw (dC, dI) a k τ ln z g H := ⟨_, rfl, hT⟩
  have hG : ag τ [30, 31, 32, 36, 37] y y_1 := by rw [hy_1]; exact hG.up (fx_27 hX) (by decide)
  have hI := hI.ag (S := [37]) (y' := y_1) (by rw [hy_1]; exact ag.one (fx_27 hX)) (by decide)
  refine lv_aload_n hx hb dX3_finish_7 rfl (lv_at hl 0 rfl) ?_
  refine tw_get (D := (dC, dI)) (v := .ref (a 26)) (C := RX3) (T := TX3) (N := 12) hx hb hts (fun _ hh => (List.mem_cons_of_mem _ (List.mem_append_right _ (List.mem_append_left _ hh)))) hown hK hT (fx_3 hX) (by decide) cl_e13 rfl 9 (by decide) (hts (.fieldLink RX3 34 "TypingPool$Floor" "done" "[I") (List.mem_cons_of_mem _ (List.mem_append_left _ (List.mem_of_getElem? (i := 1) rfl)))) (fun _ h9 => h9) rfl dX3_finish_8 ?_
  refine lv_iload_n hx hb dX3_finish_11 rfl (lv_at hl 2 rfl) ?_
  refine lv_iload_n hx hb dX3_finish_12 rfl (lv_at hl 3 rfl) ?_
  refine tw_iast hx hb hK hT hF hS 0 (fx_26 hX) (by decide) (fun _ => cl_e36) rfl (z_in rfl (by omega) (by omega)) dX3_finish_13 (fun H locs hT hS => ?_)
  obtain ⟨y_2, hy_2, hT⟩ : ∃ z : Nat → Nat → Int32, z = up2 y_1 (a 26) p1.toNatClampNeg p2 ∧ tw (dC, dI) a k τ ln z g H := ⟨_, rfl, hT⟩
  have hG : ag τ [30, 31, 32, 36, 37] y y_2 := by rw [hy_2]; exact hG.up (fx_26 hX) (by decide)
  have hI := hI.ag (S := [36]) (y' := y_2) (by rw [hy_2]; exact ag.one (fx_26 hX)) (by decide)
  refine lv_aload_n hx hb dX3_finish_14 rfl (lv_at hl 0 rfl) ?_
  refine tw_get (D := (dC, dI)) (v := .ref (a 22)) (C := RX3) (T := TX3) (N := 12) hx hb hts (fun _ hh => (List.mem_cons_of_mem _ (List.mem_append_right _ (List.mem_append_left _ hh)))) hown hK hT (fx_3 hX) (by decide) cl_e13 rfl 5 (by decide) (hts (.fieldLink RX3 22 "TypingPool$Floor" "words" "[I") (List.mem_cons_of_mem _ (List.mem_append_left _ (List.mem_of_getElem? (i := 2) rfl)))) (fun _ h9 => h9) rfl dX3_finish_15 ?_
  refine lv_iload_n hx hb dX3_finish_18 rfl (lv_at hl 1 rfl) ?_
  refine lv_dup2_11 hx hb dX3_finish_19 rfl rfl ?_
  refine tw_iald hx hb hK hT 0 (fx_22 hX) (by decide) cl_e32 rfl (z_in rfl (by omega) (by omega)) dX3_finish_20 ?_
  refine lv_aload_n hx hb dX3_finish_21 rfl (lv_at hl 0 rfl) ?_
  refine tw_get (D := (dC, dI)) (v := .ref (a 1)) (C := RX3) (T := TX3) (N := 12) hx hb hts (fun _ hh => (List.mem_cons_of_mem _ (List.mem_append_right _ (List.mem_append_left _ hh)))) hown hK hT (fx_3 hX) (by decide) cl_e13 rfl 0 (by decide) (hts (.fieldLink RX3 43 "TypingPool$Floor" "book" "LTypingPool$Book;") (List.mem_cons_of_mem _ (List.mem_append_left _ (List.mem_of_getElem? (i := 3) rfl)))) (fun _ h9 => h9) rfl dX3_finish_22 ?_
  refine tw_get (D := (dC, dI)) (v := .ref (a 11)) (C := RX1) (T := TX1) (N := 8) hx hb hts (fun _ hh => (List.mem_cons_of_mem _ (List.mem_append_right _ (List.mem_append_right _ (List.mem_append_left _ hh))))) hown hK hT (fx_1 hX) (by decide) cl_e11 rfl 4 (by decide) (hts (.fieldLink RX3 103 "TypingPool$Book" "pieces" "[LTypingPool$Piece;") (List.mem_cons_of_mem _ (List.mem_append_left _ (List.mem_of_getElem? (i := 4) rfl)))) (fun _ h9 => h9) rfl dX3_finish_25 ?_
  refine lv_iload_n hx hb dX3_finish_28 rfl (lv_at hl 2 rfl) ?_
  refine tw_aald hx hb hK hT 4 (fx_11 hX) (by decide) cl_e21 rfl (z_in rfl (by omega) (by omega)) dX3_finish_29 ?_
  obtain ⟨q_3, hgq_3, htq_3⟩ := ic_l11 hI (x := p1) rfl (by omega) (by omega)
  refine lq_topr hgq_3 ?_
  refine tw_get (D := (dC, dI)) (v := .int (y_2 q_3 7)) (C := RX6) (T := TX6) (N := 11) hx hb hts (fun _ hh => (List.mem_cons_of_mem _ (List.mem_append_right _ (List.mem_append_right _ (List.mem_append_right _ (List.mem_append_left _ hh)))))) hown hK hT htq_3 (by decide) cl_e2 rfl 7 (by decide) (hts (.fieldLink RX3 147 "TypingPool$Piece" "words" "I") (List.mem_cons_of_mem _ (List.mem_append_left _ (List.mem_of_getElem? (i := 5) rfl)))) (fun _ h9 => h9) rfl dX3_finish_30 ?_
  refine lv_ior hx hb dX3_finish_33 ?_
  refine lv_topi (fun x_4 ex_4 => ?_)
  refine tw_iast hx hb hK hT hF hS 0 (fx_22 hX) (by decide) (fun _ => cl_e32) rfl (z_in rfl (by omega) (by omega)) dX3_finish_34 (fun H locs hT hS => ?_)
  obtain ⟨y_5, hy_5, hT⟩ : ∃ z : Nat → Nat → Int32, z = up2 y_2 (a 22) p0.toNatClampNeg x_4 ∧ tw (dC, dI) a k τ ln z g H := ⟨_, rfl, hT⟩
  have hG : ag τ [30, 31, 32, 36, 37] y y_5 := by rw [hy_5]; exact hG.up (fx_22 hX) (by decide)
  have hI := hI.ag (S := [32]) (y' := y_5) (by rw [hy_5]; exact ag.one (fx_22 hX)) (by decide)
  refine lv_aload_n hx hb dX3_finish_35 rfl (lv_at hl 0 rfl) ?_
  refine tw_get (D := (dC, dI)) (v := .ref (a 20)) (C := RX3) (T := TX3) (N := 12) hx hb hts (fun _ hh => (List.mem_cons_of_mem _ (List.mem_append_right _ (List.mem_append_left _ hh)))) hown hK hT (fx_3 hX) (by decide) cl_e13 rfl 3 (by decide) (hts (.fieldLink RX3 15 "TypingPool$Floor" "has" "[I") (List.mem_cons_of_mem _ (List.mem_append_left _ (List.mem_of_getElem? (i := 6) rfl)))) (fun _ h9 => h9) rfl dX3_finish_36 ?_
  refine lv_iload_n hx hb dX3_finish_39 rfl (lv_at hl 1 rfl) ?_
  refine lv_iconst (v := (-1)) hx hb dX3_finish_40 (by decide) ?_
  refine tw_iast hx hb hK hT hF hS 0 (fx_20 hX) (by decide) (fun _ => cl_e30) rfl (z_in rfl (by omega) (by omega)) dX3_finish_41 (fun H locs hT hS => ?_)
  obtain ⟨y_6, hy_6, hT⟩ : ∃ z : Nat → Nat → Int32, z = up2 y_5 (a 20) p0.toNatClampNeg (-1 : Int32) ∧ tw (dC, dI) a k τ ln z g H := ⟨_, rfl, hT⟩
  have hG : ag τ [30, 31, 32, 36, 37] y y_6 := by rw [hy_6]; exact hG.up (fx_20 hX) (by decide)
  have hI := hI.ag (S := [30]) (y' := y_6) (by rw [hy_6]; exact ag.one (fx_20 hX)) (by decide)
  refine lv_aload_n hx hb dX3_finish_42 rfl (lv_at hl 0 rfl) ?_
  refine tw_get (D := (dC, dI)) (v := .ref (a 21)) (C := RX3) (T := TX3) (N := 12) hx hb hts (fun _ hh => (List.mem_cons_of_mem _ (List.mem_append_right _ (List.mem_append_left _ hh)))) hown hK hT (fx_3 hX) (by decide) cl_e13 rfl 4 (by decide) (hts (.fieldLink RX3 19 "TypingPool$Floor" "rate" "[I") (List.mem_cons_of_mem _ (List.mem_append_left _ (List.mem_of_getElem? (i := 7) rfl)))) (fun _ h9 => h9) rfl dX3_finish_43 ?_
  refine lv_iload_n hx hb dX3_finish_46 rfl (lv_at hl 1 rfl) ?_
  refine lv_iconst (v := (-1)) hx hb dX3_finish_47 (by decide) ?_
  refine tw_iast hx hb hK hT hF hS 0 (fx_21 hX) (by decide) (fun _ => cl_e31) rfl (z_in rfl (by omega) (by omega)) dX3_finish_48 (fun H locs hT hS => ?_)
  obtain ⟨y_7, hy_7, hT⟩ : ∃ z : Nat → Nat → Int32, z = up2 y_6 (a 21) p0.toNatClampNeg (-1 : Int32) ∧ tw (dC, dI) a k τ ln z g H := ⟨_, rfl, hT⟩
  have hG : ag τ [30, 31, 32, 36, 37] y y_7 := by rw [hy_7]; exact hG.up (fx_21 hX) (by decide)
  have hI := hI.ag (S := [31]) (y' := y_7) (by rw [hy_7]; exact ag.one (fx_21 hX)) (by decide)
  exact W.vret hx hb hr (fun t ht hW9 => ⟨⟨(), rfl, trivial, ⟨y_7, hG, tw_at ht hT⟩⟩, hS.F ht⟩) hS.2.2 dX3_finish_49
def wo_c_take : List Cond := [.fieldLink RX3 15 "TypingPool$Floor" "has" "[I", .fieldLink RX3 19 "TypingPool$Floor" "rate" "[I", .fieldLink RX3 22 "TypingPool$Floor" "words" "[I", .methodLink RX3 99 yX3_rateFor, .instanceMethod yX3_rateFor, .selects RX3 yX3_rateFor yX3_rateFor, .initialized RX3, .fieldLink RX3 28 "TypingPool$Floor" "by" "[I", .fieldLink RX3 31 "TypingPool$Floor" "taken" "[I", .fieldLink RX3 9 "TypingPool$Floor" "now" "I", .fieldLink RX3 40 "TypingPool$Floor" "knew" "[I", .fieldLink RX3 43 "TypingPool$Floor" "book" "LTypingPool$Book;", .fieldLink RX3 103 "TypingPool$Book" "pieces" "[LTypingPool$Piece;", .methodLink RX3 107 yX6_unknownTo, .instanceMethod yX6_unknownTo, .selects RX6 yX6_unknownTo yX6_unknownTo, .initialized RX6]
def wm_c_take : List Cond := .code yX3_take cX3_take 3 none :: (wo_c_take ++ (wsX30 ++ (wm_c_rateFor ++ (wsX10 ++ (wm_c_unknownTo ++ ([] : List Cond))))))
theorem gd_c_take : ∀ w ∈ wm_c_take, goodWord w = true := gd_c rfl (gd_a (by decide) (gd_a gd_wsX30 (gd_a gd_c_rateFor (gd_a gd_wsX10 (gd_a gd_c_unknownTo gd_nil)))))
set_option maxRecDepth 20000 in
theorem im_c_take : ∀ w ∈ wm_c_take, w ∈ lw_tbl := im_c (in_r [.code yX3_take cX3_take 3 none] [818] (by decide +kernel)) (in_app (in_r wo_c_take [431, 434, 437, 819, 820, 821, 83, 442, 444, 428, 452, 426, 130, 801, 802, 803, 89] (by decide +kernel)) (in_app im_wsX30 (in_app im_c_rateFor (in_app im_wsX10 (in_app im_c_unknownTo im_nil)))))
set_option maxHeartbeats 4000000 in
set_option maxRecDepth 100000 in
theorem c_take (l : Launch) (dC : Nat → ClassId) (dI : Nat → Nat → Nat) (ad av : Nat → Nat) (sz : Nat) (a : Nat → Nat) (k : Nat → ClassId) (τ ln : Nat → Nat) (y : Nat → Nat → Int32) (g : Nat → Nat → Option Nat) (u : Nat → Int) (p0 : Int32) (p1 : Int32) (hI : IC a u τ ln y g) (hlp0 : 0 ≤ p0.toInt) (hup0 : p0.toInt < u 1) (hlp1 : 0 ≤ p1.toInt) (hup1 : p1.toInt < u 2) : Met l yX3_take wm_c_take ({ frames := 3, cells := 0, slots := 0, locals := 180 }) (pw_ ad av (dC, dI) sz [.ref (a 3), .int p0, .int p1] a k τ ln y g) (va_Qv (fun (_ : Unit) => True) (fun (_ : Unit) (t : State) => (∃ (y' : Nat → Nat → Int32), ag τ [30, 31, 34, 35, 38] y y' ∧ tw (dC, dI) a k τ ln y' g t.heap)) (fr τ sz)) 0 0 (fr τ sz) := by
  refine Met.ofW (cc := cX3_take) (maxL := 3) (ret := none) (by decide) rfl ?_
  intro p e s m args below meth c s₁ B hml hv
  obtain ⟨rfl, hsz, hT, hK, hM⟩ := hv
  have hx := B.exec
  have hb := B.bytes
  have hr := B.returns
  have hts := atoms_spec (ws := wm_c_take) B.pre
  have hown : s.vm.findClass RX3 = some m.cls := findClass_of_methodNamed B.named
  have hlocks := B.notSynchronized
  subst hsz
  generalize hAe : fr τ s.heap.size = A at hM ⊢
  have hA : ∀ q : Nat, s.heap.size ≤ q → A q := fun q h => by rw [← hAe]; exact Or.inr h
  have hF : ∀ q, τ q ≠ 0 → A q := fun q h => by rw [← hAe]; exact Or.inl h
  have hS : va_S A s.heap s.heap [] := va_S.rf
  have hX := hI.1
  have hR := ic_r hI
  have hG : ag τ [30, 31, 34, 35, 38] y y := ag.rf
  have hl := lv_entry ([.ref (a 3), .int p0, .int p1]) (n := 3) (Nat.le_of_ble_eq_true rfl)
  rw [lg_entry_eq]
  generalize (lg_sl ([.ref (a 3), .int p0, .int p1]) ++ List.replicate (3 - (lg_sl ([.ref (a 3), .int p0, .int p1])).length) Slot.unset).toArray = ls at hl ⊢
  have hl : lv_has ls 3 [(0, .ref (a 3)), (1, .int p0), (2, .int p1)] := hl
  refine lv_aload_n hx hb dX3_take_0 rfl (lv_at hl 0 rfl) ?_
  refine tw_get (D := (dC, dI)) (v := .ref (a 20)) (C := RX3) (T := TX3) (N := 12) hx hb hts (fun _ hh => (List.mem_cons_of_mem _ (List.mem_append_right _ (List.mem_append_left _ hh)))) hown hK hT (fx_3 hX) (by decide) cl_e13 rfl 3 (by decide) (hts (.fieldLink RX3 15 "TypingPool$Floor" "has" "[I") (List.mem_cons_of_mem _ (List.mem_append_left _ (List.mem_of_getElem? (i := 0) rfl)))) (fun _ h9 => h9) rfl dX3_take_1 ?_
  refine lv_iload_n hx hb dX3_take_4 rfl (lv_at hl 1 rfl) ?_
  refine lv_iload_n hx hb dX3_take_5 rfl (lv_at hl 2 rfl) ?_
  refine tw_iast hx hb hK hT hF hS 0 (fx_20 hX) (by decide) (fun _ => cl_e30) rfl (z_in rfl (by omega) (by omega)) dX3_take_6 (fun H locs hT hS => ?_)
  obtain ⟨y_1, hy_1, hT⟩ : ∃ z : Nat → Nat → Int32, z = up2 y (a 20) p0.toNatClampNeg p1 ∧ tw (dC, dI) a k τ ln z g H := ⟨_, rfl, hT⟩
  have hG : ag τ [30, 31, 34, 35, 38] y y_1 := by rw [hy_1]; exact hG.up (fx_20 hX) (by decide)
  have hI := hI.ag (S := [30]) (y' := y_1) (by rw [hy_1]; exact ag.one (fx_20 hX)) (by decide)
  refine lv_aload_n hx hb dX3_take_7 rfl (lv_at hl 0 rfl) ?_
  refine tw_get (D := (dC, dI)) (v := .ref (a 21)) (C := RX3) (T := TX3) (N := 12) hx hb hts (fun _ hh => (List.mem_cons_of_mem _ (List.mem_append_right _ (List.mem_append_left _ hh)))) hown hK hT (fx_3 hX) (by decide) cl_e13 rfl 4 (by decide) (hts (.fieldLink RX3 19 "TypingPool$Floor" "rate" "[I") (List.mem_cons_of_mem _ (List.mem_append_left _ (List.mem_of_getElem? (i := 1) rfl)))) (fun _ h9 => h9) rfl dX3_take_8 ?_
  refine lv_iload_n hx hb dX3_take_11 rfl (lv_at hl 1 rfl) ?_
  refine lv_aload_n hx hb dX3_take_12 rfl (lv_at hl 0 rfl) ?_
  refine lv_iload_n hx hb dX3_take_13 rfl (lv_at hl 1 rfl) ?_
  refine lv_iload_n hx hb dX3_take_14 rfl (lv_at hl 2 rfl) ?_
  refine lv_aload_n hx hb dX3_take_15 rfl (lv_at hl 0 rfl) ?_
  refine tw_get (D := (dC, dI)) (v := .ref (a 22)) (C := RX3) (T := TX3) (N := 12) hx hb hts (fun _ hh => (List.mem_cons_of_mem _ (List.mem_append_right _ (List.mem_append_left _ hh)))) hown hK hT (fx_3 hX) (by decide) cl_e13 rfl 5 (by decide) (hts (.fieldLink RX3 22 "TypingPool$Floor" "words" "[I") (List.mem_cons_of_mem _ (List.mem_append_left _ (List.mem_of_getElem? (i := 2) rfl)))) (fun _ h9 => h9) rfl dX3_take_16 ?_
  refine lv_iload_n hx hb dX3_take_19 rfl (lv_at hl 1 rfl) ?_
  refine tw_iald hx hb hK hT 0 (fx_22 hX) (by decide) cl_e32 rfl (z_in rfl (by omega) (by omega)) dX3_take_20 ?_
  have hFc := tw_free hF hS hA
  refine va_calli (va_runV (As := [.int p0, .int p1, .int (y_1 (a 22) p0.toNatClampNeg)]) (rest := [.int p0, .ref (a 21)]) ⟨hx, hb, hml, hown, hts⟩ (c_rateFor l dC dI ad av H.size a k τ ln y_1 g u p0 p1 (y_1 (a 22) p0.toNatClampNeg) hI (by omega) (by omega) (by omega) (by omega)) (cwV 3 hts (gi_4 (List.mem_cons_of_mem _ (List.mem_append_left _ (List.mem_of_getElem? (i := 3) rfl))) (List.mem_cons_of_mem _ (List.mem_append_left _ (List.mem_of_getElem? (i := 4) rfl))) (List.mem_cons_of_mem _ (List.mem_append_left _ (List.mem_of_getElem? (i := 5) rfl))) (List.mem_cons_of_mem _ (List.mem_append_left _ (List.mem_of_getElem? (i := 6) rfl))) (fun _ hh => (List.mem_cons_of_mem _ (List.mem_append_right _ (List.mem_append_right _ (List.mem_append_left _ hh))))) gd_c_rateFor) rfl rfl rfl (by decide +kernel) ⟨Nat.le_of_ble_eq_true rfl, Nat.le_of_ble_eq_true rfl⟩) ⟨pw_blind, tw_recv hK hT (fx_3 hX) (by decide) cl_e13 rfl, pw_use hT hK hFc hS hM⟩ rfl rfl hl.1 rfl (lv_room (Nat.le_of_ble_eq_true rfl)) dX3_take_21 ⟨Nat.le_of_ble_eq_true rfl, Nat.le_of_ble_eq_true rfl⟩) hS (fun q _ h => hFc q h) hFc (fun r0 r_2 t H locs ht hvm hw hB hz1 hk1 hS => ?_)
  refine W.widen (k := 0) (n := 0) (Nat.le_of_ble_eq_true rfl) (Nat.le_of_ble_eq_true rfl) ?_
  clear hvm hz1 hk1
  subst hw
  have hT := hB
  rw [ht] at hT
  refine tw_iast hx hb hK hT hF hS 0 (fx_21 hX) (by decide) (fun _ => cl_e31) rfl (z_in rfl (by omega) (by omega)) dX3_take_24 (fun H locs hT hS => ?_)
  obtain ⟨y_3, hy_3, hT⟩ : ∃ z : Nat → Nat → Int32, z = up2 y_1 (a 21) p0.toNatClampNeg r_2 ∧ tw (dC, dI) a k τ ln z g H := ⟨_, rfl, hT⟩
  have hG : ag τ [30, 31, 34, 35, 38] y y_3 := by rw [hy_3]; exact hG.up (fx_21 hX) (by decide)
  have hI := hI.ag (S := [31]) (y' := y_3) (by rw [hy_3]; exact ag.one (fx_21 hX)) (by decide)
  refine lv_aload_n hx hb dX3_take_25 rfl (lv_at hl 0 rfl) ?_
  refine tw_get (D := (dC, dI)) (v := .ref (a 24)) (C := RX3) (T := TX3) (N := 12) hx hb hts (fun _ hh => (List.mem_cons_of_mem _ (List.mem_append_right _ (List.mem_append_left _ hh)))) hown hK hT (fx_3 hX) (by decide) cl_e13 rfl 7 (by decide) (hts (.fieldLink RX3 28 "TypingPool$Floor" "by" "[I") (List.mem_cons_of_mem _ (List.mem_append_left _ (List.mem_of_getElem? (i := 7) rfl)))) (fun _ h9 => h9) rfl dX3_take_26 ?_
  refine lv_iload_n hx hb dX3_take_29 rfl (lv_at hl 2 rfl) ?_
  refine lv_iload_n hx hb dX3_take_30 rfl (lv_at hl 1 rfl) ?_
  refine tw_iast hx hb hK hT hF hS 0 (fx_24 hX) (by decide) (fun _ => cl_e34) rfl (z_in rfl (by omega) (by omega)) dX3_take_31 (fun H locs hT hS => ?_)
  obtain ⟨y_4, hy_4, hT⟩ : ∃ z : Nat → Nat → Int32, z = up2 y_3 (a 24) p1.toNatClampNeg p0 ∧ tw (dC, dI) a k τ ln z g H := ⟨_, rfl, hT⟩
  have hG : ag τ [30, 31, 34, 35, 38] y y_4 := by rw [hy_4]; exact hG.up (fx_24 hX) (by decide)
  have hI := hI.ag (S := [34]) (y' := y_4) (by rw [hy_4]; exact ag.one (fx_24 hX)) (by decide)
  refine lv_aload_n hx hb dX3_take_32 rfl (lv_at hl 0 rfl) ?_
  refine tw_get (D := (dC, dI)) (v := .ref (a 25)) (C := RX3) (T := TX3) (N := 12) hx hb hts (fun _ hh => (List.mem_cons_of_mem _ (List.mem_append_right _ (List.mem_append_left _ hh)))) hown hK hT (fx_3 hX) (by decide) cl_e13 rfl 8 (by decide) (hts (.fieldLink RX3 31 "TypingPool$Floor" "taken" "[I") (List.mem_cons_of_mem _ (List.mem_append_left _ (List.mem_of_getElem? (i := 8) rfl)))) (fun _ h9 => h9) rfl dX3_take_33 ?_
  refine lv_iload_n hx hb dX3_take_36 rfl (lv_at hl 2 rfl) ?_
  refine lv_aload_n hx hb dX3_take_37 rfl (lv_at hl 0 rfl) ?_
  refine tw_get (D := (dC, dI)) (v := .int (y_4 (a 3) 2)) (C := RX3) (T := TX3) (N := 12) hx hb hts (fun _ hh => (List.mem_cons_of_mem _ (List.mem_append_right _ (List.mem_append_left _ hh)))) hown hK hT (fx_3 hX) (by decide) cl_e13 rfl 2 (by decide) (hts (.fieldLink RX3 9 "TypingPool$Floor" "now" "I") (List.mem_cons_of_mem _ (List.mem_append_left _ (List.mem_of_getElem? (i := 9) rfl)))) (fun _ h9 => h9) rfl dX3_take_38 ?_
  refine tw_iast hx hb hK hT hF hS 0 (fx_25 hX) (by decide) (fun _ => cl_e35) rfl (z_in rfl (by omega) (by omega)) dX3_take_41 (fun H locs hT hS => ?_)
  obtain ⟨y_5, hy_5, hT⟩ : ∃ z : Nat → Nat → Int32, z = up2 y_4 (a 25) p1.toNatClampNeg (y_4 (a 3) 2) ∧ tw (dC, dI) a k τ ln z g H := ⟨_, rfl, hT⟩
  have hG : ag τ [30, 31, 34, 35, 38] y y_5 := by rw [hy_5]; exact hG.up (fx_25 hX) (by decide)
  have hI := hI.ag (S := [35]) (y' := y_5) (by rw [hy_5]; exact ag.one (fx_25 hX)) (by decide)
  refine lv_aload_n hx hb dX3_take_42 rfl (lv_at hl 0 rfl) ?_
  refine tw_get (D := (dC, dI)) (v := .ref (a 28)) (C := RX3) (T := TX3) (N := 12) hx hb hts (fun _ hh => (List.mem_cons_of_mem _ (List.mem_append_right _ (List.mem_append_left _ hh)))) hown hK hT (fx_3 hX) (by decide) cl_e13 rfl 11 (by decide) (hts (.fieldLink RX3 40 "TypingPool$Floor" "knew" "[I") (List.mem_cons_of_mem _ (List.mem_append_left _ (List.mem_of_getElem? (i := 10) rfl)))) (fun _ h9 => h9) rfl dX3_take_43 ?_
  refine lv_iload_n hx hb dX3_take_46 rfl (lv_at hl 2 rfl) ?_
  refine lv_aload_n hx hb dX3_take_47 rfl (lv_at hl 0 rfl) ?_
  refine tw_get (D := (dC, dI)) (v := .ref (a 1)) (C := RX3) (T := TX3) (N := 12) hx hb hts (fun _ hh => (List.mem_cons_of_mem _ (List.mem_append_right _ (List.mem_append_left _ hh)))) hown hK hT (fx_3 hX) (by decide) cl_e13 rfl 0 (by decide) (hts (.fieldLink RX3 43 "TypingPool$Floor" "book" "LTypingPool$Book;") (List.mem_cons_of_mem _ (List.mem_append_left _ (List.mem_of_getElem? (i := 11) rfl)))) (fun _ h9 => h9) rfl dX3_take_48 ?_
  refine tw_get (D := (dC, dI)) (v := .ref (a 11)) (C := RX1) (T := TX1) (N := 8) hx hb hts (fun _ hh => (List.mem_cons_of_mem _ (List.mem_append_right _ (List.mem_append_right _ (List.mem_append_right _ (List.mem_append_left _ hh)))))) hown hK hT (fx_1 hX) (by decide) cl_e11 rfl 4 (by decide) (hts (.fieldLink RX3 103 "TypingPool$Book" "pieces" "[LTypingPool$Piece;") (List.mem_cons_of_mem _ (List.mem_append_left _ (List.mem_of_getElem? (i := 12) rfl)))) (fun _ h9 => h9) rfl dX3_take_51 ?_
  refine lv_iload_n hx hb dX3_take_54 rfl (lv_at hl 2 rfl) ?_
  refine tw_aald hx hb hK hT 4 (fx_11 hX) (by decide) cl_e21 rfl (z_in rfl (by omega) (by omega)) dX3_take_55 ?_
  obtain ⟨q_6, hgq_6, htq_6⟩ := ic_l11 hI (x := p1) rfl (by omega) (by omega)
  refine lq_topr hgq_6 ?_
  refine lv_aload_n hx hb dX3_take_56 rfl (lv_at hl 0 rfl) ?_
  refine tw_get (D := (dC, dI)) (v := .ref (a 22)) (C := RX3) (T := TX3) (N := 12) hx hb hts (fun _ hh => (List.mem_cons_of_mem _ (List.mem_append_right _ (List.mem_append_left _ hh)))) hown hK hT (fx_3 hX) (by decide) cl_e13 rfl 5 (by decide) (hts (.fieldLink RX3 22 "TypingPool$Floor" "words" "[I") (List.mem_cons_of_mem _ (List.mem_append_left _ (List.mem_of_getElem? (i := 2) rfl)))) (fun _ h9 => h9) rfl dX3_take_57 ?_
  refine lv_iload_n hx hb dX3_take_60 rfl (lv_at hl 1 rfl) ?_
  refine tw_iald hx hb hK hT 0 (fx_22 hX) (by decide) cl_e32 rfl (z_in rfl (by omega) (by omega)) dX3_take_61 ?_
  have hFc := tw_free hF hS hA
  refine va_calli (va_runV (As := [.int (y_5 (a 22) p0.toNatClampNeg)]) (rest := [.int p1, .ref (a 28)]) ⟨hx, hb, hml, hown, hts⟩ (c_unknownTo l dC dI ad av H.size a k τ ln y_5 g u q_6 (y_5 (a 22) p0.toNatClampNeg) hI htq_6) (cwV 1 hts (gi_4 (List.mem_cons_of_mem _ (List.mem_append_left _ (List.mem_of_getElem? (i := 13) rfl))) (List.mem_cons_of_mem _ (List.mem_append_left _ (List.mem_of_getElem? (i := 14) rfl))) (List.mem_cons_of_mem _ (List.mem_append_left _ (List.mem_of_getElem? (i := 15) rfl))) (List.mem_cons_of_mem _ (List.mem_append_left _ (List.mem_of_getElem? (i := 16) rfl))) (fun _ hh => (List.mem_cons_of_mem _ (List.mem_append_right _ (List.mem_append_right _ (List.mem_append_right _ (List.mem_append_right _ (List.mem_append_left _ hh))))))) gd_c_unknownTo) rfl rfl rfl (by decide +kernel) ⟨Nat.le_of_ble_eq_true rfl, Nat.le_of_ble_eq_true rfl⟩) ⟨pw_blind, tw_recv hK hT htq_6 (by decide) cl_e2 rfl, pw_use hT hK hFc hS hM⟩ rfl rfl hl.1 rfl (lv_room (Nat.le_of_ble_eq_true rfl)) dX3_take_62 ⟨Nat.le_of_ble_eq_true rfl, Nat.le_of_ble_eq_true rfl⟩) hS (fun q _ h => hFc q h) hFc (fun r0 r_7 t H locs ht hvm hw hB hz1 hk1 hS => ?_)
  refine W.widen (k := 0) (n := 0) (Nat.le_of_ble_eq_true rfl) (Nat.le_of_ble_eq_true rfl) ?_
  clear hvm hz1 hk1
  subst hw
  obtain ⟨hf_8, hf_9, hT⟩ := hB
  rw [ht] at hT
  refine lv_if_ne (tgt := 72) hx hb dX3_take_65 (by decide) (fun c_10 => ?_) (fun c_10 => ?_)
  · have nc_10 := z_ne rfl (zk (x := 0) 0 rfl) c_10
    refine lv_iconst (v := 0) hx hb dX3_take_72 (by decide) ?_
    refine tw_iast hx hb hK hT hF hS 0 (fx_28 hX) (by decide) (fun _ => cl_e38) rfl (z_in rfl (by omega) (by omega)) dX3_take_73 (fun H locs hT hS => ?_)
    obtain ⟨y_11, hy_11, hT⟩ : ∃ z : Nat → Nat → Int32, z = up2 y_5 (a 28) p1.toNatClampNeg (0 : Int32) ∧ tw (dC, dI) a k τ ln z g H := ⟨_, rfl, hT⟩
    have hG : ag τ [30, 31, 34, 35, 38] y y_11 := by rw [hy_11]; exact hG.up (fx_28 hX) (by decide)
    have hI := hI.ag (S := [38]) (y' := y_11) (by rw [hy_11]; exact ag.one (fx_28 hX)) (by decide)
    exact W.vret hx hb hr (fun t ht hW9 => ⟨⟨(), rfl, trivial, ⟨y_11, hG, tw_at ht hT⟩⟩, hS.F ht⟩) hS.2.2 dX3_take_74
  · have nc_10 := z_eq rfl (zk (x := 0) 0 rfl) c_10
    refine lv_iconst (v := 1) hx hb dX3_take_68 (by decide) ?_
    refine lv_goto (tgt := 73) hx hb dX3_take_69 (by decide) ?_
    refine tw_iast hx hb hK hT hF hS 0 (fx_28 hX) (by decide) (fun _ => cl_e38) rfl (z_in rfl (by omega) (by omega)) dX3_take_73 (fun H locs hT hS => ?_)
    obtain ⟨y_12, hy_12, hT⟩ : ∃ z : Nat → Nat → Int32, z = up2 y_5 (a 28) p1.toNatClampNeg (1 : Int32) ∧ tw (dC, dI) a k τ ln z g H := ⟨_, rfl, hT⟩
    have hG : ag τ [30, 31, 34, 35, 38] y y_12 := by rw [hy_12]; exact hG.up (fx_28 hX) (by decide)
    have hI := hI.ag (S := [38]) (y' := y_12) (by rw [hy_12]; exact ag.one (fx_28 hX)) (by decide)
    exact W.vret hx hb hr (fun t ht hW9 => ⟨⟨(), rfl, trivial, ⟨y_12, hG, tw_at ht hT⟩⟩, hS.F ht⟩) hS.2.2 dX3_take_74
def wo_c_changeFrom : List Cond := [.fieldLink RX3 9 "TypingPool$Floor" "now" "I", .fieldLink RX3 43 "TypingPool$Floor" "book" "LTypingPool$Book;", .methodLink RX3 126 Lib.Math.min.name, .static Lib.Math.min.name, .initialized "java/lang/Math", .code Lib.Math.min.name Lib.Math.min.code 2 (some .int), .methodLink RX3 129 yX1_changeBehind, .instanceMethod yX1_changeBehind, .selects RX1 yX1_changeBehind yX1_changeBehind, .initialized RX1, .fieldLink RX3 75 "TypingPool$Book" "handCount" "I", .methodLink RX3 132 yX3_isBusy, .instanceMethod yX3_isBusy, .selects RX3 yX3_isBusy yX3_isBusy, .initialized RX3, .fieldLink RX3 37 "TypingPool$Floor" "workLeft" "[I", .fieldLink RX3 15 "TypingPool$Floor" "has" "[I", .fieldLink RX3 19 "TypingPool$Floor" "rate" "[I", .initialized RX11, .static yX11_minutesFor]
def wm_c_changeFrom : List Cond := .code yX3_changeFrom cX3_changeFrom 6 (some .int) :: (wo_c_changeFrom ++ (wsX30 ++ (wm_c_changeBehind ++ (wsX10 ++ (wm_c_isBusy ++ (wm_c_minutesFor ++ ([] : List Cond)))))))
theorem gd_c_changeFrom : ∀ w ∈ wm_c_changeFrom, goodWord w = true := gd_c rfl (gd_a (by decide) (gd_a gd_wsX30 (gd_a gd_c_changeBehind (gd_a gd_wsX10 (gd_a gd_c_isBusy (gd_a gd_c_minutesFor gd_nil))))))
set_option maxRecDepth 20000 in
theorem im_c_changeFrom : ∀ w ∈ wm_c_changeFrom, w ∈ lw_tbl := im_c (in_r [.code yX3_changeFrom cX3_changeFrom 6 (some .int)] [827] (by decide +kernel)) (in_app (in_r wo_c_changeFrom [428, 426, 828, 260, 78, 261, 829, 830, 831, 71, 125, 836, 838, 14, 83, 449, 431, 434, 70, 845] (by decide +kernel)) (in_app im_wsX30 (in_app im_c_changeBehind (in_app im_wsX10 (in_app im_c_isBusy (in_app im_c_minutesFor im_nil))))))
set_option maxHeartbeats 4000000 in
set_option maxRecDepth 100000 in
theorem c_changeFrom (l : Launch) (dC : Nat → ClassId) (dI : Nat → Nat → Nat) (ad av : Nat → Nat) (sz : Nat) (a : Nat → Nat) (k : Nat → ClassId) (τ ln : Nat → Nat) (y : Nat → Nat → Int32) (g : Nat → Nat → Option Nat) (u : Nat → Int) (p0 : Int32) (p1 : Int32) (hI : IC a u τ ln y g) : Met l yX3_changeFrom wm_c_changeFrom ({ frames := 2, cells := 0, slots := 0, locals := 120 }) (pw_ ad av (dC, dI) sz [.ref (a 3), .int p0, .int p1] a k τ ln y g) (va_Qi (fun (r u : Int32) => u = r) (fun (r : Int32) (t : State) => (tw (dC, dI) a k τ ln y g t.heap)) (fr τ sz)) 0 0 (fr τ sz) := by
  refine Met.ofW (cc := cX3_changeFrom) (maxL := 6) (ret := (some .int)) (by decide) rfl ?_
  intro p e s m args below meth c s₁ B hml hv
  obtain ⟨rfl, hsz, hT, hK, hM⟩ := hv
  have hx := B.exec
  have hb := B.bytes
  have hr := B.returns
  have hts := atoms_spec (ws := wm_c_changeFrom) B.pre
  have hown : s.vm.findClass RX3 = some m.cls := findClass_of_methodNamed B.named
  have hlocks := B.notSynchronized
  subst hsz
  generalize hAe : fr τ s.heap.size = A at hM ⊢
  have hA : ∀ q : Nat, s.heap.size ≤ q → A q := fun q h => by rw [← hAe]; exact Or.inr h
  have hF : ∀ q, τ q ≠ 0 → A q := fun q h => by rw [← hAe]; exact Or.inl h
  have hS : va_S A s.heap s.heap [] := va_S.rf
  have hX := hI.1
  have hR := ic_r hI
  have hl := lv_entry ([.ref (a 3), .int p0, .int p1]) (n := 6) (Nat.le_of_ble_eq_true rfl)
  rw [lg_entry_eq]
  generalize (lg_sl ([.ref (a 3), .int p0, .int p1]) ++ List.replicate (6 - (lg_sl ([.ref (a 3), .int p0, .int p1])).length) Slot.unset).toArray = ls at hl ⊢
  have hl : lv_has ls 6 [(0, .ref (a 3)), (1, .int p0), (2, .int p1)] := hl
  refine lv_aload_n hx hb dX3_changeFrom_0 rfl (lv_at hl 0 rfl) ?_
  refine tw_get (D := (dC, dI)) (v := .int (y (a 3) 2)) (C := RX3) (T := TX3) (N := 12) hx hb hts (fun _ hh => (List.mem_cons_of_mem _ (List.mem_append_right _ (List.mem_append_left _ hh)))) hown hK hT (fx_3 hX) (by decide) cl_e13 rfl 2 (by decide) (hts (.fieldLink RX3 9 "TypingPool$Floor" "now" "I") (List.mem_cons_of_mem _ (List.mem_append_left _ (List.mem_of_getElem? (i := 0) rfl)))) (fun _ h9 => h9) rfl dX3_changeFrom_1 ?_
  refine lv_aload_n hx hb dX3_changeFrom_4 rfl (lv_at hl 0 rfl) ?_
  refine tw_get (D := (dC, dI)) (v := .int (y (a 3) 2)) (C := RX3) (T := TX3) (N := 12) hx hb hts (fun _ hh => (List.mem_cons_of_mem _ (List.mem_append_right _ (List.mem_append_left _ hh)))) hown hK hT (fx_3 hX) (by decide) cl_e13 rfl 2 (by decide) (hts (.fieldLink RX3 9 "TypingPool$Floor" "now" "I") (List.mem_cons_of_mem _ (List.mem_append_left _ (List.mem_of_getElem? (i := 0) rfl)))) (fun _ h9 => h9) rfl dX3_changeFrom_5 ?_
  refine lv_sipush (v := 480) hx hb dX3_changeFrom_8 (by decide) ?_
  refine lv_irem hx hb dX3_changeFrom_11 (by decide) ?_
  refine lv_topi (fun x_1 ex_1 => ?_)
  refine lv_isub hx hb dX3_changeFrom_12 ?_
  refine lv_topi (fun x_2 ex_2 => ?_)
  refine lv_sipush (v := 480) hx hb dX3_changeFrom_13 (by decide) ?_
  refine lv_iadd hx hb dX3_changeFrom_16 ?_
  refine lv_topi (fun x_3 ex_3 => ?_)
  refine lv_istore_n (lv' := [(3, .int x_3), (0, .ref (a 3)), (1, .int p0), (2, .int p1)]) hx hb dX3_changeFrom_17 rfl hl (by decide) rfl (fun ls hl => ?_)
  refine lv_aload_n hx hb dX3_changeFrom_18 rfl (lv_at hl 1 rfl) ?_
  refine tw_get (D := (dC, dI)) (v := .ref (a 1)) (C := RX3) (T := TX3) (N := 12) hx hb hts (fun _ hh => (List.mem_cons_of_mem _ (List.mem_append_right _ (List.mem_append_left _ hh)))) hown hK hT (fx_3 hX) (by decide) cl_e13 rfl 0 (by decide) (hts (.fieldLink RX3 43 "TypingPool$Floor" "book" "LTypingPool$Book;") (List.mem_cons_of_mem _ (List.mem_append_left _ (List.mem_of_getElem? (i := 1) rfl)))) (fun _ h9 => h9) rfl dX3_changeFrom_19 ?_
  refine lv_aload_n hx hb dX3_changeFrom_22 rfl (lv_at hl 1 rfl) ?_
  refine tw_get (D := (dC, dI)) (v := .int (y (a 3) 2)) (C := RX3) (T := TX3) (N := 12) hx hb hts (fun _ hh => (List.mem_cons_of_mem _ (List.mem_append_right _ (List.mem_append_left _ hh)))) hown hK hT (fx_3 hX) (by decide) cl_e13 rfl 2 (by decide) (hts (.fieldLink RX3 9 "TypingPool$Floor" "now" "I") (List.mem_cons_of_mem _ (List.mem_append_left _ (List.mem_of_getElem? (i := 0) rfl)))) (fun _ h9 => h9) rfl dX3_changeFrom_23 ?_
  refine lv_iload_n hx hb dX3_changeFrom_26 rfl (lv_at hl 3 rfl) ?_
  refine lv_iload_n hx hb dX3_changeFrom_27 rfl (lv_at hl 0 rfl) ?_
  refine va_mmin hx hb (by rw [hml]; exact hl.1.symm) hown (hts (.methodLink RX3 126 Lib.Math.min.name) (List.mem_cons_of_mem _ (List.mem_append_left _ (List.mem_of_getElem? (i := 2) rfl)))) (hts (.static Lib.Math.min.name) (List.mem_cons_of_mem _ (List.mem_append_left _ (List.mem_of_getElem? (i := 3) rfl)))) (hts (.initialized "java/lang/Math") (List.mem_cons_of_mem _ (List.mem_append_left _ (List.mem_of_getElem? (i := 4) rfl)))) (hts (.code Lib.Math.min.name Lib.Math.min.code 2 (some .int)) (List.mem_cons_of_mem _ (List.mem_append_left _ (List.mem_of_getElem? (i := 5) rfl)))) (Nat.le_of_ble_eq_true rfl) (Nat.le_of_ble_eq_true rfl) (Nat.le_of_ble_eq_true rfl) (Nat.le_of_ble_eq_true rfl) dX3_changeFrom_28 ?_
  refine lv_topi (fun x_4 ex_4 => ?_)
  have hx_4 := z_min ex_4 rfl rfl
  have hFc := tw_free hF hS hA
  refine va_calli (va_runV (As := [.int (y (a 3) 2), .int x_4]) (rest := []) ⟨hx, hb, hml, hown, hts⟩ (c_changeBehind l dC dI ad av s.heap.size a k τ ln y g u (y (a 3) 2) x_4 hI ) (cwV 2 hts (gi_4 (List.mem_cons_of_mem _ (List.mem_append_left _ (List.mem_of_getElem? (i := 6) rfl))) (List.mem_cons_of_mem _ (List.mem_append_left _ (List.mem_of_getElem? (i := 7) rfl))) (List.mem_cons_of_mem _ (List.mem_append_left _ (List.mem_of_getElem? (i := 8) rfl))) (List.mem_cons_of_mem _ (List.mem_append_left _ (List.mem_of_getElem? (i := 9) rfl))) (fun _ hh => (List.mem_cons_of_mem _ (List.mem_append_right _ (List.mem_append_right _ (List.mem_append_left _ hh))))) gd_c_changeBehind) rfl rfl rfl (by decide +kernel) ⟨Nat.le_of_ble_eq_true rfl, Nat.le_of_ble_eq_true rfl⟩) ⟨pw_blind, tw_recv hK hT (fx_1 hX) (by decide) cl_e11 rfl, pw_use hT hK hFc hS hM⟩ rfl rfl hl.1 rfl (lv_room (Nat.le_of_ble_eq_true rfl)) dX3_changeFrom_31 ⟨Nat.le_of_ble_eq_true rfl, Nat.le_of_ble_eq_true rfl⟩) hS (fun q _ h => hFc q h) hFc (fun r0 r_5 t H locs ht hvm hw hB hz1 hk1 hS => ?_)
  refine W.widen (k := 0) (n := 0) (Nat.le_of_ble_eq_true rfl) (Nat.le_of_ble_eq_true rfl) ?_
  clear hvm hz1 hk1
  subst hw
  have hT := hB
  rw [ht] at hT
  refine lv_istore (lv' := [(4, .int r_5), (3, .int x_3), (0, .ref (a 3)), (1, .int p0), (2, .int p1)]) hx hb dX3_changeFrom_34 hl (by decide) rfl (fun ls hl => ?_)
  refine lv_iconst (v := 0) hx hb dX3_changeFrom_36 (by decide) ?_
  refine lv_istore (lv' := [(5, .int 0), (4, .int r_5), (3, .int x_3), (0, .ref (a 3)), (1, .int p0), (2, .int p1)]) hx hb dX3_changeFrom_37 hl (by decide) rfl (fun ls hl => ?_)
  have loop_39 : ∀ (n : Nat) (w4 : Int32) (i5 : Int32) (H : Heap) (locs : List Loc) (ls : Array Slot), (u 1 - i5.toInt).toNat < n → 0 ≤ i5.toInt → i5.toInt ≤ u 1 → tw (dC, dI) a k τ ln y g H → va_S A s.heap H locs → lv_has ls 6 [(0, .ref (a 3)), (1, .int p0), (2, .int p1), (3, .int x_3), (4, .int w4), (5, .int i5)] → W p l e (headSpec wm_c_changeFrom ({ frames := 2, cells := 0, slots := 0, locals := 120 })).room s m ([.ref (a 3), .int p0, .int p1] : List Value).toArray below meth c H locs 0 0 (MQ below (va_Qi (fun (r u : Int32) => u = r) (fun (r : Int32) (t : State) => (tw (dC, dI) a k τ ln y g t.heap)) A) ([.ref (a 3), .int p0, .int p1] : List Value).toArray s 0 0 A) (F0 m 39 ls []) := by
    intro n
    induction n with
    | zero => intro w4 i5 H locs ls hlt; exact absurd hlt (Nat.not_lt_zero _)
    | succ n ih_39 =>
      intro w4 i5 H locs ls hlt hi39_0 hi39_1 hT hS hl
      refine lv_iload hx hb dX3_changeFrom_39 (lv_at hl 5 rfl) ?_
      refine lv_aload_n hx hb dX3_changeFrom_41 rfl (lv_at hl 0 rfl) ?_
      refine tw_get (D := (dC, dI)) (v := .ref (a 1)) (C := RX3) (T := TX3) (N := 12) hx hb hts (fun _ hh => (List.mem_cons_of_mem _ (List.mem_append_right _ (List.mem_append_left _ hh)))) hown hK hT (fx_3 hX) (by decide) cl_e13 rfl 0 (by decide) (hts (.fieldLink RX3 43 "TypingPool$Floor" "book" "LTypingPool$Book;") (List.mem_cons_of_mem _ (List.mem_append_left _ (List.mem_of_getElem? (i := 1) rfl)))) (fun _ h9 => h9) rfl dX3_changeFrom_42 ?_
      refine tw_get (D := (dC, dI)) (v := .int (y (a 1) 3)) (C := RX1) (T := TX1) (N := 8) hx hb hts (fun _ hh => (List.mem_cons_of_mem _ (List.mem_append_right _ (List.mem_append_right _ (List.mem_append_right _ (List.mem_append_left _ hh)))))) hown hK hT (fx_1 hX) (by decide) cl_e11 rfl 3 (by decide) (hts (.fieldLink RX3 75 "TypingPool$Book" "handCount" "I") (List.mem_cons_of_mem _ (List.mem_append_left _ (List.mem_of_getElem? (i := 10) rfl)))) (fun _ h9 => h9) rfl dX3_changeFrom_45 ?_
      have hc_6 := ic_1 hI
      refine lv_icmp_ge (tgt := 101) hx hb dX3_changeFrom_48 (by decide) (fun c_7 => ?_) (fun c_7 => ?_)
      · have nc_7 := z_le hc_6 rfl c_7
        refine lv_iload hx hb dX3_changeFrom_101 (lv_at hl 4 rfl) ?_
        exact W.iret (v := w4) hx hb hr (fun t ht hW9 => ⟨⟨w4, w4, rfl, rfl, (tw_at ht hT)⟩, hS.F ht⟩) hS.2.2 dX3_changeFrom_103
      · have nc_7 := z_nle hc_6 rfl c_7
        refine lv_aload_n hx hb dX3_changeFrom_51 rfl (lv_at hl 0 rfl) ?_
        refine lv_iload hx hb dX3_changeFrom_52 (lv_at hl 5 rfl) ?_
        refine lv_iload_n hx hb dX3_changeFrom_54 rfl (lv_at hl 1 rfl) ?_
        have hFc := tw_free hF hS hA
        refine va_calli (va_runV (As := [.int i5, .int p0]) (rest := []) ⟨hx, hb, hml, hown, hts⟩ (c_isBusy l dC dI ad av H.size a k τ ln y g u i5 p0 hI (by omega) (by omega)) (cwV 2 hts (gi_4 (List.mem_cons_of_mem _ (List.mem_append_left _ (List.mem_of_getElem? (i := 11) rfl))) (List.mem_cons_of_mem _ (List.mem_append_left _ (List.mem_of_getElem? (i := 12) rfl))) (List.mem_cons_of_mem _ (List.mem_append_left _ (List.mem_of_getElem? (i := 13) rfl))) (List.mem_cons_of_mem _ (List.mem_append_left _ (List.mem_of_getElem? (i := 14) rfl))) (fun _ hh => (List.mem_cons_of_mem _ (List.mem_append_right _ (List.mem_append_right _ (List.mem_append_right _ (List.mem_append_right _ (List.mem_append_left _ hh))))))) gd_c_isBusy) rfl rfl rfl (by decide +kernel) ⟨Nat.le_of_ble_eq_true rfl, Nat.le_of_ble_eq_true rfl⟩) ⟨pw_blind, tw_recv hK hT (fx_3 hX) (by decide) cl_e13 rfl, pw_use hT hK hFc hS hM⟩ rfl rfl hl.1 rfl (lv_room (Nat.le_of_ble_eq_true rfl)) dX3_changeFrom_55 ⟨Nat.le_of_ble_eq_true rfl, Nat.le_of_ble_eq_true rfl⟩) hS (fun q _ h => hFc q h) hFc (fun r0 r_8 t H locs ht hvm hw hB hz1 hk1 hS => ?_)
        refine W.widen (k := 0) (n := 0) (Nat.le_of_ble_eq_true rfl) (Nat.le_of_ble_eq_true rfl) ?_
        clear hvm hz1 hk1
        subst hw
        rcases hB with ⟨hre, hf_9, hf_10, hT⟩ | ⟨hre, hT⟩
        · refine lq_top (v := 1) hre ?_
          rw [ht] at hT
          refine lv_if_eq (tgt := 95) hx hb dX3_changeFrom_58 (by decide) (fun c_11 => absurd c_11 (by decide)) (fun c_11 => ?_)
          refine lv_iload hx hb dX3_changeFrom_61 (lv_at hl 4 rfl) ?_
          refine lv_aload_n hx hb dX3_changeFrom_63 rfl (lv_at hl 0 rfl) ?_
          refine tw_get (D := (dC, dI)) (v := .int (y (a 3) 2)) (C := RX3) (T := TX3) (N := 12) hx hb hts (fun _ hh => (List.mem_cons_of_mem _ (List.mem_append_right _ (List.mem_append_left _ hh)))) hown hK hT (fx_3 hX) (by decide) cl_e13 rfl 2 (by decide) (hts (.fieldLink RX3 9 "TypingPool$Floor" "now" "I") (List.mem_cons_of_mem _ (List.mem_append_left _ (List.mem_of_getElem? (i := 0) rfl)))) (fun _ h9 => h9) rfl dX3_changeFrom_64 ?_
          refine lv_aload_n hx hb dX3_changeFrom_67 rfl (lv_at hl 0 rfl) ?_
          refine tw_get (D := (dC, dI)) (v := .ref (a 27)) (C := RX3) (T := TX3) (N := 12) hx hb hts (fun _ hh => (List.mem_cons_of_mem _ (List.mem_append_right _ (List.mem_append_left _ hh)))) hown hK hT (fx_3 hX) (by decide) cl_e13 rfl 10 (by decide) (hts (.fieldLink RX3 37 "TypingPool$Floor" "workLeft" "[I") (List.mem_cons_of_mem _ (List.mem_append_left _ (List.mem_of_getElem? (i := 15) rfl)))) (fun _ h9 => h9) rfl dX3_changeFrom_68 ?_
          refine lv_aload_n hx hb dX3_changeFrom_71 rfl (lv_at hl 0 rfl) ?_
          refine tw_get (D := (dC, dI)) (v := .ref (a 20)) (C := RX3) (T := TX3) (N := 12) hx hb hts (fun _ hh => (List.mem_cons_of_mem _ (List.mem_append_right _ (List.mem_append_left _ hh)))) hown hK hT (fx_3 hX) (by decide) cl_e13 rfl 3 (by decide) (hts (.fieldLink RX3 15 "TypingPool$Floor" "has" "[I") (List.mem_cons_of_mem _ (List.mem_append_left _ (List.mem_of_getElem? (i := 16) rfl)))) (fun _ h9 => h9) rfl dX3_changeFrom_72 ?_
          refine lv_iload hx hb dX3_changeFrom_75 (lv_at hl 5 rfl) ?_
          refine tw_iald hx hb hK hT 0 (fx_20 hX) (by decide) cl_e30 rfl (z_in rfl (by omega) (by omega)) dX3_changeFrom_77 ?_
          refine tw_iald hx hb hK hT 0 (fx_27 hX) (by decide) cl_e37 rfl (z_in rfl (by omega) (by omega)) dX3_changeFrom_78 ?_
          refine lv_aload_n hx hb dX3_changeFrom_79 rfl (lv_at hl 0 rfl) ?_
          refine tw_get (D := (dC, dI)) (v := .ref (a 21)) (C := RX3) (T := TX3) (N := 12) hx hb hts (fun _ hh => (List.mem_cons_of_mem _ (List.mem_append_right _ (List.mem_append_left _ hh)))) hown hK hT (fx_3 hX) (by decide) cl_e13 rfl 4 (by decide) (hts (.fieldLink RX3 19 "TypingPool$Floor" "rate" "[I") (List.mem_cons_of_mem _ (List.mem_append_left _ (List.mem_of_getElem? (i := 17) rfl)))) (fun _ h9 => h9) rfl dX3_changeFrom_80 ?_
          refine lv_iload hx hb dX3_changeFrom_83 (lv_at hl 5 rfl) ?_
          refine tw_iald hx hb hK hT 0 (fx_21 hX) (by decide) cl_e31 rfl (z_in rfl (by omega) (by omega)) dX3_changeFrom_85 ?_
          have hFc := tw_free hF hS hA
          refine va_calli (va_runSN (As := [.int (y (a 27) (y (a 20) i5.toNatClampNeg).toNatClampNeg), .int (y (a 21) i5.toNatClampNeg)]) (rest := [.int (y (a 3) 2), .int w4]) ⟨hx, hb, hml, hown, hts⟩ (c_minutesFor l dC dI ad av H.size a k τ ln y g u (y (a 27) (y (a 20) i5.toNatClampNeg).toNatClampNeg) (y (a 21) i5.toNatClampNeg)  ) ⟨va_cnB 2 hts (gi_0  (fun _ hh => (List.mem_cons_of_mem _ (List.mem_append_right _ (List.mem_append_right _ (List.mem_append_right _ (List.mem_append_right _ (List.mem_append_right _ (List.mem_append_left _ hh)))))))) gd_c_minutesFor) rfl rfl rfl hM.1.2.2.1 (hts (.initialized RX11) (List.mem_cons_of_mem _ (List.mem_append_left _ (List.mem_of_getElem? (i := 18) rfl)))) (by decide +kernel) ⟨Nat.le_of_ble_eq_true rfl, Nat.le_of_ble_eq_true rfl⟩, (hts (.static yX11_minutesFor) (List.mem_cons_of_mem _ (List.mem_append_left _ (List.mem_of_getElem? (i := 19) rfl)))), trivial⟩ ⟨pw_blind, pw_use hT hK hFc hS hM⟩ rfl rfl hl.1 rfl (lv_room (Nat.le_of_ble_eq_true rfl)) dX3_changeFrom_86 ⟨Nat.le_of_ble_eq_true rfl, Nat.le_of_ble_eq_true rfl⟩) hS (fun q _ h => hFc q h) hFc (fun r0 r_12 t H locs ht hvm hw hB hz1 hk1 hS => ?_)
          refine W.widen (k := 0) (n := 0) (Nat.le_of_ble_eq_true rfl) (Nat.le_of_ble_eq_true rfl) ?_
          clear hvm hz1 hk1
          subst hw
          have hT := hB
          rw [ht] at hT
          refine lv_iadd hx hb dX3_changeFrom_89 ?_
          refine lv_topi (fun x_13 ex_13 => ?_)
          refine va_mmin hx hb (by rw [hml]; exact hl.1.symm) hown (hts (.methodLink RX3 126 Lib.Math.min.name) (List.mem_cons_of_mem _ (List.mem_append_left _ (List.mem_of_getElem? (i := 2) rfl)))) (hts (.static Lib.Math.min.name) (List.mem_cons_of_mem _ (List.mem_append_left _ (List.mem_of_getElem? (i := 3) rfl)))) (hts (.initialized "java/lang/Math") (List.mem_cons_of_mem _ (List.mem_append_left _ (List.mem_of_getElem? (i := 4) rfl)))) (hts (.code Lib.Math.min.name Lib.Math.min.code 2 (some .int)) (List.mem_cons_of_mem _ (List.mem_append_left _ (List.mem_of_getElem? (i := 5) rfl)))) (Nat.le_of_ble_eq_true rfl) (Nat.le_of_ble_eq_true rfl) (Nat.le_of_ble_eq_true rfl) (Nat.le_of_ble_eq_true rfl) dX3_changeFrom_90 ?_
          refine lv_topi (fun x_14 ex_14 => ?_)
          have hx_14 := z_min ex_14 rfl rfl
          refine lv_istore (lv' := [(4, .int x_14), (0, .ref (a 3)), (1, .int p0), (2, .int p1), (3, .int x_3), (5, .int i5)]) hx hb dX3_changeFrom_93 hl (by decide) rfl (fun ls hl => ?_)
          obtain ⟨x_15, ex_15⟩ : ∃ y : Int32, y = i5 + Int32.ofInt 1 := ⟨_, rfl⟩
          have hx_15 := z_add ex_15 rfl (zk (x := Int32.ofInt 1) 1 rfl) (by omega) (by omega)
          refine lv_iinc (v := x_15) (lv' := [(5, .int x_15), (4, .int x_14), (0, .ref (a 3)), (1, .int p0), (2, .int p1), (3, .int x_3)]) hx hb dX3_changeFrom_95 hl (k := 5) rfl ex_15.symm (by decide) rfl (fun ls hl => ?_)
          refine lv_goto (tgt := 39) hx hb dX3_changeFrom_98 (by decide) ?_
          exact ih_39  x_14 x_15 H _ ls (by omega) (by omega) (by omega) hT hS (lv_sub hl [2, 3, 4, 5, 1, 0] rfl)
        · refine lq_top (v := 0) hre ?_
          rw [ht] at hT
          refine lv_if_eq (tgt := 95) hx hb dX3_changeFrom_58 (by decide) (fun c_16 => ?_) (fun c_16 => absurd c_16 (by decide))
          obtain ⟨x_17, ex_17⟩ : ∃ y : Int32, y = i5 + Int32.ofInt 1 := ⟨_, rfl⟩
          have hx_17 := z_add ex_17 rfl (zk (x := Int32.ofInt 1) 1 rfl) (by omega) (by omega)
          refine lv_iinc (v := x_17) (lv' := [(5, .int x_17), (0, .ref (a 3)), (1, .int p0), (2, .int p1), (3, .int x_3), (4, .int w4)]) hx hb dX3_changeFrom_95 hl (k := 5) rfl ex_17.symm (by decide) rfl (fun ls hl => ?_)
          refine lv_goto (tgt := 39) hx hb dX3_changeFrom_98 (by decide) ?_
          exact ih_39  w4 x_17 H _ ls (by omega) (by omega) (by omega) hT hS (lv_sub hl [1, 2, 3, 4, 5, 0] rfl)
  have hp_18 : (0 : Int32).toInt = 0 := (zk (x := 0) 0 rfl)
  exact loop_39 _ r_5 (0 : Int32) H _ ls (Nat.lt_succ_self _) (by omega) (by omega) hT hS (lv_sub hl [3, 4, 5, 2, 1, 0] rfl)
def wo_c_workAll : List Cond := [.fieldLink RX3 43 "TypingPool$Floor" "book" "LTypingPool$Book;", .fieldLink RX3 75 "TypingPool$Book" "handCount" "I", .methodLink RX3 132 yX3_isBusy, .instanceMethod yX3_isBusy, .selects RX3 yX3_isBusy yX3_isBusy, .initialized RX3, .fieldLink RX3 15 "TypingPool$Floor" "has" "[I", .fieldLink RX3 25 "TypingPool$Floor" "worked" "[I", .fieldLink RX3 37 "TypingPool$Floor" "workLeft" "[I", .fieldLink RX3 19 "TypingPool$Floor" "rate" "[I", .fieldLink RX3 9 "TypingPool$Floor" "now" "I", .methodLink RX3 143 yX3_finish, .instanceMethod yX3_finish, .selects RX3 yX3_finish yX3_finish]
def wm_c_workAll : List Cond := .code yX3_workAll cX3_workAll 5 none :: (wo_c_workAll ++ (wsX30 ++ (wsX10 ++ (wm_c_isBusy ++ (wm_c_finish ++ ([] : List Cond))))))
theorem gd_c_workAll : ∀ w ∈ wm_c_workAll, goodWord w = true := gd_c rfl (gd_a (by decide) (gd_a gd_wsX30 (gd_a gd_wsX10 (gd_a gd_c_isBusy (gd_a gd_c_finish gd_nil)))))
set_option maxRecDepth 20000 in
theorem im_c_workAll : ∀ w ∈ wm_c_workAll, w ∈ lw_tbl := im_c (in_r [.code yX3_workAll cX3_workAll 5 none] [850] (by decide +kernel)) (in_app (in_r wo_c_workAll [426, 125, 836, 838, 14, 83, 431, 440, 449, 434, 428, 851, 853, 16] (by decide +kernel)) (in_app im_wsX30 (in_app im_wsX10 (in_app im_c_isBusy (in_app im_c_finish im_nil)))))
set_option maxHeartbeats 4000000 in
set_option maxRecDepth 100000 in
theorem c_workAll (l : Launch) (dC : Nat → ClassId) (dI : Nat → Nat → Nat) (ad av : Nat → Nat) (sz : Nat) (a : Nat → Nat) (k : Nat → ClassId) (τ ln : Nat → Nat) (y : Nat → Nat → Int32) (g : Nat → Nat → Option Nat) (u : Nat → Int) (p0 : Int32) (p1 : Int32) (hI : IC a u τ ln y g) : Met l yX3_workAll wm_c_workAll ({ frames := 2, cells := 0, slots := 0, locals := 120 }) (pw_ ad av (dC, dI) sz [.ref (a 3), .int p0, .int p1] a k τ ln y g) (va_Qv (fun (_ : Unit) => True) (fun (_ : Unit) (t : State) => (∃ (y' : Nat → Nat → Int32), ag τ [30, 31, 32, 33, 36, 37] y y' ∧ tw (dC, dI) a k τ ln y' g t.heap)) (fr τ sz)) 0 0 (fr τ sz) := by
  refine Met.ofW (cc := cX3_workAll) (maxL := 5) (ret := none) (by decide) rfl ?_
  intro p e s m args below meth c s₁ B hml hv
  obtain ⟨rfl, hsz, hT, hK, hM⟩ := hv
  have hx := B.exec
  have hb := B.bytes
  have hr := B.returns
  have hts := atoms_spec (ws := wm_c_workAll) B.pre
  have hown : s.vm.findClass RX3 = some m.cls := findClass_of_methodNamed B.named
  have hlocks := B.notSynchronized
  subst hsz
  generalize hAe : fr τ s.heap.size = A at hM ⊢
  have hA : ∀ q : Nat, s.heap.size ≤ q → A q := fun q h => by rw [← hAe]; exact Or.inr h
  have hF : ∀ q, τ q ≠ 0 → A q := fun q h => by rw [← hAe]; exact Or.inl h
  have hS : va_S A s.heap s.heap [] := va_S.rf
  have hX := hI.1
  have hR := ic_r hI
  have hG : ag τ [30, 31, 32, 33, 36, 37] y y := ag.rf
  have hl := lv_entry ([.ref (a 3), .int p0, .int p1]) (n := 5) (Nat.le_of_ble_eq_true rfl)
  rw [lg_entry_eq]
  generalize (lg_sl ([.ref (a 3), .int p0, .int p1]) ++ List.replicate (5 - (lg_sl ([.ref (a 3), .int p0, .int p1])).length) Slot.unset).toArray = ls at hl ⊢
  have hl : lv_has ls 5 [(0, .ref (a 3)), (1, .int p0), (2, .int p1)] := hl
  refine lv_iconst (v := 0) hx hb dX3_workAll_0 (by decide) ?_
  refine lv_istore_n (lv' := [(3, .int 0), (0, .ref (a 3)), (1, .int p0), (2, .int p1)]) hx hb dX3_workAll_1 rfl hl (by decide) rfl (fun ls hl => ?_)
  have loop_2 : ∀ (n : Nat) (i3 : Int32) (y_L2 : Nat → Nat → Int32) (H : Heap) (locs : List Loc) (ls : Array Slot), (u 1 - i3.toInt).toNat < n → ag τ [30, 31, 32, 33, 36, 37] y y_L2 → IC a u τ ln y_L2 g → 0 ≤ i3.toInt → i3.toInt ≤ u 1 → tw (dC, dI) a k τ ln y_L2 g H → va_S A s.heap H locs → lv_has ls 5 [(0, .ref (a 3)), (1, .int p0), (2, .int p1), (3, .int i3)] → W p l e (headSpec wm_c_workAll ({ frames := 2, cells := 0, slots := 0, locals := 120 })).room s m ([.ref (a 3), .int p0, .int p1] : List Value).toArray below meth c H locs 0 0 (MQ below (va_Qv (fun (_ : Unit) => True) (fun (_ : Unit) (t : State) => (∃ (y' : Nat → Nat → Int32), ag τ [30, 31, 32, 33, 36, 37] y y' ∧ tw (dC, dI) a k τ ln y' g t.heap)) A) ([.ref (a 3), .int p0, .int p1] : List Value).toArray s 0 0 A) (F0 m 2 ls []) := by
    intro n
    induction n with
    | zero => intro i3 y_L2 H locs ls hlt; exact absurd hlt (Nat.not_lt_zero _)
    | succ n ih_2 =>
      intro i3 y_L2 H locs ls hlt hG hI hi2_0 hi2_1 hT hS hl
      refine lv_iload_n hx hb dX3_workAll_2 rfl (lv_at hl 3 rfl) ?_
      refine lv_aload_n hx hb dX3_workAll_3 rfl (lv_at hl 0 rfl) ?_
      refine tw_get (D := (dC, dI)) (v := .ref (a 1)) (C := RX3) (T := TX3) (N := 12) hx hb hts (fun _ hh => (List.mem_cons_of_mem _ (List.mem_append_right _ (List.mem_append_left _ hh)))) hown hK hT (fx_3 hX) (by decide) cl_e13 rfl 0 (by decide) (hts (.fieldLink RX3 43 "TypingPool$Floor" "book" "LTypingPool$Book;") (List.mem_cons_of_mem _ (List.mem_append_left _ (List.mem_of_getElem? (i := 0) rfl)))) (fun _ h9 => h9) rfl dX3_workAll_4 ?_
      refine tw_get (D := (dC, dI)) (v := .int (y_L2 (a 1) 3)) (C := RX1) (T := TX1) (N := 8) hx hb hts (fun _ hh => (List.mem_cons_of_mem _ (List.mem_append_right _ (List.mem_append_right _ (List.mem_append_left _ hh))))) hown hK hT (fx_1 hX) (by decide) cl_e11 rfl 3 (by decide) (hts (.fieldLink RX3 75 "TypingPool$Book" "handCount" "I") (List.mem_cons_of_mem _ (List.mem_append_left _ (List.mem_of_getElem? (i := 1) rfl)))) (fun _ h9 => h9) rfl dX3_workAll_7 ?_
      have hc_1 := ic_1 hI
      refine lv_icmp_ge (tgt := 87) hx hb dX3_workAll_10 (by decide) (fun c_2 => ?_) (fun c_2 => ?_)
      · have nc_2 := z_le hc_1 rfl c_2
        exact W.vret hx hb hr (fun t ht hW9 => ⟨⟨(), rfl, trivial, ⟨y_L2, hG, tw_at ht hT⟩⟩, hS.F ht⟩) hS.2.2 dX3_workAll_87
      · have nc_2 := z_nle hc_1 rfl c_2
        refine lv_aload_n hx hb dX3_workAll_13 rfl (lv_at hl 0 rfl) ?_
        refine lv_iload_n hx hb dX3_workAll_14 rfl (lv_at hl 3 rfl) ?_
        refine lv_iload_n hx hb dX3_workAll_15 rfl (lv_at hl 1 rfl) ?_
        have hFc := tw_free hF hS hA
        refine va_calli (va_runV (As := [.int i3, .int p0]) (rest := []) ⟨hx, hb, hml, hown, hts⟩ (c_isBusy l dC dI ad av H.size a k τ ln y_L2 g u i3 p0 hI (by omega) (by omega)) (cwV 2 hts (gi_4 (List.mem_cons_of_mem _ (List.mem_append_left _ (List.mem_of_getElem? (i := 2) rfl))) (List.mem_cons_of_mem _ (List.mem_append_left _ (List.mem_of_getElem? (i := 3) rfl))) (List.mem_cons_of_mem _ (List.mem_append_left _ (List.mem_of_getElem? (i := 4) rfl))) (List.mem_cons_of_mem _ (List.mem_append_left _ (List.mem_of_getElem? (i := 5) rfl))) (fun _ hh => (List.mem_cons_of_mem _ (List.mem_append_right _ (List.mem_append_right _ (List.mem_append_right _ (List.mem_append_left _ hh)))))) gd_c_isBusy) rfl rfl rfl (by decide +kernel) ⟨Nat.le_of_ble_eq_true rfl, Nat.le_of_ble_eq_true rfl⟩) ⟨pw_blind, tw_recv hK hT (fx_3 hX) (by decide) cl_e13 rfl, pw_use hT hK hFc hS hM⟩ rfl rfl hl.1 rfl (lv_room (Nat.le_of_ble_eq_true rfl)) dX3_workAll_16 ⟨Nat.le_of_ble_eq_true rfl, Nat.le_of_ble_eq_true rfl⟩) hS (fun q _ h => hFc q h) hFc (fun r0 r_3 t H locs ht hvm hw hB hz1 hk1 hS => ?_)
        refine W.widen (k := 0) (n := 0) (Nat.le_of_ble_eq_true rfl) (Nat.le_of_ble_eq_true rfl) ?_
        clear hvm hz1 hk1
        subst hw
        rcases hB with ⟨hre, hf_4, hf_5, hT⟩ | ⟨hre, hT⟩
        · refine lq_top (v := 1) hre ?_
          rw [ht] at hT
          refine lv_if_eq (tgt := 81) hx hb dX3_workAll_19 (by decide) (fun c_6 => absurd c_6 (by decide)) (fun c_6 => ?_)
          refine lv_aload_n hx hb dX3_workAll_22 rfl (lv_at hl 0 rfl) ?_
          refine tw_get (D := (dC, dI)) (v := .ref (a 20)) (C := RX3) (T := TX3) (N := 12) hx hb hts (fun _ hh => (List.mem_cons_of_mem _ (List.mem_append_right _ (List.mem_append_left _ hh)))) hown hK hT (fx_3 hX) (by decide) cl_e13 rfl 3 (by decide) (hts (.fieldLink RX3 15 "TypingPool$Floor" "has" "[I") (List.mem_cons_of_mem _ (List.mem_append_left _ (List.mem_of_getElem? (i := 6) rfl)))) (fun _ h9 => h9) rfl dX3_workAll_23 ?_
          refine lv_iload_n hx hb dX3_workAll_26 rfl (lv_at hl 3 rfl) ?_
          refine tw_iald hx hb hK hT 0 (fx_20 hX) (by decide) cl_e30 rfl (z_in rfl (by omega) (by omega)) dX3_workAll_27 ?_
          refine lv_istore (lv' := [(4, .int (y_L2 (a 20) i3.toNatClampNeg)), (0, .ref (a 3)), (1, .int p0), (2, .int p1), (3, .int i3)]) hx hb dX3_workAll_28 hl (by decide) rfl (fun ls hl => ?_)
          refine lv_aload_n hx hb dX3_workAll_30 rfl (lv_at hl 1 rfl) ?_
          refine tw_get (D := (dC, dI)) (v := .ref (a 23)) (C := RX3) (T := TX3) (N := 12) hx hb hts (fun _ hh => (List.mem_cons_of_mem _ (List.mem_append_right _ (List.mem_append_left _ hh)))) hown hK hT (fx_3 hX) (by decide) cl_e13 rfl 6 (by decide) (hts (.fieldLink RX3 25 "TypingPool$Floor" "worked" "[I") (List.mem_cons_of_mem _ (List.mem_append_left _ (List.mem_of_getElem? (i := 7) rfl)))) (fun _ h9 => h9) rfl dX3_workAll_31 ?_
          refine lv_iload_n hx hb dX3_workAll_34 rfl (lv_at hl 4 rfl) ?_
          refine lv_dup2_11 hx hb dX3_workAll_35 rfl rfl ?_
          refine tw_iald hx hb hK hT 0 (fx_23 hX) (by decide) cl_e33 rfl (z_in rfl (by omega) (by omega)) dX3_workAll_36 ?_
          refine lv_iload_n hx hb dX3_workAll_37 rfl (lv_at hl 3 rfl) ?_
          refine lv_iadd hx hb dX3_workAll_38 ?_
          refine lv_topi (fun x_7 ex_7 => ?_)
          refine tw_iast hx hb hK hT hF hS 0 (fx_23 hX) (by decide) (fun _ => cl_e33) rfl (z_in rfl (by omega) (by omega)) dX3_workAll_39 (fun H locs hT hS => ?_)
          obtain ⟨y_8, hy_8, hT⟩ : ∃ z : Nat → Nat → Int32, z = up2 y_L2 (a 23) i3.toNatClampNeg x_7 ∧ tw (dC, dI) a k τ ln z g H := ⟨_, rfl, hT⟩
          have hG : ag τ [30, 31, 32, 33, 36, 37] y y_8 := by rw [hy_8]; exact hG.up (fx_23 hX) (by decide)
          have hI := hI.ag (S := [33]) (y' := y_8) (by rw [hy_8]; exact ag.one (fx_23 hX)) (by decide)
          refine lv_aload_n hx hb dX3_workAll_40 rfl (lv_at hl 1 rfl) ?_
          refine tw_get (D := (dC, dI)) (v := .ref (a 27)) (C := RX3) (T := TX3) (N := 12) hx hb hts (fun _ hh => (List.mem_cons_of_mem _ (List.mem_append_right _ (List.mem_append_left _ hh)))) hown hK hT (fx_3 hX) (by decide) cl_e13 rfl 10 (by decide) (hts (.fieldLink RX3 37 "TypingPool$Floor" "workLeft" "[I") (List.mem_cons_of_mem _ (List.mem_append_left _ (List.mem_of_getElem? (i := 8) rfl)))) (fun _ h9 => h9) rfl dX3_workAll_41 ?_
          refine lv_iload hx hb dX3_workAll_44 (lv_at hl 0 rfl) ?_
          refine lv_dup2_11 hx hb dX3_workAll_46 rfl rfl ?_
          refine tw_iald hx hb hK hT 0 (fx_27 hX) (by decide) cl_e37 rfl (z_in rfl (by omega) (by omega)) dX3_workAll_47 ?_
          refine lv_aload_n hx hb dX3_workAll_48 rfl (lv_at hl 1 rfl) ?_
          refine tw_get (D := (dC, dI)) (v := .ref (a 21)) (C := RX3) (T := TX3) (N := 12) hx hb hts (fun _ hh => (List.mem_cons_of_mem _ (List.mem_append_right _ (List.mem_append_left _ hh)))) hown hK hT (fx_3 hX) (by decide) cl_e13 rfl 4 (by decide) (hts (.fieldLink RX3 19 "TypingPool$Floor" "rate" "[I") (List.mem_cons_of_mem _ (List.mem_append_left _ (List.mem_of_getElem? (i := 9) rfl)))) (fun _ h9 => h9) rfl dX3_workAll_49 ?_
          refine lv_iload_n hx hb dX3_workAll_52 rfl (lv_at hl 4 rfl) ?_
          refine tw_iald hx hb hK hT 0 (fx_21 hX) (by decide) cl_e31 rfl (z_in rfl (by omega) (by omega)) dX3_workAll_53 ?_
          refine lv_iload_n hx hb dX3_workAll_54 rfl (lv_at hl 3 rfl) ?_
          refine lv_imul hx hb dX3_workAll_55 ?_
          refine lv_topi (fun x_9 ex_9 => ?_)
          refine lv_isub hx hb dX3_workAll_56 ?_
          refine lv_topi (fun x_10 ex_10 => ?_)
          refine tw_iast hx hb hK hT hF hS 0 (fx_27 hX) (by decide) (fun _ => cl_e37) rfl (z_in rfl (by omega) (by omega)) dX3_workAll_57 (fun H locs hT hS => ?_)
          obtain ⟨y_11, hy_11, hT⟩ : ∃ z : Nat → Nat → Int32, z = up2 y_8 (a 27) ((y_L2 (a 20) i3.toNatClampNeg).toNatClampNeg) x_10 ∧ tw (dC, dI) a k τ ln z g H := ⟨_, rfl, hT⟩
          have hG : ag τ [30, 31, 32, 33, 36, 37] y y_11 := by rw [hy_11]; exact hG.up (fx_27 hX) (by decide)
          have hI := hI.ag (S := [37]) (y' := y_11) (by rw [hy_11]; exact ag.one (fx_27 hX)) (by decide)
          refine lv_aload_n hx hb dX3_workAll_58 rfl (lv_at hl 1 rfl) ?_
          refine tw_get (D := (dC, dI)) (v := .ref (a 27)) (C := RX3) (T := TX3) (N := 12) hx hb hts (fun _ hh => (List.mem_cons_of_mem _ (List.mem_append_right _ (List.mem_append_left _ hh)))) hown hK hT (fx_3 hX) (by decide) cl_e13 rfl 10 (by decide) (hts (.fieldLink RX3 37 "TypingPool$Floor" "workLeft" "[I") (List.mem_cons_of_mem _ (List.mem_append_left _ (List.mem_of_getElem? (i := 8) rfl)))) (fun _ h9 => h9) rfl dX3_workAll_59 ?_
          refine lv_iload hx hb dX3_workAll_62 (lv_at hl 0 rfl) ?_
          refine tw_iald hx hb hK hT 0 (fx_27 hX) (by decide) cl_e37 rfl (z_in rfl (by omega) (by omega)) dX3_workAll_64 ?_
          refine lv_if_gt (tgt := 81) hx hb dX3_workAll_65 (by decide) (fun c_12 => ?_) (fun c_12 => ?_)
          · have nc_12 := z_lt (zk (x := 0) 0 rfl) rfl c_12
            obtain ⟨x_13, ex_13⟩ : ∃ y : Int32, y = i3 + Int32.ofInt 1 := ⟨_, rfl⟩
            have hx_13 := z_add ex_13 rfl (zk (x := Int32.ofInt 1) 1 rfl) (by omega) (by omega)
            refine lv_iinc (v := x_13) (lv' := [(3, .int x_13), (4, .int (y_L2 (a 20) i3.toNatClampNeg)), (0, .ref (a 3)), (1, .int p0), (2, .int p1)]) hx hb dX3_workAll_81 hl (k := 4) rfl ex_13.symm (by decide) rfl (fun ls hl => ?_)
            refine lv_goto (tgt := 2) hx hb dX3_workAll_84 (by decide) ?_
            exact ih_2  x_13 y_11 H _ ls (by omega) hG hI (by omega) (by omega) hT hS (lv_sub hl [2, 3, 4, 0] rfl)
          · have nc_12 := z_nlt (zk (x := 0) 0 rfl) rfl c_12
            refine lv_aload_n hx hb dX3_workAll_68 rfl (lv_at hl 1 rfl) ?_
            refine lv_iload_n hx hb dX3_workAll_69 rfl (lv_at hl 4 rfl) ?_
            refine lv_iload hx hb dX3_workAll_70 (lv_at hl 0 rfl) ?_
            refine lv_aload_n hx hb dX3_workAll_72 rfl (lv_at hl 1 rfl) ?_
            refine tw_get (D := (dC, dI)) (v := .int (y_11 (a 3) 2)) (C := RX3) (T := TX3) (N := 12) hx hb hts (fun _ hh => (List.mem_cons_of_mem _ (List.mem_append_right _ (List.mem_append_left _ hh)))) hown hK hT (fx_3 hX) (by decide) cl_e13 rfl 2 (by decide) (hts (.fieldLink RX3 9 "TypingPool$Floor" "now" "I") (List.mem_cons_of_mem _ (List.mem_append_left _ (List.mem_of_getElem? (i := 10) rfl)))) (fun _ h9 => h9) rfl dX3_workAll_73 ?_
            refine lv_iload_n hx hb dX3_workAll_76 rfl (lv_at hl 3 rfl) ?_
            refine lv_iadd hx hb dX3_workAll_77 ?_
            refine lv_topi (fun x_14 ex_14 => ?_)
            have hFc := tw_free hF hS hA
            refine va_callv (va_runV (As := [.int i3, .int (y_L2 (a 20) i3.toNatClampNeg), .int x_14]) (rest := []) ⟨hx, hb, hml, hown, hts⟩ (c_finish l dC dI ad av H.size a k τ ln y_11 g u i3 (y_L2 (a 20) i3.toNatClampNeg) x_14 hI (by omega) (by omega) (by omega) (by omega)) (cwV 3 hts (gi_4 (List.mem_cons_of_mem _ (List.mem_append_left _ (List.mem_of_getElem? (i := 11) rfl))) (List.mem_cons_of_mem _ (List.mem_append_left _ (List.mem_of_getElem? (i := 12) rfl))) (List.mem_cons_of_mem _ (List.mem_append_left _ (List.mem_of_getElem? (i := 13) rfl))) (List.mem_cons_of_mem _ (List.mem_append_left _ (List.mem_of_getElem? (i := 5) rfl))) (fun _ hh => (List.mem_cons_of_mem _ (List.mem_append_right _ (List.mem_append_right _ (List.mem_append_right _ (List.mem_append_right _ (List.mem_append_left _ hh))))))) gd_c_finish) rfl rfl rfl (by decide +kernel) ⟨Nat.le_of_ble_eq_true rfl, Nat.le_of_ble_eq_true rfl⟩) ⟨pw_blind, tw_recv hK hT (fx_3 hX) (by decide) cl_e13 rfl, pw_use hT hK hFc hS hM⟩ rfl rfl hl.1 rfl (lv_room (Nat.le_of_ble_eq_true rfl)) dX3_workAll_78 ⟨Nat.le_of_ble_eq_true rfl, Nat.le_of_ble_eq_true rfl⟩) hS (fun q _ h => hFc q h) hFc (fun u0 t H locs ht hvm hw hB hz1 hk1 hS => ?_)
            refine W.widen (k := 0) (n := 0) (Nat.le_of_ble_eq_true rfl) (Nat.le_of_ble_eq_true rfl) ?_
            clear hvm hz1 hk1
            obtain ⟨y_16, hgy_16, hT⟩ := hB
            rw [ht] at hT
            have hG := hG.tr hgy_16 (by decide)
            have hI := hI.ag hgy_16 (by decide)
            obtain ⟨x_17, ex_17⟩ : ∃ y : Int32, y = i3 + Int32.ofInt 1 := ⟨_, rfl⟩
            have hx_17 := z_add ex_17 rfl (zk (x := Int32.ofInt 1) 1 rfl) (by omega) (by omega)
            refine lv_iinc (v := x_17) (lv' := [(3, .int x_17), (4, .int (y_L2 (a 20) i3.toNatClampNeg)), (0, .ref (a 3)), (1, .int p0), (2, .int p1)]) hx hb dX3_workAll_81 hl (k := 4) rfl ex_17.symm (by decide) rfl (fun ls hl => ?_)
            refine lv_goto (tgt := 2) hx hb dX3_workAll_84 (by decide) ?_
            exact ih_2  x_17 y_16 H _ ls (by omega) hG hI (by omega) (by omega) hT hS (lv_sub hl [2, 3, 4, 0] rfl)
        · refine lq_top (v := 0) hre ?_
          rw [ht] at hT
          refine lv_if_eq (tgt := 81) hx hb dX3_workAll_19 (by decide) (fun c_18 => ?_) (fun c_18 => absurd c_18 (by decide))
          obtain ⟨x_19, ex_19⟩ : ∃ y : Int32, y = i3 + Int32.ofInt 1 := ⟨_, rfl⟩
          have hx_19 := z_add ex_19 rfl (zk (x := Int32.ofInt 1) 1 rfl) (by omega) (by omega)
          refine lv_iinc (v := x_19) (lv' := [(3, .int x_19), (0, .ref (a 3)), (1, .int p0), (2, .int p1)]) hx hb dX3_workAll_81 hl (k := 3) rfl ex_19.symm (by decide) rfl (fun ls hl => ?_)
          refine lv_goto (tgt := 2) hx hb dX3_workAll_84 (by decide) ?_
          exact ih_2  x_19 y_L2 H _ ls (by omega) hG hI (by omega) (by omega) hT hS (lv_sub hl [1, 2, 3, 0] rfl)
  have hp_20 : (0 : Int32).toInt = 0 := (zk (x := 0) 0 rfl)
  exact loop_2 _ (0 : Int32) y s.heap _ ls (Nat.lt_succ_self _) hG hI (by omega) (by omega) hT hS (lv_sub hl [1, 2, 3, 0] rfl)
def wo_c_mayDoN : List Cond := [.fieldLink RX3 43 "TypingPool$Floor" "book" "LTypingPool$Book;", .fieldLink RX3 112 "TypingPool$Book" "hands" "[LTypingPool$Hand;", .fieldLink RX3 103 "TypingPool$Book" "pieces" "[LTypingPool$Piece;", .fieldLink RX3 149 "TypingPool$Hand" "styles" "I", .fieldLink RX3 152 "TypingPool$Piece" "style" "I", .fieldLink RX3 47 "TypingPool$Floor" "rules" "LTypingPool$Rules;", .fieldLink RX3 155 "TypingPool$Rules" "letters" "[I", .fieldLink RX3 160 "TypingPool$Piece" "secret" "I", .fieldLink RX3 163 "TypingPool$Hand" "leave" "I", .fieldLink RX3 166 "TypingPool$Piece" "department" "I", .methodLink RX3 169 yX3_today, .instanceMethod yX3_today, .selects RX3 yX3_today yX3_today, .initialized RX3, .methodLink RX3 173 yX10_holding, .instanceMethod yX10_holding, .selects RX10 yX10_holding yX10_holding, .initialized RX10, .methodLink RX3 177 yX10_give, .instanceMethod yX10_give, .selects RX10 yX10_give yX10_give]
def wm_c_mayDoN : List Cond := .code yX3_mayDo cX3_mayDo 7 (some .boolean) :: (wo_c_mayDoN ++ (wsX30 ++ (wsX10 ++ (wsX40 ++ (wsX60 ++ (wsX100 ++ (wm_c_today ++ (wm_c_holdingN ++ (wm_c_give ++ ([] : List Cond))))))))))
theorem gd_c_mayDoN : ∀ w ∈ wm_c_mayDoN, goodWord w = true := gd_c rfl (gd_a (by decide) (gd_a gd_wsX30 (gd_a gd_wsX10 (gd_a gd_wsX40 (gd_a gd_wsX60 (gd_a gd_wsX100 (gd_a gd_c_today (gd_a gd_c_holdingN (gd_a gd_c_give gd_nil)))))))))
set_option maxRecDepth 20000 in
theorem im_c_mayDoN : ∀ w ∈ wm_c_mayDoN, w ∈ lw_tbl := im_c (in_r [.code yX3_mayDo cX3_mayDo 7 (some .boolean)] [774] (by decide +kernel)) (in_app (in_r wo_c_mayDoN [426, 122, 130, 611, 669, 427, 403, 676, 613, 667, 775, 776, 777, 83, 779, 780, 781, 72, 783, 784, 785] (by decide +kernel)) (in_app im_wsX30 (in_app im_wsX10 (in_app im_wsX40 (in_app im_wsX60 (in_app im_wsX100 (in_app im_c_today (in_app im_c_holdingN (in_app im_c_give im_nil)))))))))
set_option maxHeartbeats 4000000 in
set_option maxRecDepth 100000 in
theorem c_mayDoN (l : Launch) (dC : Nat → ClassId) (dI : Nat → Nat → Nat) (ad av : Nat → Nat) (sz : Nat) (a : Nat → Nat) (k : Nat → ClassId) (τ ln : Nat → Nat) (y : Nat → Nat → Int32) (g : Nat → Nat → Option Nat) (u : Nat → Int) (p0 : Int32) (p1 : Int32) (hI : IC a u τ ln y g) (hlp0 : 0 ≤ p0.toInt) (hup0 : p0.toInt < u 1) (hlp1 : 0 ≤ p1.toInt) (hup1 : p1.toInt < u 2) : Met l yX3_mayDo wm_c_mayDoN ({ frames := 3, cells := 0, slots := 0, locals := 180 }) (pw_ ad av (dC, dI) sz [.ref (a 3), .int p0, .int p1, .null] a k τ ln y g) (va_Qi (fun (r u : Int32) => u = r) (fun (r : Int32) (t : State) => (∃ (y' : Nat → Nat → Int32), r = 1 ∧ ag τ [24, 27] y y' ∧ tw (dC, dI) a k τ ln y' g t.heap) ∨ (∃ (y' : Nat → Nat → Int32), r = 0 ∧ ag τ [24, 27] y y' ∧ tw (dC, dI) a k τ ln y' g t.heap)) (fr τ sz)) 0 0 (fr τ sz) := by
  refine Met.ofW (cc := cX3_mayDo) (maxL := 7) (ret := (some .boolean)) (by decide) rfl ?_
  intro p e s m args below meth c s₁ B hml hv
  obtain ⟨rfl, hsz, hT, hK, hM⟩ := hv
  have hx := B.exec
  have hb := B.bytes
  have hr := B.returns
  have hts := atoms_spec (ws := wm_c_mayDoN) B.pre
  have hown : s.vm.findClass RX3 = some m.cls := findClass_of_methodNamed B.named
  have hlocks := B.notSynchronized
  subst hsz
  generalize hAe : fr τ s.heap.size = A at hM ⊢
  have hA : ∀ q : Nat, s.heap.size ≤ q → A q := fun q h => by rw [← hAe]; exact Or.inr h
  have hF : ∀ q, τ q ≠ 0 → A q := fun q h => by rw [← hAe]; exact Or.inl h
  have hS : va_S A s.heap s.heap [] := va_S.rf
  have hX := hI.1
  have hR := ic_r hI
  have hG : ag τ [24, 27] y y := ag.rf
  have hl := lv_entry ([.ref (a 3), .int p0, .int p1, .null]) (n := 7) (Nat.le_of_ble_eq_true rfl)
  rw [lg_entry_eq]
  generalize (lg_sl ([.ref (a 3), .int p0, .int p1, .null]) ++ List.replicate (7 - (lg_sl ([.ref (a 3), .int p0, .int p1, .null])).length) Slot.unset).toArray = ls at hl ⊢
  have hl : lv_has ls 7 [(0, .ref (a 3)), (1, .int p0), (2, .int p1), (3, .null)] := hl
  refine lv_aload_n hx hb dX3_mayDo_0 rfl (lv_at hl 0 rfl) ?_
  refine tw_get (D := (dC, dI)) (v := .ref (a 1)) (C := RX3) (T := TX3) (N := 12) hx hb hts (fun _ hh => (List.mem_cons_of_mem _ (List.mem_append_right _ (List.mem_append_left _ hh)))) hown hK hT (fx_3 hX) (by decide) cl_e13 rfl 0 (by decide) (hts (.fieldLink RX3 43 "TypingPool$Floor" "book" "LTypingPool$Book;") (List.mem_cons_of_mem _ (List.mem_append_left _ (List.mem_of_getElem? (i := 0) rfl)))) (fun _ h9 => h9) rfl dX3_mayDo_1 ?_
  refine tw_get (D := (dC, dI)) (v := .ref (a 10)) (C := RX1) (T := TX1) (N := 8) hx hb hts (fun _ hh => (List.mem_cons_of_mem _ (List.mem_append_right _ (List.mem_append_right _ (List.mem_append_left _ hh))))) hown hK hT (fx_1 hX) (by decide) cl_e11 rfl 2 (by decide) (hts (.fieldLink RX3 112 "TypingPool$Book" "hands" "[LTypingPool$Hand;") (List.mem_cons_of_mem _ (List.mem_append_left _ (List.mem_of_getElem? (i := 1) rfl)))) (fun _ h9 => h9) rfl dX3_mayDo_4 ?_
  refine lv_iload_n hx hb dX3_mayDo_7 rfl (lv_at hl 1 rfl) ?_
  refine tw_aald hx hb hK hT 3 (fx_10 hX) (by decide) cl_e20 rfl (z_in rfl (by omega) (by omega)) dX3_mayDo_8 ?_
  obtain ⟨q_1, hgq_1, htq_1⟩ := ic_l10 hI (x := p0) rfl (by omega) (by omega)
  refine lq_topr hgq_1 ?_
  refine lv_astore (lv' := [(4, .ref q_1), (0, .ref (a 3)), (1, .int p0), (2, .int p1), (3, .null)]) hx hb dX3_mayDo_9 hl (by decide) rfl (fun ls hl => ?_)
  refine lv_aload_n hx hb dX3_mayDo_11 rfl (lv_at hl 1 rfl) ?_
  refine tw_get (D := (dC, dI)) (v := .ref (a 1)) (C := RX3) (T := TX3) (N := 12) hx hb hts (fun _ hh => (List.mem_cons_of_mem _ (List.mem_append_right _ (List.mem_append_left _ hh)))) hown hK hT (fx_3 hX) (by decide) cl_e13 rfl 0 (by decide) (hts (.fieldLink RX3 43 "TypingPool$Floor" "book" "LTypingPool$Book;") (List.mem_cons_of_mem _ (List.mem_append_left _ (List.mem_of_getElem? (i := 0) rfl)))) (fun _ h9 => h9) rfl dX3_mayDo_12 ?_
  refine tw_get (D := (dC, dI)) (v := .ref (a 11)) (C := RX1) (T := TX1) (N := 8) hx hb hts (fun _ hh => (List.mem_cons_of_mem _ (List.mem_append_right _ (List.mem_append_right _ (List.mem_append_left _ hh))))) hown hK hT (fx_1 hX) (by decide) cl_e11 rfl 4 (by decide) (hts (.fieldLink RX3 103 "TypingPool$Book" "pieces" "[LTypingPool$Piece;") (List.mem_cons_of_mem _ (List.mem_append_left _ (List.mem_of_getElem? (i := 2) rfl)))) (fun _ h9 => h9) rfl dX3_mayDo_15 ?_
  refine lv_iload_n hx hb dX3_mayDo_18 rfl (lv_at hl 3 rfl) ?_
  refine tw_aald hx hb hK hT 4 (fx_11 hX) (by decide) cl_e21 rfl (z_in rfl (by omega) (by omega)) dX3_mayDo_19 ?_
  obtain ⟨q_2, hgq_2, htq_2⟩ := ic_l11 hI (x := p1) rfl (by omega) (by omega)
  refine lq_topr hgq_2 ?_
  refine lv_astore (lv' := [(5, .ref q_2), (4, .ref q_1), (0, .ref (a 3)), (1, .int p0), (2, .int p1), (3, .null)]) hx hb dX3_mayDo_20 hl (by decide) rfl (fun ls hl => ?_)
  refine lv_aload hx hb dX3_mayDo_22 (lv_at hl 1 rfl) ?_
  refine tw_get (D := (dC, dI)) (v := .int (y q_1 1)) (C := RX4) (T := TX4) (N := 3) hx hb hts (fun _ hh => (List.mem_cons_of_mem _ (List.mem_append_right _ (List.mem_append_right _ (List.mem_append_right _ (List.mem_append_left _ hh)))))) hown hK hT htq_1 (by decide) cl_e1 rfl 1 (by decide) (hts (.fieldLink RX3 149 "TypingPool$Hand" "styles" "I") (List.mem_cons_of_mem _ (List.mem_append_left _ (List.mem_of_getElem? (i := 3) rfl)))) (fun _ h9 => h9) rfl dX3_mayDo_24 ?_
  refine lv_aload hx hb dX3_mayDo_27 (lv_at hl 0 rfl) ?_
  refine tw_get (D := (dC, dI)) (v := .int (y q_2 1)) (C := RX6) (T := TX6) (N := 11) hx hb hts (fun _ hh => (List.mem_cons_of_mem _ (List.mem_append_right _ (List.mem_append_right _ (List.mem_append_right _ (List.mem_append_right _ (List.mem_append_left _ hh))))))) hown hK hT htq_2 (by decide) cl_e2 rfl 1 (by decide) (hts (.fieldLink RX3 152 "TypingPool$Piece" "style" "I") (List.mem_cons_of_mem _ (List.mem_append_left _ (List.mem_of_getElem? (i := 4) rfl)))) (fun _ h9 => h9) rfl dX3_mayDo_29 ?_
  refine lv_ishr hx hb dX3_mayDo_32 ?_
  refine lv_topi (fun x_3 ex_3 => ?_)
  refine lv_iconst (v := 1) hx hb dX3_mayDo_33 (by decide) ?_
  refine lv_iand hx hb dX3_mayDo_34 ?_
  refine lv_topi (fun x_4 ex_4 => ?_)
  have hx_4 := z_and (x := x_3) (zk (x := 1) 1 rfl) (by omega)
  rw [← ex_4] at hx_4
  refine lv_if_ne (tgt := 40) hx hb dX3_mayDo_35 (by decide) (fun c_5 => ?_) (fun c_5 => ?_)
  · have nc_5 := z_ne rfl (zk (x := 0) 0 rfl) c_5
    refine lv_aload_n hx hb dX3_mayDo_40 rfl (lv_at hl 2 rfl) ?_
    refine tw_get (D := (dC, dI)) (v := .ref (a 2)) (C := RX3) (T := TX3) (N := 12) hx hb hts (fun _ hh => (List.mem_cons_of_mem _ (List.mem_append_right _ (List.mem_append_left _ hh)))) hown hK hT (fx_3 hX) (by decide) cl_e13 rfl 1 (by decide) (hts (.fieldLink RX3 47 "TypingPool$Floor" "rules" "LTypingPool$Rules;") (List.mem_cons_of_mem _ (List.mem_append_left _ (List.mem_of_getElem? (i := 5) rfl)))) (fun _ h9 => h9) rfl dX3_mayDo_41 ?_
    refine tw_get (D := (dC, dI)) (v := .ref (a 14)) (C := RX10) (T := TX10) (N := 6) hx hb hts (fun _ hh => (List.mem_cons_of_mem _ (List.mem_append_right _ (List.mem_append_right _ (List.mem_append_right _ (List.mem_append_right _ (List.mem_append_right _ (List.mem_append_left _ hh)))))))) hown hK hT (fx_2 hX) (by decide) cl_e12 rfl 2 (by decide) (hts (.fieldLink RX3 155 "TypingPool$Rules" "letters" "[I") (List.mem_cons_of_mem _ (List.mem_append_left _ (List.mem_of_getElem? (i := 6) rfl)))) (fun _ h9 => h9) rfl dX3_mayDo_44 ?_
    refine lv_astore (lv' := [(6, .ref (a 14)), (5, .ref q_2), (4, .ref q_1), (0, .ref (a 3)), (1, .int p0), (2, .int p1), (3, .null)]) hx hb dX3_mayDo_47 hl (by decide) rfl (fun ls hl => ?_)
    refine lv_aload hx hb dX3_mayDo_49 (lv_at hl 0 rfl) ?_
    refine lv_iconst (v := 0) hx hb dX3_mayDo_51 (by decide) ?_
    refine lv_aload hx hb dX3_mayDo_52 (lv_at hl 1 rfl) ?_
    refine tw_get (D := (dC, dI)) (v := .int (y q_2 3)) (C := RX6) (T := TX6) (N := 11) hx hb hts (fun _ hh => (List.mem_cons_of_mem _ (List.mem_append_right _ (List.mem_append_right _ (List.mem_append_right _ (List.mem_append_right _ (List.mem_append_left _ hh))))))) hown hK hT htq_2 (by decide) cl_e2 rfl 3 (by decide) (hts (.fieldLink RX3 160 "TypingPool$Piece" "secret" "I") (List.mem_cons_of_mem _ (List.mem_append_left _ (List.mem_of_getElem? (i := 7) rfl)))) (fun _ h9 => h9) rfl dX3_mayDo_54 ?_
    refine tw_iast hx hb hK hT hF hS 0 (fx_14 hX) (by decide) (fun _ => cl_e24) rfl (z_in (zk (x := 0) 0 rfl) (by omega) (by omega)) dX3_mayDo_57 (fun H locs hT hS => ?_)
    obtain ⟨y_6, hy_6, hT⟩ : ∃ z : Nat → Nat → Int32, z = up2 y (a 14) ((0 : Int32).toNatClampNeg) (y q_2 3) ∧ tw (dC, dI) a k τ ln z g H := ⟨_, rfl, hT⟩
    have hG : ag τ [24, 27] y y_6 := by rw [hy_6]; exact hG.up (fx_14 hX) (by decide)
    have hI := hI.ag (S := [24]) (y' := y_6) (by rw [hy_6]; exact ag.one (fx_14 hX)) (by decide)
    refine lv_aload hx hb dX3_mayDo_58 (lv_at hl 0 rfl) ?_
    refine lv_iconst (v := 1) hx hb dX3_mayDo_60 (by decide) ?_
    refine lv_aload hx hb dX3_mayDo_61 (lv_at hl 2 rfl) ?_
    refine tw_get (D := (dC, dI)) (v := .int (y_6 q_1 2)) (C := RX4) (T := TX4) (N := 3) hx hb hts (fun _ hh => (List.mem_cons_of_mem _ (List.mem_append_right _ (List.mem_append_right _ (List.mem_append_right _ (List.mem_append_left _ hh)))))) hown hK hT htq_1 (by decide) cl_e1 rfl 2 (by decide) (hts (.fieldLink RX3 163 "TypingPool$Hand" "leave" "I") (List.mem_cons_of_mem _ (List.mem_append_left _ (List.mem_of_getElem? (i := 8) rfl)))) (fun _ h9 => h9) rfl dX3_mayDo_63 ?_
    refine tw_iast hx hb hK hT hF hS 0 (fx_14 hX) (by decide) (fun _ => cl_e24) rfl (z_in (zk (x := 1) 1 rfl) (by omega) (by omega)) dX3_mayDo_66 (fun H locs hT hS => ?_)
    obtain ⟨y_7, hy_7, hT⟩ : ∃ z : Nat → Nat → Int32, z = up2 y_6 (a 14) ((1 : Int32).toNatClampNeg) (y_6 q_1 2) ∧ tw (dC, dI) a k τ ln z g H := ⟨_, rfl, hT⟩
    have hG : ag τ [24, 27] y y_7 := by rw [hy_7]; exact hG.up (fx_14 hX) (by decide)
    have hI := hI.ag (S := [24]) (y' := y_7) (by rw [hy_7]; exact ag.one (fx_14 hX)) (by decide)
    refine lv_aload hx hb dX3_mayDo_67 (lv_at hl 0 rfl) ?_
    refine lv_iconst (v := 2) hx hb dX3_mayDo_69 (by decide) ?_
    refine lv_aload hx hb dX3_mayDo_70 (lv_at hl 1 rfl) ?_
    refine tw_get (D := (dC, dI)) (v := .int (y_7 q_2 0)) (C := RX6) (T := TX6) (N := 11) hx hb hts (fun _ hh => (List.mem_cons_of_mem _ (List.mem_append_right _ (List.mem_append_right _ (List.mem_append_right _ (List.mem_append_right _ (List.mem_append_left _ hh))))))) hown hK hT htq_2 (by decide) cl_e2 rfl 0 (by decide) (hts (.fieldLink RX3 166 "TypingPool$Piece" "department" "I") (List.mem_cons_of_mem _ (List.mem_append_left _ (List.mem_of_getElem? (i := 9) rfl)))) (fun _ h9 => h9) rfl dX3_mayDo_72 ?_
    refine tw_iast hx hb hK hT hF hS 0 (fx_14 hX) (by decide) (fun _ => cl_e24) rfl (z_in (zk (x := 2) 2 rfl) (by omega) (by omega)) dX3_mayDo_75 (fun H locs hT hS => ?_)
    obtain ⟨y_8, hy_8, hT⟩ : ∃ z : Nat → Nat → Int32, z = up2 y_7 (a 14) ((2 : Int32).toNatClampNeg) (y_7 q_2 0) ∧ tw (dC, dI) a k τ ln z g H := ⟨_, rfl, hT⟩
    have hG : ag τ [24, 27] y y_8 := by rw [hy_8]; exact hG.up (fx_14 hX) (by decide)
    have hI := hI.ag (S := [24]) (y' := y_8) (by rw [hy_8]; exact ag.one (fx_14 hX)) (by decide)
    refine lv_aload hx hb dX3_mayDo_76 (lv_at hl 0 rfl) ?_
    refine lv_iconst (v := 3) hx hb dX3_mayDo_78 (by decide) ?_
    refine lv_iload_n hx hb dX3_mayDo_79 rfl (lv_at hl 4 rfl) ?_
    refine tw_iast hx hb hK hT hF hS 0 (fx_14 hX) (by decide) (fun _ => cl_e24) rfl (z_in (zk (x := 3) 3 rfl) (by omega) (by omega)) dX3_mayDo_80 (fun H locs hT hS => ?_)
    obtain ⟨y_9, hy_9, hT⟩ : ∃ z : Nat → Nat → Int32, z = up2 y_8 (a 14) ((3 : Int32).toNatClampNeg) p0 ∧ tw (dC, dI) a k τ ln z g H := ⟨_, rfl, hT⟩
    have hG : ag τ [24, 27] y y_9 := by rw [hy_9]; exact hG.up (fx_14 hX) (by decide)
    have hI := hI.ag (S := [24]) (y' := y_9) (by rw [hy_9]; exact ag.one (fx_14 hX)) (by decide)
    refine lv_aload_n hx hb dX3_mayDo_81 rfl (lv_at hl 3 rfl) ?_
    refine tw_get (D := (dC, dI)) (v := .ref (a 2)) (C := RX3) (T := TX3) (N := 12) hx hb hts (fun _ hh => (List.mem_cons_of_mem _ (List.mem_append_right _ (List.mem_append_left _ hh)))) hown hK hT (fx_3 hX) (by decide) cl_e13 rfl 1 (by decide) (hts (.fieldLink RX3 47 "TypingPool$Floor" "rules" "LTypingPool$Rules;") (List.mem_cons_of_mem _ (List.mem_append_left _ (List.mem_of_getElem? (i := 5) rfl)))) (fun _ h9 => h9) rfl dX3_mayDo_82 ?_
    refine lv_aload_n hx hb dX3_mayDo_85 rfl (lv_at hl 3 rfl) ?_
    refine tw_get (D := (dC, dI)) (v := .ref (a 2)) (C := RX3) (T := TX3) (N := 12) hx hb hts (fun _ hh => (List.mem_cons_of_mem _ (List.mem_append_right _ (List.mem_append_left _ hh)))) hown hK hT (fx_3 hX) (by decide) cl_e13 rfl 1 (by decide) (hts (.fieldLink RX3 47 "TypingPool$Floor" "rules" "LTypingPool$Rules;") (List.mem_cons_of_mem _ (List.mem_append_left _ (List.mem_of_getElem? (i := 5) rfl)))) (fun _ h9 => h9) rfl dX3_mayDo_86 ?_
    refine lv_iconst (v := 1) hx hb dX3_mayDo_89 (by decide) ?_
    refine lv_aload_n hx hb dX3_mayDo_90 rfl (lv_at hl 3 rfl) ?_
    have hFc := tw_free hF hS hA
    refine va_calli (va_runV (As := []) (rest := [.int 1, .ref (a 2), .ref (a 2)]) ⟨hx, hb, hml, hown, hts⟩ (c_today l dC dI ad av H.size a k τ ln y_9 g u  hI ) (cwV 0 hts (gi_4 (List.mem_cons_of_mem _ (List.mem_append_left _ (List.mem_of_getElem? (i := 10) rfl))) (List.mem_cons_of_mem _ (List.mem_append_left _ (List.mem_of_getElem? (i := 11) rfl))) (List.mem_cons_of_mem _ (List.mem_append_left _ (List.mem_of_getElem? (i := 12) rfl))) (List.mem_cons_of_mem _ (List.mem_append_left _ (List.mem_of_getElem? (i := 13) rfl))) (fun _ hh => (List.mem_cons_of_mem _ (List.mem_append_right _ (List.mem_append_right _ (List.mem_append_right _ (List.mem_append_right _ (List.mem_append_right _ (List.mem_append_right _ (List.mem_append_left _ hh))))))))) gd_c_today) rfl rfl rfl (by decide +kernel) ⟨Nat.le_of_ble_eq_true rfl, Nat.le_of_ble_eq_true rfl⟩) ⟨pw_blind, tw_recv hK hT (fx_3 hX) (by decide) cl_e13 rfl, pw_use hT hK hFc hS hM⟩ rfl rfl hl.1 rfl (lv_room (Nat.le_of_ble_eq_true rfl)) dX3_mayDo_91 ⟨Nat.le_of_ble_eq_true rfl, Nat.le_of_ble_eq_true rfl⟩) hS (fun q _ h => hFc q h) hFc (fun r0 r_10 t H locs ht hvm hw hB hz1 hk1 hS => ?_)
    refine W.widen (k := 0) (n := 0) (Nat.le_of_ble_eq_true rfl) (Nat.le_of_ble_eq_true rfl) ?_
    clear hvm hz1 hk1
    subst hw
    have hT := hB
    rw [ht] at hT
    refine lv_aload_nN hx hb dX3_mayDo_94 rfl (lv_at hl 6 rfl) ?_
    have hFc := tw_free hF hS hA
    have hp_11 : (1 : Int32).toInt = 1 := (zk (x := 1) 1 rfl)
    refine va_callr (va_runV (As := [.int 1, .int r_10, .null]) (rest := [.ref (a 2)]) ⟨hx, hb, hml, hown, hts⟩ (c_holdingN l dC dI ad av H.size a k τ ln y_9 g u (1 : Int32) r_10 hI (by decide) (by decide)) (cwV 3 hts (gi_4 (List.mem_cons_of_mem _ (List.mem_append_left _ (List.mem_of_getElem? (i := 14) rfl))) (List.mem_cons_of_mem _ (List.mem_append_left _ (List.mem_of_getElem? (i := 15) rfl))) (List.mem_cons_of_mem _ (List.mem_append_left _ (List.mem_of_getElem? (i := 16) rfl))) (List.mem_cons_of_mem _ (List.mem_append_left _ (List.mem_of_getElem? (i := 17) rfl))) (fun _ hh => (List.mem_cons_of_mem _ (List.mem_append_right _ (List.mem_append_right _ (List.mem_append_right _ (List.mem_append_right _ (List.mem_append_right _ (List.mem_append_right _ (List.mem_append_right _ (List.mem_append_left _ hh)))))))))) gd_c_holdingN) rfl rfl rfl (by decide +kernel) ⟨Nat.le_of_ble_eq_true rfl, Nat.le_of_ble_eq_true rfl⟩) ⟨pw_blind, tw_recv hK hT (fx_2 hX) (by decide) cl_e12 rfl, pw_use hT hK hFc hS hM⟩ rfl rfl hl.1 rfl (lv_room (Nat.le_of_ble_eq_true rfl)) dX3_mayDo_95 ⟨Nat.le_of_ble_eq_true rfl, Nat.le_of_ble_eq_true rfl⟩) hS (fun q _ h => hFc q h) hFc (fun u0 r_12 t H locs ht hvm hw hB hz1 hk1 hS => ?_)
    refine W.widen (k := 0) (n := 0) (Nat.le_of_ble_eq_true rfl) (Nat.le_of_ble_eq_true rfl) ?_
    clear hvm hz1 hk1
    obtain ⟨htr_12, hT⟩ := hB
    rw [ht] at hT
    clear hp_11
    have hFc := tw_free hF hS hA
    refine va_calli (va_runV (As := [.ref r_12]) (rest := []) ⟨hx, hb, hml, hown, hts⟩ (c_give l dC dI ad av H.size a k τ ln y_9 g u r_12 hI htr_12) (cwV 1 hts (gi_4 (List.mem_cons_of_mem _ (List.mem_append_left _ (List.mem_of_getElem? (i := 18) rfl))) (List.mem_cons_of_mem _ (List.mem_append_left _ (List.mem_of_getElem? (i := 19) rfl))) (List.mem_cons_of_mem _ (List.mem_append_left _ (List.mem_of_getElem? (i := 20) rfl))) (List.mem_cons_of_mem _ (List.mem_append_left _ (List.mem_of_getElem? (i := 17) rfl))) (fun _ hh => (List.mem_cons_of_mem _ (List.mem_append_right _ (List.mem_append_right _ (List.mem_append_right _ (List.mem_append_right _ (List.mem_append_right _ (List.mem_append_right _ (List.mem_append_right _ (List.mem_append_right _ (List.mem_append_left _ hh))))))))))) gd_c_give) rfl rfl rfl (by decide +kernel) ⟨Nat.le_of_ble_eq_true rfl, Nat.le_of_ble_eq_true rfl⟩) ⟨pw_blind, tw_recv hK hT (fx_2 hX) (by decide) cl_e12 rfl, pw_use hT hK hFc hS hM⟩ rfl rfl hl.1 rfl (lv_room (Nat.le_of_ble_eq_true rfl)) dX3_mayDo_98 ⟨Nat.le_of_ble_eq_true rfl, Nat.le_of_ble_eq_true rfl⟩) hS (fun q _ h => hFc q h) hFc (fun r0 r_13 t H locs ht hvm hw hB hz1 hk1 hS => ?_)
    refine W.widen (k := 0) (n := 0) (Nat.le_of_ble_eq_true rfl) (Nat.le_of_ble_eq_true rfl) ?_
    clear hvm hz1 hk1
    subst hw
    obtain ⟨y_14, hgy_14, hT⟩ := hB
    rw [ht] at hT
    have hG := hG.tr hgy_14 (by decide)
    have hI := hI.ag hgy_14 (by decide)
    refine lv_if_eq (tgt := 108) hx hb dX3_mayDo_101 (by decide) (fun c_15 => ?_) (fun c_15 => ?_)
    · have nc_15 := z_eq rfl (zk (x := 0) 0 rfl) c_15
      refine lv_iconst (v := 0) hx hb dX3_mayDo_108 (by decide) ?_
      exact W.zret (v := 0) hx hb hr (by decide) (fun t ht hW9 => ⟨⟨0, 0, rfl, rfl, Or.inr (⟨y_14, rfl, hG, tw_at ht hT⟩)⟩, hS.F ht⟩) hS.2.2 dX3_mayDo_109
    · have nc_15 := z_ne rfl (zk (x := 0) 0 rfl) c_15
      refine lv_iconst (v := 1) hx hb dX3_mayDo_104 (by decide) ?_
      refine lv_goto (tgt := 109) hx hb dX3_mayDo_105 (by decide) ?_
      exact W.zret (v := 1) hx hb hr (by decide) (fun t ht hW9 => ⟨⟨1, 1, rfl, rfl, Or.inl ⟨y_14, rfl, hG, tw_at ht hT⟩⟩, hS.F ht⟩) hS.2.2 dX3_mayDo_109
  · have nc_5 := z_eq rfl (zk (x := 0) 0 rfl) c_5
    refine lv_iconst (v := 0) hx hb dX3_mayDo_38 (by decide) ?_
    exact W.zret (v := 0) hx hb hr (by decide) (fun t ht hW9 => ⟨⟨0, 0, rfl, rfl, Or.inr (⟨y, rfl, hG, tw_at ht hT⟩)⟩, hS.F ht⟩) hS.2.2 dX3_mayDo_39
def wo_c_hasteN : List Cond := [.fieldLink RX3 43 "TypingPool$Floor" "book" "LTypingPool$Book;", .fieldLink RX3 103 "TypingPool$Book" "pieces" "[LTypingPool$Piece;", .fieldLink RX3 47 "TypingPool$Floor" "rules" "LTypingPool$Rules;", .fieldLink RX3 155 "TypingPool$Rules" "letters" "[I", .fieldLink RX3 181 "TypingPool$Piece" "claim" "I", .fieldLink RX3 9 "TypingPool$Floor" "now" "I", .fieldLink RX3 184 "TypingPool$Piece" "comes" "I", .fieldLink RX3 187 "TypingPool$Piece" "lines" "I", .fieldLink RX3 190 "TypingPool$Piece" "due" "I", .fieldLink RX3 160 "TypingPool$Piece" "secret" "I", .fieldLink RX3 166 "TypingPool$Piece" "department" "I", .fieldLink RX3 22 "TypingPool$Floor" "words" "[I", .methodLink RX3 107 yX6_unknownTo, .instanceMethod yX6_unknownTo, .selects RX6 yX6_unknownTo yX6_unknownTo, .initialized RX6, .methodLink RX3 193 yX3_waitingIn, .instanceMethod yX3_waitingIn, .selects RX3 yX3_waitingIn yX3_waitingIn, .initialized RX3, .methodLink RX3 169 yX3_today, .instanceMethod yX3_today, .selects RX3 yX3_today yX3_today, .methodLink RX3 173 yX10_holding, .instanceMethod yX10_holding, .selects RX10 yX10_holding yX10_holding, .initialized RX10, .methodLink RX3 177 yX10_give, .instanceMethod yX10_give, .selects RX10 yX10_give yX10_give]
def wm_c_hasteN : List Cond := .code yX3_haste cX3_haste 6 (some .int) :: (wo_c_hasteN ++ (wsX30 ++ (wsX10 ++ (wsX100 ++ (wsX60 ++ (wm_c_unknownTo ++ (wm_c_waitingIn ++ (wm_c_today ++ (wm_c_holdingN ++ (wm_c_give ++ ([] : List Cond)))))))))))
theorem gd_c_hasteN : ∀ w ∈ wm_c_hasteN, goodWord w = true := gd_c rfl (gd_a (by decide) (gd_a gd_wsX30 (gd_a gd_wsX10 (gd_a gd_wsX100 (gd_a gd_wsX60 (gd_a gd_c_unknownTo (gd_a gd_c_waitingIn (gd_a gd_c_today (gd_a gd_c_holdingN (gd_a gd_c_give gd_nil))))))))))
set_option maxRecDepth 20000 in
theorem im_c_hasteN : ∀ w ∈ wm_c_hasteN, w ∈ lw_tbl := im_c (in_r [.code yX3_haste cX3_haste 6 (some .int)] [800] (by decide +kernel)) (in_app (in_r wo_c_hasteN [426, 130, 427, 403, 678, 428, 681, 673, 684, 676, 667, 437, 801, 802, 803, 89, 811, 813, 11, 83, 775, 776, 777, 779, 780, 781, 72, 783, 784, 785] (by decide +kernel)) (in_app im_wsX30 (in_app im_wsX10 (in_app im_wsX100 (in_app im_wsX60 (in_app im_c_unknownTo (in_app im_c_waitingIn (in_app im_c_today (in_app im_c_holdingN (in_app im_c_give im_nil))))))))))
set_option maxHeartbeats 4000000 in
set_option maxRecDepth 100000 in
theorem c_hasteN (l : Launch) (dC : Nat → ClassId) (dI : Nat → Nat → Nat) (ad av : Nat → Nat) (sz : Nat) (a : Nat → Nat) (k : Nat → ClassId) (τ ln : Nat → Nat) (y : Nat → Nat → Int32) (g : Nat → Nat → Option Nat) (u : Nat → Int) (p0 : Int32) (p1 : Int32) (hI : IC a u τ ln y g) (hlp0 : 0 ≤ p0.toInt) (hup0 : p0.toInt < u 1) (hlp1 : 0 ≤ p1.toInt) (hup1 : p1.toInt < u 2) : Met l yX3_haste wm_c_hasteN ({ frames := 3, cells := 0, slots := 0, locals := 180 }) (pw_ ad av (dC, dI) sz [.ref (a 3), .int p0, .int p1, .null] a k τ ln y g) (va_Qi (fun (r u : Int32) => u = r) (fun (r : Int32) (t : State) => (∃ (y' : Nat → Nat → Int32), ag τ [24, 27] y y' ∧ tw (dC, dI) a k τ ln y' g t.heap)) (fr τ sz)) 0 0 (fr τ sz) := by
  refine Met.ofW (cc := cX3_haste) (maxL := 6) (ret := (some .int)) (by decide) rfl ?_
  intro p e s m args below meth c s₁ B hml hv
  obtain ⟨rfl, hsz, hT, hK, hM⟩ := hv
  have hx := B.exec
  have hb := B.bytes
  have hr := B.returns
  have hts := atoms_spec (ws := wm_c_hasteN) B.pre
  have hown : s.vm.findClass RX3 = some m.cls := findClass_of_methodNamed B.named
  have hlocks := B.notSynchronized
  subst hsz
  generalize hAe : fr τ s.heap.size = A at hM ⊢
  have hA : ∀ q : Nat, s.heap.size ≤ q → A q := fun q h => by rw [← hAe]; exact Or.inr h
  have hF : ∀ q, τ q ≠ 0 → A q := fun q h => by rw [← hAe]; exact Or.inl h
  have hS : va_S A s.heap s.heap [] := va_S.rf
  have hX := hI.1
  have hR := ic_r hI
  have hG : ag τ [24, 27] y y := ag.rf
  have hl := lv_entry ([.ref (a 3), .int p0, .int p1, .null]) (n := 6) (Nat.le_of_ble_eq_true rfl)
  rw [lg_entry_eq]
  generalize (lg_sl ([.ref (a 3), .int p0, .int p1, .null]) ++ List.replicate (6 - (lg_sl ([.ref (a 3), .int p0, .int p1, .null])).length) Slot.unset).toArray = ls at hl ⊢
  have hl : lv_has ls 6 [(0, .ref (a 3)), (1, .int p0), (2, .int p1), (3, .null)] := hl
  refine lv_aload_n hx hb dX3_haste_0 rfl (lv_at hl 0 rfl) ?_
  refine tw_get (D := (dC, dI)) (v := .ref (a 1)) (C := RX3) (T := TX3) (N := 12) hx hb hts (fun _ hh => (List.mem_cons_of_mem _ (List.mem_append_right _ (List.mem_append_left _ hh)))) hown hK hT (fx_3 hX) (by decide) cl_e13 rfl 0 (by decide) (hts (.fieldLink RX3 43 "TypingPool$Floor" "book" "LTypingPool$Book;") (List.mem_cons_of_mem _ (List.mem_append_left _ (List.mem_of_getElem? (i := 0) rfl)))) (fun _ h9 => h9) rfl dX3_haste_1 ?_
  refine tw_get (D := (dC, dI)) (v := .ref (a 11)) (C := RX1) (T := TX1) (N := 8) hx hb hts (fun _ hh => (List.mem_cons_of_mem _ (List.mem_append_right _ (List.mem_append_right _ (List.mem_append_left _ hh))))) hown hK hT (fx_1 hX) (by decide) cl_e11 rfl 4 (by decide) (hts (.fieldLink RX3 103 "TypingPool$Book" "pieces" "[LTypingPool$Piece;") (List.mem_cons_of_mem _ (List.mem_append_left _ (List.mem_of_getElem? (i := 1) rfl)))) (fun _ h9 => h9) rfl dX3_haste_4 ?_
  refine lv_iload_n hx hb dX3_haste_7 rfl (lv_at hl 2 rfl) ?_
  refine tw_aald hx hb hK hT 4 (fx_11 hX) (by decide) cl_e21 rfl (z_in rfl (by omega) (by omega)) dX3_haste_8 ?_
  obtain ⟨q_1, hgq_1, htq_1⟩ := ic_l11 hI (x := p1) rfl (by omega) (by omega)
  refine lq_topr hgq_1 ?_
  refine lv_astore (lv' := [(4, .ref q_1), (0, .ref (a 3)), (1, .int p0), (2, .int p1), (3, .null)]) hx hb dX3_haste_9 hl (by decide) rfl (fun ls hl => ?_)
  refine lv_aload_n hx hb dX3_haste_11 rfl (lv_at hl 1 rfl) ?_
  refine tw_get (D := (dC, dI)) (v := .ref (a 2)) (C := RX3) (T := TX3) (N := 12) hx hb hts (fun _ hh => (List.mem_cons_of_mem _ (List.mem_append_right _ (List.mem_append_left _ hh)))) hown hK hT (fx_3 hX) (by decide) cl_e13 rfl 1 (by decide) (hts (.fieldLink RX3 47 "TypingPool$Floor" "rules" "LTypingPool$Rules;") (List.mem_cons_of_mem _ (List.mem_append_left _ (List.mem_of_getElem? (i := 2) rfl)))) (fun _ h9 => h9) rfl dX3_haste_12 ?_
  refine tw_get (D := (dC, dI)) (v := .ref (a 14)) (C := RX10) (T := TX10) (N := 6) hx hb hts (fun _ hh => (List.mem_cons_of_mem _ (List.mem_append_right _ (List.mem_append_right _ (List.mem_append_right _ (List.mem_append_left _ hh)))))) hown hK hT (fx_2 hX) (by decide) cl_e12 rfl 2 (by decide) (hts (.fieldLink RX3 155 "TypingPool$Rules" "letters" "[I") (List.mem_cons_of_mem _ (List.mem_append_left _ (List.mem_of_getElem? (i := 3) rfl)))) (fun _ h9 => h9) rfl dX3_haste_15 ?_
  refine lv_astore (lv' := [(5, .ref (a 14)), (4, .ref q_1), (0, .ref (a 3)), (1, .int p0), (2, .int p1), (3, .null)]) hx hb dX3_haste_18 hl (by decide) rfl (fun ls hl => ?_)
  refine lv_aload hx hb dX3_haste_20 (lv_at hl 0 rfl) ?_
  refine lv_iconst (v := 0) hx hb dX3_haste_22 (by decide) ?_
  refine lv_aload hx hb dX3_haste_23 (lv_at hl 1 rfl) ?_
  refine tw_get (D := (dC, dI)) (v := .int (y q_1 4)) (C := RX6) (T := TX6) (N := 11) hx hb hts (fun _ hh => (List.mem_cons_of_mem _ (List.mem_append_right _ (List.mem_append_right _ (List.mem_append_right _ (List.mem_append_right _ (List.mem_append_left _ hh))))))) hown hK hT htq_1 (by decide) cl_e2 rfl 4 (by decide) (hts (.fieldLink RX3 181 "TypingPool$Piece" "claim" "I") (List.mem_cons_of_mem _ (List.mem_append_left _ (List.mem_of_getElem? (i := 4) rfl)))) (fun _ h9 => h9) rfl dX3_haste_25 ?_
  refine tw_iast hx hb hK hT hF hS 0 (fx_14 hX) (by decide) (fun _ => cl_e24) rfl (z_in (zk (x := 0) 0 rfl) (by omega) (by omega)) dX3_haste_28 (fun H locs hT hS => ?_)
  obtain ⟨y_2, hy_2, hT⟩ : ∃ z : Nat → Nat → Int32, z = up2 y (a 14) ((0 : Int32).toNatClampNeg) (y q_1 4) ∧ tw (dC, dI) a k τ ln z g H := ⟨_, rfl, hT⟩
  have hG : ag τ [24, 27] y y_2 := by rw [hy_2]; exact hG.up (fx_14 hX) (by decide)
  have hI := hI.ag (S := [24]) (y' := y_2) (by rw [hy_2]; exact ag.one (fx_14 hX)) (by decide)
  refine lv_aload hx hb dX3_haste_29 (lv_at hl 0 rfl) ?_
  refine lv_iconst (v := 1) hx hb dX3_haste_31 (by decide) ?_
  refine lv_aload_n hx hb dX3_haste_32 rfl (lv_at hl 2 rfl) ?_
  refine tw_get (D := (dC, dI)) (v := .int (y_2 (a 3) 2)) (C := RX3) (T := TX3) (N := 12) hx hb hts (fun _ hh => (List.mem_cons_of_mem _ (List.mem_append_right _ (List.mem_append_left _ hh)))) hown hK hT (fx_3 hX) (by decide) cl_e13 rfl 2 (by decide) (hts (.fieldLink RX3 9 "TypingPool$Floor" "now" "I") (List.mem_cons_of_mem _ (List.mem_append_left _ (List.mem_of_getElem? (i := 5) rfl)))) (fun _ h9 => h9) rfl dX3_haste_33 ?_
  refine lv_aload hx hb dX3_haste_36 (lv_at hl 1 rfl) ?_
  refine tw_get (D := (dC, dI)) (v := .int (y_2 q_1 5)) (C := RX6) (T := TX6) (N := 11) hx hb hts (fun _ hh => (List.mem_cons_of_mem _ (List.mem_append_right _ (List.mem_append_right _ (List.mem_append_right _ (List.mem_append_right _ (List.mem_append_left _ hh))))))) hown hK hT htq_1 (by decide) cl_e2 rfl 5 (by decide) (hts (.fieldLink RX3 184 "TypingPool$Piece" "comes" "I") (List.mem_cons_of_mem _ (List.mem_append_left _ (List.mem_of_getElem? (i := 6) rfl)))) (fun _ h9 => h9) rfl dX3_haste_38 ?_
  refine lv_isub hx hb dX3_haste_41 ?_
  refine lv_topi (fun x_3 ex_3 => ?_)
  refine tw_iast hx hb hK hT hF hS 0 (fx_14 hX) (by decide) (fun _ => cl_e24) rfl (z_in (zk (x := 1) 1 rfl) (by omega) (by omega)) dX3_haste_42 (fun H locs hT hS => ?_)
  obtain ⟨y_4, hy_4, hT⟩ : ∃ z : Nat → Nat → Int32, z = up2 y_2 (a 14) ((1 : Int32).toNatClampNeg) x_3 ∧ tw (dC, dI) a k τ ln z g H := ⟨_, rfl, hT⟩
  have hG : ag τ [24, 27] y y_4 := by rw [hy_4]; exact hG.up (fx_14 hX) (by decide)
  have hI := hI.ag (S := [24]) (y' := y_4) (by rw [hy_4]; exact ag.one (fx_14 hX)) (by decide)
  refine lv_aload hx hb dX3_haste_43 (lv_at hl 0 rfl) ?_
  refine lv_iconst (v := 2) hx hb dX3_haste_45 (by decide) ?_
  refine lv_aload hx hb dX3_haste_46 (lv_at hl 1 rfl) ?_
  refine tw_get (D := (dC, dI)) (v := .int (y_4 q_1 2)) (C := RX6) (T := TX6) (N := 11) hx hb hts (fun _ hh => (List.mem_cons_of_mem _ (List.mem_append_right _ (List.mem_append_right _ (List.mem_append_right _ (List.mem_append_right _ (List.mem_append_left _ hh))))))) hown hK hT htq_1 (by decide) cl_e2 rfl 2 (by decide) (hts (.fieldLink RX3 187 "TypingPool$Piece" "lines" "I") (List.mem_cons_of_mem _ (List.mem_append_left _ (List.mem_of_getElem? (i := 7) rfl)))) (fun _ h9 => h9) rfl dX3_haste_48 ?_
  refine tw_iast hx hb hK hT hF hS 0 (fx_14 hX) (by decide) (fun _ => cl_e24) rfl (z_in (zk (x := 2) 2 rfl) (by omega) (by omega)) dX3_haste_51 (fun H locs hT hS => ?_)
  obtain ⟨y_5, hy_5, hT⟩ : ∃ z : Nat → Nat → Int32, z = up2 y_4 (a 14) ((2 : Int32).toNatClampNeg) (y_4 q_1 2) ∧ tw (dC, dI) a k τ ln z g H := ⟨_, rfl, hT⟩
  have hG : ag τ [24, 27] y y_5 := by rw [hy_5]; exact hG.up (fx_14 hX) (by decide)
  have hI := hI.ag (S := [24]) (y' := y_5) (by rw [hy_5]; exact ag.one (fx_14 hX)) (by decide)
  refine lv_aload hx hb dX3_haste_52 (lv_at hl 0 rfl) ?_
  refine lv_iconst (v := 3) hx hb dX3_haste_54 (by decide) ?_
  refine lv_aload hx hb dX3_haste_55 (lv_at hl 1 rfl) ?_
  refine tw_get (D := (dC, dI)) (v := .int (y_5 q_1 6)) (C := RX6) (T := TX6) (N := 11) hx hb hts (fun _ hh => (List.mem_cons_of_mem _ (List.mem_append_right _ (List.mem_append_right _ (List.mem_append_right _ (List.mem_append_right _ (List.mem_append_left _ hh))))))) hown hK hT htq_1 (by decide) cl_e2 rfl 6 (by decide) (hts (.fieldLink RX3 190 "TypingPool$Piece" "due" "I") (List.mem_cons_of_mem _ (List.mem_append_left _ (List.mem_of_getElem? (i := 8) rfl)))) (fun _ h9 => h9) rfl dX3_haste_57 ?_
  refine lv_aload_n hx hb dX3_haste_60 rfl (lv_at hl 2 rfl) ?_
  refine tw_get (D := (dC, dI)) (v := .int (y_5 (a 3) 2)) (C := RX3) (T := TX3) (N := 12) hx hb hts (fun _ hh => (List.mem_cons_of_mem _ (List.mem_append_right _ (List.mem_append_left _ hh)))) hown hK hT (fx_3 hX) (by decide) cl_e13 rfl 2 (by decide) (hts (.fieldLink RX3 9 "TypingPool$Floor" "now" "I") (List.mem_cons_of_mem _ (List.mem_append_left _ (List.mem_of_getElem? (i := 5) rfl)))) (fun _ h9 => h9) rfl dX3_haste_61 ?_
  refine lv_isub hx hb dX3_haste_64 ?_
  refine lv_topi (fun x_6 ex_6 => ?_)
  refine tw_iast hx hb hK hT hF hS 0 (fx_14 hX) (by decide) (fun _ => cl_e24) rfl (z_in (zk (x := 3) 3 rfl) (by omega) (by omega)) dX3_haste_65 (fun H locs hT hS => ?_)
  obtain ⟨y_7, hy_7, hT⟩ : ∃ z : Nat → Nat → Int32, z = up2 y_5 (a 14) ((3 : Int32).toNatClampNeg) x_6 ∧ tw (dC, dI) a k τ ln z g H := ⟨_, rfl, hT⟩
  have hG : ag τ [24, 27] y y_7 := by rw [hy_7]; exact hG.up (fx_14 hX) (by decide)
  have hI := hI.ag (S := [24]) (y' := y_7) (by rw [hy_7]; exact ag.one (fx_14 hX)) (by decide)
  refine lv_aload hx hb dX3_haste_66 (lv_at hl 0 rfl) ?_
  refine lv_iconst (v := 4) hx hb dX3_haste_68 (by decide) ?_
  refine lv_aload hx hb dX3_haste_69 (lv_at hl 1 rfl) ?_
  refine tw_get (D := (dC, dI)) (v := .int (y_7 q_1 3)) (C := RX6) (T := TX6) (N := 11) hx hb hts (fun _ hh => (List.mem_cons_of_mem _ (List.mem_append_right _ (List.mem_append_right _ (List.mem_append_right _ (List.mem_append_right _ (List.mem_append_left _ hh))))))) hown hK hT htq_1 (by decide) cl_e2 rfl 3 (by decide) (hts (.fieldLink RX3 160 "TypingPool$Piece" "secret" "I") (List.mem_cons_of_mem _ (List.mem_append_left _ (List.mem_of_getElem? (i := 9) rfl)))) (fun _ h9 => h9) rfl dX3_haste_71 ?_
  refine tw_iast hx hb hK hT hF hS 0 (fx_14 hX) (by decide) (fun _ => cl_e24) rfl (z_in (zk (x := 4) 4 rfl) (by omega) (by omega)) dX3_haste_74 (fun H locs hT hS => ?_)
  obtain ⟨y_8, hy_8, hT⟩ : ∃ z : Nat → Nat → Int32, z = up2 y_7 (a 14) ((4 : Int32).toNatClampNeg) (y_7 q_1 3) ∧ tw (dC, dI) a k τ ln z g H := ⟨_, rfl, hT⟩
  have hG : ag τ [24, 27] y y_8 := by rw [hy_8]; exact hG.up (fx_14 hX) (by decide)
  have hI := hI.ag (S := [24]) (y' := y_8) (by rw [hy_8]; exact ag.one (fx_14 hX)) (by decide)
  refine lv_aload hx hb dX3_haste_75 (lv_at hl 0 rfl) ?_
  refine lv_iconst (v := 5) hx hb dX3_haste_77 (by decide) ?_
  refine lv_aload hx hb dX3_haste_78 (lv_at hl 1 rfl) ?_
  refine tw_get (D := (dC, dI)) (v := .int (y_8 q_1 0)) (C := RX6) (T := TX6) (N := 11) hx hb hts (fun _ hh => (List.mem_cons_of_mem _ (List.mem_append_right _ (List.mem_append_right _ (List.mem_append_right _ (List.mem_append_right _ (List.mem_append_left _ hh))))))) hown hK hT htq_1 (by decide) cl_e2 rfl 0 (by decide) (hts (.fieldLink RX3 166 "TypingPool$Piece" "department" "I") (List.mem_cons_of_mem _ (List.mem_append_left _ (List.mem_of_getElem? (i := 10) rfl)))) (fun _ h9 => h9) rfl dX3_haste_80 ?_
  refine tw_iast hx hb hK hT hF hS 0 (fx_14 hX) (by decide) (fun _ => cl_e24) rfl (z_in (zk (x := 5) 5 rfl) (by omega) (by omega)) dX3_haste_83 (fun H locs hT hS => ?_)
  obtain ⟨y_9, hy_9, hT⟩ : ∃ z : Nat → Nat → Int32, z = up2 y_8 (a 14) ((5 : Int32).toNatClampNeg) (y_8 q_1 0) ∧ tw (dC, dI) a k τ ln z g H := ⟨_, rfl, hT⟩
  have hG : ag τ [24, 27] y y_9 := by rw [hy_9]; exact hG.up (fx_14 hX) (by decide)
  have hI := hI.ag (S := [24]) (y' := y_9) (by rw [hy_9]; exact ag.one (fx_14 hX)) (by decide)
  refine lv_aload hx hb dX3_haste_84 (lv_at hl 0 rfl) ?_
  refine lv_bipush (v := 6) hx hb dX3_haste_86 (by decide) ?_
  refine lv_aload hx hb dX3_haste_88 (lv_at hl 1 rfl) ?_
  refine lv_aload_n hx hb dX3_haste_90 rfl (lv_at hl 2 rfl) ?_
  refine tw_get (D := (dC, dI)) (v := .ref (a 22)) (C := RX3) (T := TX3) (N := 12) hx hb hts (fun _ hh => (List.mem_cons_of_mem _ (List.mem_append_right _ (List.mem_append_left _ hh)))) hown hK hT (fx_3 hX) (by decide) cl_e13 rfl 5 (by decide) (hts (.fieldLink RX3 22 "TypingPool$Floor" "words" "[I") (List.mem_cons_of_mem _ (List.mem_append_left _ (List.mem_of_getElem? (i := 11) rfl)))) (fun _ h9 => h9) rfl dX3_haste_91 ?_
  refine lv_iload_n hx hb dX3_haste_94 rfl (lv_at hl 3 rfl) ?_
  refine tw_iald hx hb hK hT 0 (fx_22 hX) (by decide) cl_e32 rfl (z_in rfl (by omega) (by omega)) dX3_haste_95 ?_
  have hFc := tw_free hF hS hA
  refine va_calli (va_runV (As := [.int (y_9 (a 22) p0.toNatClampNeg)]) (rest := [.int 6, .ref (a 14)]) ⟨hx, hb, hml, hown, hts⟩ (c_unknownTo l dC dI ad av H.size a k τ ln y_9 g u q_1 (y_9 (a 22) p0.toNatClampNeg) hI htq_1) (cwV 1 hts (gi_4 (List.mem_cons_of_mem _ (List.mem_append_left _ (List.mem_of_getElem? (i := 12) rfl))) (List.mem_cons_of_mem _ (List.mem_append_left _ (List.mem_of_getElem? (i := 13) rfl))) (List.mem_cons_of_mem _ (List.mem_append_left _ (List.mem_of_getElem? (i := 14) rfl))) (List.mem_cons_of_mem _ (List.mem_append_left _ (List.mem_of_getElem? (i := 15) rfl))) (fun _ hh => (List.mem_cons_of_mem _ (List.mem_append_right _ (List.mem_append_right _ (List.mem_append_right _ (List.mem_append_right _ (List.mem_append_right _ (List.mem_append_left _ hh)))))))) gd_c_unknownTo) rfl rfl rfl (by decide +kernel) ⟨Nat.le_of_ble_eq_true rfl, Nat.le_of_ble_eq_true rfl⟩) ⟨pw_blind, tw_recv hK hT htq_1 (by decide) cl_e2 rfl, pw_use hT hK hFc hS hM⟩ rfl rfl hl.1 rfl (lv_room (Nat.le_of_ble_eq_true rfl)) dX3_haste_96 ⟨Nat.le_of_ble_eq_true rfl, Nat.le_of_ble_eq_true rfl⟩) hS (fun q _ h => hFc q h) hFc (fun r0 r_10 t H locs ht hvm hw hB hz1 hk1 hS => ?_)
  refine W.widen (k := 0) (n := 0) (Nat.le_of_ble_eq_true rfl) (Nat.le_of_ble_eq_true rfl) ?_
  clear hvm hz1 hk1
  subst hw
  obtain ⟨hf_11, hf_12, hT⟩ := hB
  rw [ht] at hT
  refine tw_iast hx hb hK hT hF hS 0 (fx_14 hX) (by decide) (fun _ => cl_e24) rfl (z_in (zk (x := 6) 6 rfl) (by omega) (by omega)) dX3_haste_99 (fun H locs hT hS => ?_)
  obtain ⟨y_13, hy_13, hT⟩ : ∃ z : Nat → Nat → Int32, z = up2 y_9 (a 14) ((6 : Int32).toNatClampNeg) r_10 ∧ tw (dC, dI) a k τ ln z g H := ⟨_, rfl, hT⟩
  have hG : ag τ [24, 27] y y_13 := by rw [hy_13]; exact hG.up (fx_14 hX) (by decide)
  have hI := hI.ag (S := [24]) (y' := y_13) (by rw [hy_13]; exact ag.one (fx_14 hX)) (by decide)
  refine lv_aload hx hb dX3_haste_100 (lv_at hl 0 rfl) ?_
  refine lv_bipush (v := 7) hx hb dX3_haste_102 (by decide) ?_
  refine lv_aload_n hx hb dX3_haste_104 rfl (lv_at hl 2 rfl) ?_
  refine lv_aload hx hb dX3_haste_105 (lv_at hl 1 rfl) ?_
  refine tw_get (D := (dC, dI)) (v := .int (y_13 q_1 0)) (C := RX6) (T := TX6) (N := 11) hx hb hts (fun _ hh => (List.mem_cons_of_mem _ (List.mem_append_right _ (List.mem_append_right _ (List.mem_append_right _ (List.mem_append_right _ (List.mem_append_left _ hh))))))) hown hK hT htq_1 (by decide) cl_e2 rfl 0 (by decide) (hts (.fieldLink RX3 166 "TypingPool$Piece" "department" "I") (List.mem_cons_of_mem _ (List.mem_append_left _ (List.mem_of_getElem? (i := 10) rfl)))) (fun _ h9 => h9) rfl dX3_haste_107 ?_
  have hFc := tw_free hF hS hA
  refine va_calli (va_runV (As := [.int (y_13 q_1 0)]) (rest := [.int 7, .ref (a 14)]) ⟨hx, hb, hml, hown, hts⟩ (c_waitingIn l dC dI ad av H.size a k τ ln y_13 g u (y_13 q_1 0) hI ) (cwV 1 hts (gi_4 (List.mem_cons_of_mem _ (List.mem_append_left _ (List.mem_of_getElem? (i := 16) rfl))) (List.mem_cons_of_mem _ (List.mem_append_left _ (List.mem_of_getElem? (i := 17) rfl))) (List.mem_cons_of_mem _ (List.mem_append_left _ (List.mem_of_getElem? (i := 18) rfl))) (List.mem_cons_of_mem _ (List.mem_append_left _ (List.mem_of_getElem? (i := 19) rfl))) (fun _ hh => (List.mem_cons_of_mem _ (List.mem_append_right _ (List.mem_append_right _ (List.mem_append_right _ (List.mem_append_right _ (List.mem_append_right _ (List.mem_append_right _ (List.mem_append_left _ hh))))))))) gd_c_waitingIn) rfl rfl rfl (by decide +kernel) ⟨Nat.le_of_ble_eq_true rfl, Nat.le_of_ble_eq_true rfl⟩) ⟨pw_blind, tw_recv hK hT (fx_3 hX) (by decide) cl_e13 rfl, pw_use hT hK hFc hS hM⟩ rfl rfl hl.1 rfl (lv_room (Nat.le_of_ble_eq_true rfl)) dX3_haste_110 ⟨Nat.le_of_ble_eq_true rfl, Nat.le_of_ble_eq_true rfl⟩) hS (fun q _ h => hFc q h) hFc (fun r0 r_14 t H locs ht hvm hw hB hz1 hk1 hS => ?_)
  refine W.widen (k := 0) (n := 0) (Nat.le_of_ble_eq_true rfl) (Nat.le_of_ble_eq_true rfl) ?_
  clear hvm hz1 hk1
  subst hw
  have hT := hB
  rw [ht] at hT
  refine tw_iast hx hb hK hT hF hS 0 (fx_14 hX) (by decide) (fun _ => cl_e24) rfl (z_in (zk (x := 7) 7 rfl) (by omega) (by omega)) dX3_haste_113 (fun H locs hT hS => ?_)
  obtain ⟨y_15, hy_15, hT⟩ : ∃ z : Nat → Nat → Int32, z = up2 y_13 (a 14) ((7 : Int32).toNatClampNeg) r_14 ∧ tw (dC, dI) a k τ ln z g H := ⟨_, rfl, hT⟩
  have hG : ag τ [24, 27] y y_15 := by rw [hy_15]; exact hG.up (fx_14 hX) (by decide)
  have hI := hI.ag (S := [24]) (y' := y_15) (by rw [hy_15]; exact ag.one (fx_14 hX)) (by decide)
  refine lv_aload_n hx hb dX3_haste_114 rfl (lv_at hl 2 rfl) ?_
  refine tw_get (D := (dC, dI)) (v := .ref (a 2)) (C := RX3) (T := TX3) (N := 12) hx hb hts (fun _ hh => (List.mem_cons_of_mem _ (List.mem_append_right _ (List.mem_append_left _ hh)))) hown hK hT (fx_3 hX) (by decide) cl_e13 rfl 1 (by decide) (hts (.fieldLink RX3 47 "TypingPool$Floor" "rules" "LTypingPool$Rules;") (List.mem_cons_of_mem _ (List.mem_append_left _ (List.mem_of_getElem? (i := 2) rfl)))) (fun _ h9 => h9) rfl dX3_haste_115 ?_
  refine lv_aload_n hx hb dX3_haste_118 rfl (lv_at hl 2 rfl) ?_
  refine tw_get (D := (dC, dI)) (v := .ref (a 2)) (C := RX3) (T := TX3) (N := 12) hx hb hts (fun _ hh => (List.mem_cons_of_mem _ (List.mem_append_right _ (List.mem_append_left _ hh)))) hown hK hT (fx_3 hX) (by decide) cl_e13 rfl 1 (by decide) (hts (.fieldLink RX3 47 "TypingPool$Floor" "rules" "LTypingPool$Rules;") (List.mem_cons_of_mem _ (List.mem_append_left _ (List.mem_of_getElem? (i := 2) rfl)))) (fun _ h9 => h9) rfl dX3_haste_119 ?_
  refine lv_iconst (v := 0) hx hb dX3_haste_122 (by decide) ?_
  refine lv_aload_n hx hb dX3_haste_123 rfl (lv_at hl 2 rfl) ?_
  have hFc := tw_free hF hS hA
  refine va_calli (va_runV (As := []) (rest := [.int 0, .ref (a 2), .ref (a 2)]) ⟨hx, hb, hml, hown, hts⟩ (c_today l dC dI ad av H.size a k τ ln y_15 g u  hI ) (cwV 0 hts (gi_4 (List.mem_cons_of_mem _ (List.mem_append_left _ (List.mem_of_getElem? (i := 20) rfl))) (List.mem_cons_of_mem _ (List.mem_append_left _ (List.mem_of_getElem? (i := 21) rfl))) (List.mem_cons_of_mem _ (List.mem_append_left _ (List.mem_of_getElem? (i := 22) rfl))) (List.mem_cons_of_mem _ (List.mem_append_left _ (List.mem_of_getElem? (i := 19) rfl))) (fun _ hh => (List.mem_cons_of_mem _ (List.mem_append_right _ (List.mem_append_right _ (List.mem_append_right _ (List.mem_append_right _ (List.mem_append_right _ (List.mem_append_right _ (List.mem_append_right _ (List.mem_append_left _ hh)))))))))) gd_c_today) rfl rfl rfl (by decide +kernel) ⟨Nat.le_of_ble_eq_true rfl, Nat.le_of_ble_eq_true rfl⟩) ⟨pw_blind, tw_recv hK hT (fx_3 hX) (by decide) cl_e13 rfl, pw_use hT hK hFc hS hM⟩ rfl rfl hl.1 rfl (lv_room (Nat.le_of_ble_eq_true rfl)) dX3_haste_124 ⟨Nat.le_of_ble_eq_true rfl, Nat.le_of_ble_eq_true rfl⟩) hS (fun q _ h => hFc q h) hFc (fun r0 r_16 t H locs ht hvm hw hB hz1 hk1 hS => ?_)
  refine W.widen (k := 0) (n := 0) (Nat.le_of_ble_eq_true rfl) (Nat.le_of_ble_eq_true rfl) ?_
  clear hvm hz1 hk1
  subst hw
  have hT := hB
  rw [ht] at hT
  refine lv_aload_nN hx hb dX3_haste_127 rfl (lv_at hl 5 rfl) ?_
  have hFc := tw_free hF hS hA
  have hp_17 : (0 : Int32).toInt = 0 := (zk (x := 0) 0 rfl)
  refine va_callr (va_runV (As := [.int 0, .int r_16, .null]) (rest := [.ref (a 2)]) ⟨hx, hb, hml, hown, hts⟩ (c_holdingN l dC dI ad av H.size a k τ ln y_15 g u (0 : Int32) r_16 hI (by decide) (by decide)) (cwV 3 hts (gi_4 (List.mem_cons_of_mem _ (List.mem_append_left _ (List.mem_of_getElem? (i := 23) rfl))) (List.mem_cons_of_mem _ (List.mem_append_left _ (List.mem_of_getElem? (i := 24) rfl))) (List.mem_cons_of_mem _ (List.mem_append_left _ (List.mem_of_getElem? (i := 25) rfl))) (List.mem_cons_of_mem _ (List.mem_append_left _ (List.mem_of_getElem? (i := 26) rfl))) (fun _ hh => (List.mem_cons_of_mem _ (List.mem_append_right _ (List.mem_append_right _ (List.mem_append_right _ (List.mem_append_right _ (List.mem_append_right _ (List.mem_append_right _ (List.mem_append_right _ (List.mem_append_right _ (List.mem_append_left _ hh))))))))))) gd_c_holdingN) rfl rfl rfl (by decide +kernel) ⟨Nat.le_of_ble_eq_true rfl, Nat.le_of_ble_eq_true rfl⟩) ⟨pw_blind, tw_recv hK hT (fx_2 hX) (by decide) cl_e12 rfl, pw_use hT hK hFc hS hM⟩ rfl rfl hl.1 rfl (lv_room (Nat.le_of_ble_eq_true rfl)) dX3_haste_128 ⟨Nat.le_of_ble_eq_true rfl, Nat.le_of_ble_eq_true rfl⟩) hS (fun q _ h => hFc q h) hFc (fun u0 r_18 t H locs ht hvm hw hB hz1 hk1 hS => ?_)
  refine W.widen (k := 0) (n := 0) (Nat.le_of_ble_eq_true rfl) (Nat.le_of_ble_eq_true rfl) ?_
  clear hvm hz1 hk1
  obtain ⟨htr_18, hT⟩ := hB
  rw [ht] at hT
  clear hp_17
  have hFc := tw_free hF hS hA
  refine va_calli (va_runV (As := [.ref r_18]) (rest := []) ⟨hx, hb, hml, hown, hts⟩ (c_give l dC dI ad av H.size a k τ ln y_15 g u r_18 hI htr_18) (cwV 1 hts (gi_4 (List.mem_cons_of_mem _ (List.mem_append_left _ (List.mem_of_getElem? (i := 27) rfl))) (List.mem_cons_of_mem _ (List.mem_append_left _ (List.mem_of_getElem? (i := 28) rfl))) (List.mem_cons_of_mem _ (List.mem_append_left _ (List.mem_of_getElem? (i := 29) rfl))) (List.mem_cons_of_mem _ (List.mem_append_left _ (List.mem_of_getElem? (i := 26) rfl))) (fun _ hh => (List.mem_cons_of_mem _ (List.mem_append_right _ (List.mem_append_right _ (List.mem_append_right _ (List.mem_append_right _ (List.mem_append_right _ (List.mem_append_right _ (List.mem_append_right _ (List.mem_append_right _ (List.mem_append_right _ (List.mem_append_left _ hh)))))))))))) gd_c_give) rfl rfl rfl (by decide +kernel) ⟨Nat.le_of_ble_eq_true rfl, Nat.le_of_ble_eq_true rfl⟩) ⟨pw_blind, tw_recv hK hT (fx_2 hX) (by decide) cl_e12 rfl, pw_use hT hK hFc hS hM⟩ rfl rfl hl.1 rfl (lv_room (Nat.le_of_ble_eq_true rfl)) dX3_haste_131 ⟨Nat.le_of_ble_eq_true rfl, Nat.le_of_ble_eq_true rfl⟩) hS (fun q _ h => hFc q h) hFc (fun r0 r_19 t H locs ht hvm hw hB hz1 hk1 hS => ?_)
  refine W.widen (k := 0) (n := 0) (Nat.le_of_ble_eq_true rfl) (Nat.le_of_ble_eq_true rfl) ?_
  clear hvm hz1 hk1
  subst hw
  obtain ⟨y_20, hgy_20, hT⟩ := hB
  rw [ht] at hT
  have hG := hG.tr hgy_20 (by decide)
  have hI := hI.ag hgy_20 (by decide)
  exact W.iret (v := r_19) hx hb hr (fun t ht hW9 => ⟨⟨r_19, r_19, rfl, rfl, ⟨y_20, hG, tw_at ht hT⟩⟩, hS.F ht⟩) hS.2.2 dX3_haste_134
def wo_c_firstForN : List Cond := [.fieldLink RX3 43 "TypingPool$Floor" "book" "LTypingPool$Book;", .fieldLink RX3 85 "TypingPool$Book" "pieceCount" "I", .methodLink RX3 88 yX3_stateOf, .instanceMethod yX3_stateOf, .selects RX3 yX3_stateOf yX3_stateOf, .initialized RX3, .methodLink RX3 91 yX3_mayDo, .instanceMethod yX3_mayDo, .selects RX3 yX3_mayDo yX3_mayDo, .methodLink RX3 95 yX3_haste, .instanceMethod yX3_haste, .selects RX3 yX3_haste yX3_haste]
def wm_c_firstForN : List Cond := .code yX3_firstFor cX3_firstFor 7 (some .int) :: (wo_c_firstForN ++ (wsX30 ++ (wsX10 ++ (wm_c_stateOf ++ (wm_c_mayDoN ++ (wm_c_hasteN ++ ([] : List Cond)))))))
theorem gd_c_firstForN : ∀ w ∈ wm_c_firstForN, goodWord w = true := gd_c rfl (gd_a (by decide) (gd_a gd_wsX30 (gd_a gd_wsX10 (gd_a gd_c_stateOf (gd_a gd_c_mayDoN (gd_a gd_c_hasteN gd_nil))))))
set_option maxRecDepth 20000 in
theorem im_c_firstForN : ∀ w ∈ wm_c_firstForN, w ∈ lw_tbl := im_c (in_r [.code yX3_firstFor cX3_firstFor 7 (some .int)] [766] (by decide +kernel)) (in_app (in_r wo_c_firstForN [426, 134, 767, 768, 769, 83, 771, 772, 773, 797, 798, 799] (by decide +kernel)) (in_app im_wsX30 (in_app im_wsX10 (in_app im_c_stateOf (in_app im_c_mayDoN (in_app im_c_hasteN im_nil))))))
set_option maxHeartbeats 4000000 in
set_option maxRecDepth 100000 in
theorem c_firstForN (l : Launch) (dC : Nat → ClassId) (dI : Nat → Nat → Nat) (ad av : Nat → Nat) (sz : Nat) (a : Nat → Nat) (k : Nat → ClassId) (τ ln : Nat → Nat) (y : Nat → Nat → Int32) (g : Nat → Nat → Option Nat) (u : Nat → Int) (p0 : Int32) (hI : IC a u τ ln y g) (hlp0 : 0 ≤ p0.toInt) (hup0 : p0.toInt < u 1) : Met l yX3_firstFor wm_c_firstForN ({ frames := 4, cells := 0, slots := 0, locals := 240 }) (pw_ ad av (dC, dI) sz [.ref (a 3), .int p0, .null] a k τ ln y g) (va_Qi (fun (r u : Int32) => u = r) (fun (r : Int32) (t : State) => (∃ (y' : Nat → Nat → Int32), ag τ [24, 27] y y' ∧ (r.toInt = -1 ∨ (0 ≤ r.toInt ∧ r.toInt < u 2)) ∧ tw (dC, dI) a k τ ln y' g t.heap)) (fr τ sz)) 0 0 (fr τ sz) := by
  refine Met.ofW (cc := cX3_firstFor) (maxL := 7) (ret := (some .int)) (by decide) rfl ?_
  intro p e s m args below meth c s₁ B hml hv
  obtain ⟨rfl, hsz, hT, hK, hM⟩ := hv
  have hx := B.exec
  have hb := B.bytes
  have hr := B.returns
  have hts := atoms_spec (ws := wm_c_firstForN) B.pre
  have hown : s.vm.findClass RX3 = some m.cls := findClass_of_methodNamed B.named
  have hlocks := B.notSynchronized
  subst hsz
  generalize hAe : fr τ s.heap.size = A at hM ⊢
  have hA : ∀ q : Nat, s.heap.size ≤ q → A q := fun q h => by rw [← hAe]; exact Or.inr h
  have hF : ∀ q, τ q ≠ 0 → A q := fun q h => by rw [← hAe]; exact Or.inl h
  have hS : va_S A s.heap s.heap [] := va_S.rf
  have hX := hI.1
  have hR := ic_r hI
  have hG : ag τ [24, 27] y y := ag.rf
  have hl := lv_entry ([.ref (a 3), .int p0, .null]) (n := 7) (Nat.le_of_ble_eq_true rfl)
  rw [lg_entry_eq]
  generalize (lg_sl ([.ref (a 3), .int p0, .null]) ++ List.replicate (7 - (lg_sl ([.ref (a 3), .int p0, .null])).length) Slot.unset).toArray = ls at hl ⊢
  have hl : lv_has ls 7 [(0, .ref (a 3)), (1, .int p0), (2, .null)] := hl
  refine lv_iconst (v := (-1)) hx hb dX3_firstFor_0 (by decide) ?_
  refine lv_istore_n (lv' := [(3, .int (-1)), (0, .ref (a 3)), (1, .int p0), (2, .null)]) hx hb dX3_firstFor_1 rfl hl (by decide) rfl (fun ls hl => ?_)
  refine lv_iconst (v := 0) hx hb dX3_firstFor_2 (by decide) ?_
  refine lv_istore (lv' := [(4, .int 0), (3, .int (-1)), (0, .ref (a 3)), (1, .int p0), (2, .null)]) hx hb dX3_firstFor_3 hl (by decide) rfl (fun ls hl => ?_)
  refine lv_iconst (v := 0) hx hb dX3_firstFor_5 (by decide) ?_
  refine lv_istore (lv' := [(5, .int 0), (4, .int 0), (3, .int (-1)), (0, .ref (a 3)), (1, .int p0), (2, .null)]) hx hb dX3_firstFor_6 hl (by decide) rfl (fun ls hl => ?_)
  have loop_8 : ∀ (n : Nat) (i3 : Int32) (w4 : Int32) (i5 : Int32) (y_L8 : Nat → Nat → Int32) (H : Heap) (locs : List Loc) (ls : Array Slot), (u 2 - i5.toInt).toNat < n → ag τ [24, 27] y y_L8 → IC a u τ ln y_L8 g → 0 ≤ i5.toInt → i5.toInt ≤ u 2 → i3.toInt = -1 ∨ (0 ≤ i3.toInt ∧ i3.toInt < u 2) → tw (dC, dI) a k τ ln y_L8 g H → va_S A s.heap H locs → lv_has ls 7 [(0, .ref (a 3)), (1, .int p0), (2, .null), (3, .int i3), (4, .int w4), (5, .int i5)] → W p l e (headSpec wm_c_firstForN ({ frames := 4, cells := 0, slots := 0, locals := 240 })).room s m ([.ref (a 3), .int p0, .null] : List Value).toArray below meth c H locs 0 0 (MQ below (va_Qi (fun (r u : Int32) => u = r) (fun (r : Int32) (t : State) => (∃ (y' : Nat → Nat → Int32), ag τ [24, 27] y y' ∧ (r.toInt = -1 ∨ (0 ≤ r.toInt ∧ r.toInt < u 2)) ∧ tw (dC, dI) a k τ ln y' g t.heap)) A) ([.ref (a 3), .int p0, .null] : List Value).toArray s 0 0 A) (F0 m 8 ls []) := by
    intro n
    induction n with
    | zero => intro i3 w4 i5 y_L8 H locs ls hlt; exact absurd hlt (Nat.not_lt_zero _)
    | succ n ih_8 =>
      intro i3 w4 i5 y_L8 H locs ls hlt hG hI hi8_0 hi8_1 hi8_2 hT hS hl
      refine lv_iload hx hb dX3_firstFor_8 (lv_at hl 5 rfl) ?_
      refine lv_aload_n hx hb dX3_firstFor_10 rfl (lv_at hl 0 rfl) ?_
      refine tw_get (D := (dC, dI)) (v := .ref (a 1)) (C := RX3) (T := TX3) (N := 12) hx hb hts (fun _ hh => (List.mem_cons_of_mem _ (List.mem_append_right _ (List.mem_append_left _ hh)))) hown hK hT (fx_3 hX) (by decide) cl_e13 rfl 0 (by decide) (hts (.fieldLink RX3 43 "TypingPool$Floor" "book" "LTypingPool$Book;") (List.mem_cons_of_mem _ (List.mem_append_left _ (List.mem_of_getElem? (i := 0) rfl)))) (fun _ h9 => h9) rfl dX3_firstFor_11 ?_
      refine tw_get (D := (dC, dI)) (v := .int (y_L8 (a 1) 5)) (C := RX1) (T := TX1) (N := 8) hx hb hts (fun _ hh => (List.mem_cons_of_mem _ (List.mem_append_right _ (List.mem_append_right _ (List.mem_append_left _ hh))))) hown hK hT (fx_1 hX) (by decide) cl_e11 rfl 5 (by decide) (hts (.fieldLink RX3 85 "TypingPool$Book" "pieceCount" "I") (List.mem_cons_of_mem _ (List.mem_append_left _ (List.mem_of_getElem? (i := 1) rfl)))) (fun _ h9 => h9) rfl dX3_firstFor_14 ?_
      have hc_1 := ic_2 hI
      refine lv_icmp_ge (tgt := 76) hx hb dX3_firstFor_17 (by decide) (fun c_2 => ?_) (fun c_2 => ?_)
      · have nc_2 := z_le hc_1 rfl c_2
        refine lv_iload_n hx hb dX3_firstFor_76 rfl (lv_at hl 3 rfl) ?_
        have hrv : i3.toInt = i3.toInt := rfl
        exact W.iret (v := i3) hx hb hr (fun t ht hW9 => ⟨⟨i3, i3, rfl, rfl, ⟨y_L8, hG, by omega, tw_at ht hT⟩⟩, hS.F ht⟩) hS.2.2 dX3_firstFor_77
      · have nc_2 := z_nle hc_1 rfl c_2
        refine lv_aload_n hx hb dX3_firstFor_20 rfl (lv_at hl 0 rfl) ?_
        refine lv_iload hx hb dX3_firstFor_21 (lv_at hl 5 rfl) ?_
        have hFc := tw_free hF hS hA
        refine va_calli (va_runV (As := [.int i5]) (rest := []) ⟨hx, hb, hml, hown, hts⟩ (c_stateOf l dC dI ad av H.size a k τ ln y_L8 g u i5 hI (by omega) (by omega)) (cwV 1 hts (gi_4 (List.mem_cons_of_mem _ (List.mem_append_left _ (List.mem_of_getElem? (i := 2) rfl))) (List.mem_cons_of_mem _ (List.mem_append_left _ (List.mem_of_getElem? (i := 3) rfl))) (List.mem_cons_of_mem _ (List.mem_append_left _ (List.mem_of_getElem? (i := 4) rfl))) (List.mem_cons_of_mem _ (List.mem_append_left _ (List.mem_of_getElem? (i := 5) rfl))) (fun _ hh => (List.mem_cons_of_mem _ (List.mem_append_right _ (List.mem_append_right _ (List.mem_append_right _ (List.mem_append_left _ hh)))))) gd_c_stateOf) rfl rfl rfl (by decide +kernel) ⟨Nat.le_of_ble_eq_true rfl, Nat.le_of_ble_eq_true rfl⟩) ⟨pw_blind, tw_recv hK hT (fx_3 hX) (by decide) cl_e13 rfl, pw_use hT hK hFc hS hM⟩ rfl rfl hl.1 rfl (lv_room (Nat.le_of_ble_eq_true rfl)) dX3_firstFor_23 ⟨Nat.le_of_ble_eq_true rfl, Nat.le_of_ble_eq_true rfl⟩) hS (fun q _ h => hFc q h) hFc (fun r0 r_3 t H locs ht hvm hw hB hz1 hk1 hS => ?_)
        refine W.widen (k := 0) (n := 0) (Nat.le_of_ble_eq_true rfl) (Nat.le_of_ble_eq_true rfl) ?_
        clear hvm hz1 hk1
        subst hw
        have hT := hB
        rw [ht] at hT
        refine lv_iconst (v := 1) hx hb dX3_firstFor_26 (by decide) ?_
        refine lv_icmp_ne (tgt := 70) hx hb dX3_firstFor_27 (by decide) (fun c_4 => ?_) (fun c_4 => ?_)
        · have nc_4 := z_ne rfl (zk (x := 1) 1 rfl) c_4
          obtain ⟨x_5, ex_5⟩ : ∃ y : Int32, y = i5 + Int32.ofInt 1 := ⟨_, rfl⟩
          have hx_5 := z_add ex_5 rfl (zk (x := Int32.ofInt 1) 1 rfl) (by omega) (by omega)
          refine lv_iinc (v := x_5) (lv' := [(5, .int x_5), (0, .ref (a 3)), (1, .int p0), (2, .null), (3, .int i3), (4, .int w4)]) hx hb dX3_firstFor_70 hl (k := 5) rfl ex_5.symm (by decide) rfl (fun ls hl => ?_)
          refine lv_goto (tgt := 8) hx hb dX3_firstFor_73 (by decide) ?_
          exact ih_8  i3 w4 x_5 y_L8 H _ ls (by omega) hG hI (by omega) (by omega) (by omega) hT hS (lv_sub hl [1, 2, 3, 4, 5, 0] rfl)
        · have nc_4 := z_eq rfl (zk (x := 1) 1 rfl) c_4
          refine lv_aload_n hx hb dX3_firstFor_30 rfl (lv_at hl 0 rfl) ?_
          refine lv_iload_n hx hb dX3_firstFor_31 rfl (lv_at hl 1 rfl) ?_
          refine lv_iload hx hb dX3_firstFor_32 (lv_at hl 5 rfl) ?_
          refine lv_aload_nN hx hb dX3_firstFor_34 rfl (lv_at hl 2 rfl) ?_
          have hFc := tw_free hF hS hA
          refine va_calli (va_runV (As := [.int p0, .int i5, .null]) (rest := []) ⟨hx, hb, hml, hown, hts⟩ (c_mayDoN l dC dI ad av H.size a k τ ln y_L8 g u p0 i5 hI (by omega) (by omega) (by omega) (by omega)) (cwV 3 hts (gi_4 (List.mem_cons_of_mem _ (List.mem_append_left _ (List.mem_of_getElem? (i := 6) rfl))) (List.mem_cons_of_mem _ (List.mem_append_left _ (List.mem_of_getElem? (i := 7) rfl))) (List.mem_cons_of_mem _ (List.mem_append_left _ (List.mem_of_getElem? (i := 8) rfl))) (List.mem_cons_of_mem _ (List.mem_append_left _ (List.mem_of_getElem? (i := 5) rfl))) (fun _ hh => (List.mem_cons_of_mem _ (List.mem_append_right _ (List.mem_append_right _ (List.mem_append_right _ (List.mem_append_right _ (List.mem_append_left _ hh))))))) gd_c_mayDoN) rfl rfl rfl (by decide +kernel) ⟨Nat.le_of_ble_eq_true rfl, Nat.le_of_ble_eq_true rfl⟩) ⟨pw_blind, tw_recv hK hT (fx_3 hX) (by decide) cl_e13 rfl, pw_use hT hK hFc hS hM⟩ rfl rfl hl.1 rfl (lv_room (Nat.le_of_ble_eq_true rfl)) dX3_firstFor_35 ⟨Nat.le_of_ble_eq_true rfl, Nat.le_of_ble_eq_true rfl⟩) hS (fun q _ h => hFc q h) hFc (fun r0 r_6 t H locs ht hvm hw hB hz1 hk1 hS => ?_)
          refine W.widen (k := 0) (n := 0) (Nat.le_of_ble_eq_true rfl) (Nat.le_of_ble_eq_true rfl) ?_
          clear hvm hz1 hk1
          subst hw
          rcases hB with ⟨y_7, hre, hgy_7, hT⟩ | ⟨y_8, hre, hgy_8, hT⟩
          · refine lq_top (v := 1) hre ?_
            rw [ht] at hT
            have hG := hG.tr hgy_7 (by decide)
            have hI := hI.ag hgy_7 (by decide)
            refine lv_if_eq (tgt := 70) hx hb dX3_firstFor_38 (by decide) (fun c_9 => absurd c_9 (by decide)) (fun c_9 => ?_)
            refine lv_aload_n hx hb dX3_firstFor_41 rfl (lv_at hl 0 rfl) ?_
            refine lv_iload_n hx hb dX3_firstFor_42 rfl (lv_at hl 1 rfl) ?_
            refine lv_iload hx hb dX3_firstFor_43 (lv_at hl 5 rfl) ?_
            refine lv_aload_nN hx hb dX3_firstFor_45 rfl (lv_at hl 2 rfl) ?_
            have hFc := tw_free hF hS hA
            refine va_calli (va_runV (As := [.int p0, .int i5, .null]) (rest := []) ⟨hx, hb, hml, hown, hts⟩ (c_hasteN l dC dI ad av H.size a k τ ln y_7 g u p0 i5 hI (by omega) (by omega) (by omega) (by omega)) (cwV 3 hts (gi_4 (List.mem_cons_of_mem _ (List.mem_append_left _ (List.mem_of_getElem? (i := 9) rfl))) (List.mem_cons_of_mem _ (List.mem_append_left _ (List.mem_of_getElem? (i := 10) rfl))) (List.mem_cons_of_mem _ (List.mem_append_left _ (List.mem_of_getElem? (i := 11) rfl))) (List.mem_cons_of_mem _ (List.mem_append_left _ (List.mem_of_getElem? (i := 5) rfl))) (fun _ hh => (List.mem_cons_of_mem _ (List.mem_append_right _ (List.mem_append_right _ (List.mem_append_right _ (List.mem_append_right _ (List.mem_append_right _ (List.mem_append_left _ hh)))))))) gd_c_hasteN) rfl rfl rfl (by decide +kernel) ⟨Nat.le_of_ble_eq_true rfl, Nat.le_of_ble_eq_true rfl⟩) ⟨pw_blind, tw_recv hK hT (fx_3 hX) (by decide) cl_e13 rfl, pw_use hT hK hFc hS hM⟩ rfl rfl hl.1 rfl (lv_room (Nat.le_of_ble_eq_true rfl)) dX3_firstFor_46 ⟨Nat.le_of_ble_eq_true rfl, Nat.le_of_ble_eq_true rfl⟩) hS (fun q _ h => hFc q h) hFc (fun r0 r_10 t H locs ht hvm hw hB hz1 hk1 hS => ?_)
            refine W.widen (k := 0) (n := 0) (Nat.le_of_ble_eq_true rfl) (Nat.le_of_ble_eq_true rfl) ?_
            clear hvm hz1 hk1
            subst hw
            obtain ⟨y_11, hgy_11, hT⟩ := hB
            rw [ht] at hT
            have hG := hG.tr hgy_11 (by decide)
            have hI := hI.ag hgy_11 (by decide)
            refine lv_istore (lv' := [(6, .int r_10), (0, .ref (a 3)), (1, .int p0), (2, .null), (3, .int i3), (4, .int w4), (5, .int i5)]) hx hb dX3_firstFor_49 hl (by decide) rfl (fun ls hl => ?_)
            refine lv_iload_n hx hb dX3_firstFor_51 rfl (lv_at hl 4 rfl) ?_
            refine lv_iconst (v := (-1)) hx hb dX3_firstFor_52 (by decide) ?_
            refine lv_icmp_eq (tgt := 63) hx hb dX3_firstFor_53 (by decide) (fun c_12 => ?_) (fun c_12 => ?_)
            · have nc_12 := z_eq rfl (zk (x := (-1)) (-1) rfl) c_12
              refine lv_iload hx hb dX3_firstFor_63 (lv_at hl 6 rfl) ?_
              refine lv_istore_n (lv' := [(3, .int i5), (6, .int r_10), (0, .ref (a 3)), (1, .int p0), (2, .null), (4, .int w4), (5, .int i5)]) hx hb dX3_firstFor_65 rfl hl (by decide) rfl (fun ls hl => ?_)
              refine lv_iload hx hb dX3_firstFor_66 (lv_at hl 1 rfl) ?_
              refine lv_istore (lv' := [(4, .int r_10), (3, .int i5), (6, .int r_10), (0, .ref (a 3)), (1, .int p0), (2, .null), (5, .int i5)]) hx hb dX3_firstFor_68 hl (by decide) rfl (fun ls hl => ?_)
              obtain ⟨x_13, ex_13⟩ : ∃ y : Int32, y = i5 + Int32.ofInt 1 := ⟨_, rfl⟩
              have hx_13 := z_add ex_13 rfl (zk (x := Int32.ofInt 1) 1 rfl) (by omega) (by omega)
              refine lv_iinc (v := x_13) (lv' := [(5, .int x_13), (4, .int r_10), (3, .int i5), (6, .int r_10), (0, .ref (a 3)), (1, .int p0), (2, .null)]) hx hb dX3_firstFor_70 hl (k := 6) rfl ex_13.symm (by decide) rfl (fun ls hl => ?_)
              refine lv_goto (tgt := 8) hx hb dX3_firstFor_73 (by decide) ?_
              exact ih_8  i5 r_10 x_13 y_11 H _ ls (by omega) hG hI (by omega) (by omega) (by omega) hT hS (lv_sub hl [4, 5, 6, 2, 1, 0] rfl)
            · have nc_12 := z_ne rfl (zk (x := (-1)) (-1) rfl) c_12
              refine lv_iload hx hb dX3_firstFor_56 (lv_at hl 0 rfl) ?_
              refine lv_iload hx hb dX3_firstFor_58 (lv_at hl 5 rfl) ?_
              refine lv_icmp_ge (tgt := 70) hx hb dX3_firstFor_60 (by decide) (fun c_14 => ?_) (fun c_14 => ?_)
              · have nc_14 := z_le rfl rfl c_14
                obtain ⟨x_15, ex_15⟩ : ∃ y : Int32, y = i5 + Int32.ofInt 1 := ⟨_, rfl⟩
                have hx_15 := z_add ex_15 rfl (zk (x := Int32.ofInt 1) 1 rfl) (by omega) (by omega)
                refine lv_iinc (v := x_15) (lv' := [(5, .int x_15), (6, .int r_10), (0, .ref (a 3)), (1, .int p0), (2, .null), (3, .int i3), (4, .int w4)]) hx hb dX3_firstFor_70 hl (k := 6) rfl ex_15.symm (by decide) rfl (fun ls hl => ?_)
                refine lv_goto (tgt := 8) hx hb dX3_firstFor_73 (by decide) ?_
                exact ih_8  i3 w4 x_15 y_11 H _ ls (by omega) hG hI (by omega) (by omega) (by omega) hT hS (lv_sub hl [2, 3, 4, 5, 6, 0] rfl)
              · have nc_14 := z_nle rfl rfl c_14
                refine lv_iload hx hb dX3_firstFor_63 (lv_at hl 6 rfl) ?_
                refine lv_istore_n (lv' := [(3, .int i5), (6, .int r_10), (0, .ref (a 3)), (1, .int p0), (2, .null), (4, .int w4), (5, .int i5)]) hx hb dX3_firstFor_65 rfl hl (by decide) rfl (fun ls hl => ?_)
                refine lv_iload hx hb dX3_firstFor_66 (lv_at hl 1 rfl) ?_
                refine lv_istore (lv' := [(4, .int r_10), (3, .int i5), (6, .int r_10), (0, .ref (a 3)), (1, .int p0), (2, .null), (5, .int i5)]) hx hb dX3_firstFor_68 hl (by decide) rfl (fun ls hl => ?_)
                obtain ⟨x_16, ex_16⟩ : ∃ y : Int32, y = i5 + Int32.ofInt 1 := ⟨_, rfl⟩
                have hx_16 := z_add ex_16 rfl (zk (x := Int32.ofInt 1) 1 rfl) (by omega) (by omega)
                refine lv_iinc (v := x_16) (lv' := [(5, .int x_16), (4, .int r_10), (3, .int i5), (6, .int r_10), (0, .ref (a 3)), (1, .int p0), (2, .null)]) hx hb dX3_firstFor_70 hl (k := 6) rfl ex_16.symm (by decide) rfl (fun ls hl => ?_)
                refine lv_goto (tgt := 8) hx hb dX3_firstFor_73 (by decide) ?_
                exact ih_8  i5 r_10 x_16 y_11 H _ ls (by omega) hG hI (by omega) (by omega) (by omega) hT hS (lv_sub hl [4, 5, 6, 2, 1, 0] rfl)
          · refine lq_top (v := 0) hre ?_
            rw [ht] at hT
            have hG := hG.tr hgy_8 (by decide)
            have hI := hI.ag hgy_8 (by decide)
            refine lv_if_eq (tgt := 70) hx hb dX3_firstFor_38 (by decide) (fun c_17 => ?_) (fun c_17 => absurd c_17 (by decide))
            obtain ⟨x_18, ex_18⟩ : ∃ y : Int32, y = i5 + Int32.ofInt 1 := ⟨_, rfl⟩
            have hx_18 := z_add ex_18 rfl (zk (x := Int32.ofInt 1) 1 rfl) (by omega) (by omega)
            refine lv_iinc (v := x_18) (lv' := [(5, .int x_18), (0, .ref (a 3)), (1, .int p0), (2, .null), (3, .int i3), (4, .int w4)]) hx hb dX3_firstFor_70 hl (k := 5) rfl ex_18.symm (by decide) rfl (fun ls hl => ?_)
            refine lv_goto (tgt := 8) hx hb dX3_firstFor_73 (by decide) ?_
            exact ih_8  i3 w4 x_18 y_8 H _ ls (by omega) hG hI (by omega) (by omega) (by omega) hT hS (lv_sub hl [1, 2, 3, 4, 5, 0] rfl)
  have hp_19 : (-1 : Int32).toInt = (-1) := (zk (x := (-1)) (-1) rfl)
  have hp_20 : (0 : Int32).toInt = 0 := (zk (x := 0) 0 rfl)
  have hp_21 : (0 : Int32).toInt = 0 := (zk (x := 0) 0 rfl)
  exact loop_8 _ (-1 : Int32) (0 : Int32) (0 : Int32) y s.heap _ ls (Nat.lt_succ_self _) hG hI (by omega) (by omega) (by omega) hT hS (lv_sub hl [3, 4, 5, 2, 1, 0] rfl)
def wo_c_takeAllN : List Cond := [.fieldLink RX3 43 "TypingPool$Floor" "book" "LTypingPool$Book;", .fieldLink RX3 75 "TypingPool$Book" "handCount" "I", .fieldLink RX3 15 "TypingPool$Floor" "has" "[I", .methodLink RX3 78 yX3_firstFor, .instanceMethod yX3_firstFor, .selects RX3 yX3_firstFor yX3_firstFor, .initialized RX3, .methodLink RX3 82 yX3_take, .instanceMethod yX3_take, .selects RX3 yX3_take yX3_take]
def wm_c_takeAllN : List Cond := .code yX3_takeAll cX3_takeAll 5 none :: (wo_c_takeAllN ++ (wsX30 ++ (wsX10 ++ (wm_c_firstForN ++ (wm_c_take ++ ([] : List Cond))))))
theorem gd_c_takeAllN : ∀ w ∈ wm_c_takeAllN, goodWord w = true := gd_c rfl (gd_a (by decide) (gd_a gd_wsX30 (gd_a gd_wsX10 (gd_a gd_c_firstForN (gd_a gd_c_take gd_nil)))))
set_option maxRecDepth 20000 in
theorem im_c_takeAllN : ∀ w ∈ wm_c_takeAllN, w ∈ lw_tbl := im_c (in_r [.code yX3_takeAll cX3_takeAll 5 none] [762] (by decide +kernel)) (in_app (in_r wo_c_takeAllN [426, 125, 431, 763, 765, 9, 83, 815, 817, 12] (by decide +kernel)) (in_app im_wsX30 (in_app im_wsX10 (in_app im_c_firstForN (in_app im_c_take im_nil)))))
set_option maxHeartbeats 4000000 in
set_option maxRecDepth 100000 in
theorem c_takeAllN (l : Launch) (dC : Nat → ClassId) (dI : Nat → Nat → Nat) (ad av : Nat → Nat) (sz : Nat) (a : Nat → Nat) (k : Nat → ClassId) (τ ln : Nat → Nat) (y : Nat → Nat → Int32) (g : Nat → Nat → Option Nat) (u : Nat → Int) (p0 : Int32) (hI : IC a u τ ln y g) : Met l yX3_takeAll wm_c_takeAllN ({ frames := 5, cells := 0, slots := 0, locals := 300 }) (pw_ ad av (dC, dI) sz [.ref (a 3), .int p0, .null] a k τ ln y g) (va_Qv (fun (_ : Unit) => True) (fun (_ : Unit) (t : State) => (∃ (y' : Nat → Nat → Int32), ag τ [24, 27, 30, 31, 34, 35, 38] y y' ∧ tw (dC, dI) a k τ ln y' g t.heap)) (fr τ sz)) 0 0 (fr τ sz) := by
  refine Met.ofW (cc := cX3_takeAll) (maxL := 5) (ret := none) (by decide) rfl ?_
  intro p e s m args below meth c s₁ B hml hv
  obtain ⟨rfl, hsz, hT, hK, hM⟩ := hv
  have hx := B.exec
  have hb := B.bytes
  have hr := B.returns
  have hts := atoms_spec (ws := wm_c_takeAllN) B.pre
  have hown : s.vm.findClass RX3 = some m.cls := findClass_of_methodNamed B.named
  have hlocks := B.notSynchronized
  subst hsz
  generalize hAe : fr τ s.heap.size = A at hM ⊢
  have hA : ∀ q : Nat, s.heap.size ≤ q → A q := fun q h => by rw [← hAe]; exact Or.inr h
  have hF : ∀ q, τ q ≠ 0 → A q := fun q h => by rw [← hAe]; exact Or.inl h
  have hS : va_S A s.heap s.heap [] := va_S.rf
  have hX := hI.1
  have hR := ic_r hI
  have hG : ag τ [24, 27, 30, 31, 34, 35, 38] y y := ag.rf
  have hl := lv_entry ([.ref (a 3), .int p0, .null]) (n := 5) (Nat.le_of_ble_eq_true rfl)
  rw [lg_entry_eq]
  generalize (lg_sl ([.ref (a 3), .int p0, .null]) ++ List.replicate (5 - (lg_sl ([.ref (a 3), .int p0, .null])).length) Slot.unset).toArray = ls at hl ⊢
  have hl : lv_has ls 5 [(0, .ref (a 3)), (1, .int p0), (2, .null)] := hl
  refine lv_iconst (v := 0) hx hb dX3_takeAll_0 (by decide) ?_
  refine lv_istore_n (lv' := [(3, .int 0), (0, .ref (a 3)), (1, .int p0), (2, .null)]) hx hb dX3_takeAll_1 rfl hl (by decide) rfl (fun ls hl => ?_)
  have loop_2 : ∀ (n : Nat) (i3 : Int32) (y_L2 : Nat → Nat → Int32) (H : Heap) (locs : List Loc) (ls : Array Slot), (u 1 - i3.toInt).toNat < n → ag τ [24, 27, 30, 31, 34, 35, 38] y y_L2 → IC a u τ ln y_L2 g → 0 ≤ i3.toInt → i3.toInt ≤ u 1 → tw (dC, dI) a k τ ln y_L2 g H → va_S A s.heap H locs → lv_has ls 5 [(0, .ref (a 3)), (1, .int p0), (2, .null), (3, .int i3)] → W p l e (headSpec wm_c_takeAllN ({ frames := 5, cells := 0, slots := 0, locals := 300 })).room s m ([.ref (a 3), .int p0, .null] : List Value).toArray below meth c H locs 0 0 (MQ below (va_Qv (fun (_ : Unit) => True) (fun (_ : Unit) (t : State) => (∃ (y' : Nat → Nat → Int32), ag τ [24, 27, 30, 31, 34, 35, 38] y y' ∧ tw (dC, dI) a k τ ln y' g t.heap)) A) ([.ref (a 3), .int p0, .null] : List Value).toArray s 0 0 A) (F0 m 2 ls []) := by
    intro n
    induction n with
    | zero => intro i3 y_L2 H locs ls hlt; exact absurd hlt (Nat.not_lt_zero _)
    | succ n ih_2 =>
      intro i3 y_L2 H locs ls hlt hG hI hi2_0 hi2_1 hT hS hl
      refine lv_iload_n hx hb dX3_takeAll_2 rfl (lv_at hl 3 rfl) ?_
      refine lv_aload_n hx hb dX3_takeAll_3 rfl (lv_at hl 0 rfl) ?_
      refine tw_get (D := (dC, dI)) (v := .ref (a 1)) (C := RX3) (T := TX3) (N := 12) hx hb hts (fun _ hh => (List.mem_cons_of_mem _ (List.mem_append_right _ (List.mem_append_left _ hh)))) hown hK hT (fx_3 hX) (by decide) cl_e13 rfl 0 (by decide) (hts (.fieldLink RX3 43 "TypingPool$Floor" "book" "LTypingPool$Book;") (List.mem_cons_of_mem _ (List.mem_append_left _ (List.mem_of_getElem? (i := 0) rfl)))) (fun _ h9 => h9) rfl dX3_takeAll_4 ?_
      refine tw_get (D := (dC, dI)) (v := .int (y_L2 (a 1) 3)) (C := RX1) (T := TX1) (N := 8) hx hb hts (fun _ hh => (List.mem_cons_of_mem _ (List.mem_append_right _ (List.mem_append_right _ (List.mem_append_left _ hh))))) hown hK hT (fx_1 hX) (by decide) cl_e11 rfl 3 (by decide) (hts (.fieldLink RX3 75 "TypingPool$Book" "handCount" "I") (List.mem_cons_of_mem _ (List.mem_append_left _ (List.mem_of_getElem? (i := 1) rfl)))) (fun _ h9 => h9) rfl dX3_takeAll_7 ?_
      have hc_1 := ic_1 hI
      refine lv_icmp_ge (tgt := 58) hx hb dX3_takeAll_10 (by decide) (fun c_2 => ?_) (fun c_2 => ?_)
      · have nc_2 := z_le hc_1 rfl c_2
        exact W.vret hx hb hr (fun t ht hW9 => ⟨⟨(), rfl, trivial, ⟨y_L2, hG, tw_at ht hT⟩⟩, hS.F ht⟩) hS.2.2 dX3_takeAll_58
      · have nc_2 := z_nle hc_1 rfl c_2
        refine lv_iload_n hx hb dX3_takeAll_13 rfl (lv_at hl 1 rfl) ?_
        refine lv_iload_n hx hb dX3_takeAll_14 rfl (lv_at hl 3 rfl) ?_
        refine lv_ishr hx hb dX3_takeAll_15 ?_
        refine lv_topi (fun x_3 ex_3 => ?_)
        refine lv_iconst (v := 1) hx hb dX3_takeAll_16 (by decide) ?_
        refine lv_iand hx hb dX3_takeAll_17 ?_
        refine lv_topi (fun x_4 ex_4 => ?_)
        have hx_4 := z_and (x := x_3) (zk (x := 1) 1 rfl) (by omega)
        rw [← ex_4] at hx_4
        refine lv_if_ne (tgt := 52) hx hb dX3_takeAll_18 (by decide) (fun c_5 => ?_) (fun c_5 => ?_)
        · have nc_5 := z_ne rfl (zk (x := 0) 0 rfl) c_5
          obtain ⟨x_6, ex_6⟩ : ∃ y : Int32, y = i3 + Int32.ofInt 1 := ⟨_, rfl⟩
          have hx_6 := z_add ex_6 rfl (zk (x := Int32.ofInt 1) 1 rfl) (by omega) (by omega)
          refine lv_iinc (v := x_6) (lv' := [(3, .int x_6), (0, .ref (a 3)), (1, .int p0), (2, .null)]) hx hb dX3_takeAll_52 hl (k := 3) rfl ex_6.symm (by decide) rfl (fun ls hl => ?_)
          refine lv_goto (tgt := 2) hx hb dX3_takeAll_55 (by decide) ?_
          exact ih_2  x_6 y_L2 H _ ls (by omega) hG hI (by omega) (by omega) hT hS (lv_sub hl [1, 2, 3, 0] rfl)
        · have nc_5 := z_eq rfl (zk (x := 0) 0 rfl) c_5
          refine lv_aload_n hx hb dX3_takeAll_21 rfl (lv_at hl 0 rfl) ?_
          refine tw_get (D := (dC, dI)) (v := .ref (a 20)) (C := RX3) (T := TX3) (N := 12) hx hb hts (fun _ hh => (List.mem_cons_of_mem _ (List.mem_append_right _ (List.mem_append_left _ hh)))) hown hK hT (fx_3 hX) (by decide) cl_e13 rfl 3 (by decide) (hts (.fieldLink RX3 15 "TypingPool$Floor" "has" "[I") (List.mem_cons_of_mem _ (List.mem_append_left _ (List.mem_of_getElem? (i := 2) rfl)))) (fun _ h9 => h9) rfl dX3_takeAll_22 ?_
          refine lv_iload_n hx hb dX3_takeAll_25 rfl (lv_at hl 3 rfl) ?_
          refine tw_iald hx hb hK hT 0 (fx_20 hX) (by decide) cl_e30 rfl (z_in rfl (by omega) (by omega)) dX3_takeAll_26 ?_
          refine lv_iconst (v := (-1)) hx hb dX3_takeAll_27 (by decide) ?_
          refine lv_icmp_ne (tgt := 52) hx hb dX3_takeAll_28 (by decide) (fun c_7 => ?_) (fun c_7 => ?_)
          · have nc_7 := z_ne rfl (zk (x := (-1)) (-1) rfl) c_7
            obtain ⟨x_8, ex_8⟩ : ∃ y : Int32, y = i3 + Int32.ofInt 1 := ⟨_, rfl⟩
            have hx_8 := z_add ex_8 rfl (zk (x := Int32.ofInt 1) 1 rfl) (by omega) (by omega)
            refine lv_iinc (v := x_8) (lv' := [(3, .int x_8), (0, .ref (a 3)), (1, .int p0), (2, .null)]) hx hb dX3_takeAll_52 hl (k := 3) rfl ex_8.symm (by decide) rfl (fun ls hl => ?_)
            refine lv_goto (tgt := 2) hx hb dX3_takeAll_55 (by decide) ?_
            exact ih_2  x_8 y_L2 H _ ls (by omega) hG hI (by omega) (by omega) hT hS (lv_sub hl [1, 2, 3, 0] rfl)
          · have nc_7 := z_eq rfl (zk (x := (-1)) (-1) rfl) c_7
            refine lv_aload_n hx hb dX3_takeAll_31 rfl (lv_at hl 0 rfl) ?_
            refine lv_iload_n hx hb dX3_takeAll_32 rfl (lv_at hl 3 rfl) ?_
            refine lv_aload_nN hx hb dX3_takeAll_33 rfl (lv_at hl 2 rfl) ?_
            have hFc := tw_free hF hS hA
            refine va_calli (va_runV (As := [.int i3, .null]) (rest := []) ⟨hx, hb, hml, hown, hts⟩ (c_firstForN l dC dI ad av H.size a k τ ln y_L2 g u i3 hI (by omega) (by omega)) (cwV 2 hts (gi_4 (List.mem_cons_of_mem _ (List.mem_append_left _ (List.mem_of_getElem? (i := 3) rfl))) (List.mem_cons_of_mem _ (List.mem_append_left _ (List.mem_of_getElem? (i := 4) rfl))) (List.mem_cons_of_mem _ (List.mem_append_left _ (List.mem_of_getElem? (i := 5) rfl))) (List.mem_cons_of_mem _ (List.mem_append_left _ (List.mem_of_getElem? (i := 6) rfl))) (fun _ hh => (List.mem_cons_of_mem _ (List.mem_append_right _ (List.mem_append_right _ (List.mem_append_right _ (List.mem_append_left _ hh)))))) gd_c_firstForN) rfl rfl rfl (by decide +kernel) ⟨Nat.le_of_ble_eq_true rfl, Nat.le_of_ble_eq_true rfl⟩) ⟨pw_blind, tw_recv hK hT (fx_3 hX) (by decide) cl_e13 rfl, pw_use hT hK hFc hS hM⟩ rfl rfl hl.1 rfl (lv_room (Nat.le_of_ble_eq_true rfl)) dX3_takeAll_34 ⟨Nat.le_of_ble_eq_true rfl, Nat.le_of_ble_eq_true rfl⟩) hS (fun q _ h => hFc q h) hFc (fun r0 r_9 t H locs ht hvm hw hB hz1 hk1 hS => ?_)
            refine W.widen (k := 0) (n := 0) (Nat.le_of_ble_eq_true rfl) (Nat.le_of_ble_eq_true rfl) ?_
            clear hvm hz1 hk1
            subst hw
            obtain ⟨y_10, hgy_10, hf_11, hT⟩ := hB
            rw [ht] at hT
            have hG := hG.tr hgy_10 (by decide)
            have hI := hI.ag hgy_10 (by decide)
            refine lv_istore (lv' := [(4, .int r_9), (0, .ref (a 3)), (1, .int p0), (2, .null), (3, .int i3)]) hx hb dX3_takeAll_37 hl (by decide) rfl (fun ls hl => ?_)
            refine lv_iload hx hb dX3_takeAll_39 (lv_at hl 0 rfl) ?_
            refine lv_iconst (v := (-1)) hx hb dX3_takeAll_41 (by decide) ?_
            refine lv_icmp_eq (tgt := 52) hx hb dX3_takeAll_42 (by decide) (fun c_12 => ?_) (fun c_12 => ?_)
            · have nc_12 := z_eq rfl (zk (x := (-1)) (-1) rfl) c_12
              obtain ⟨x_13, ex_13⟩ : ∃ y : Int32, y = i3 + Int32.ofInt 1 := ⟨_, rfl⟩
              have hx_13 := z_add ex_13 rfl (zk (x := Int32.ofInt 1) 1 rfl) (by omega) (by omega)
              refine lv_iinc (v := x_13) (lv' := [(3, .int x_13), (4, .int r_9), (0, .ref (a 3)), (1, .int p0), (2, .null)]) hx hb dX3_takeAll_52 hl (k := 4) rfl ex_13.symm (by decide) rfl (fun ls hl => ?_)
              refine lv_goto (tgt := 2) hx hb dX3_takeAll_55 (by decide) ?_
              exact ih_2  x_13 y_10 H _ ls (by omega) hG hI (by omega) (by omega) hT hS (lv_sub hl [2, 3, 4, 0] rfl)
            · have nc_12 := z_ne rfl (zk (x := (-1)) (-1) rfl) c_12
              refine lv_aload_n hx hb dX3_takeAll_45 rfl (lv_at hl 1 rfl) ?_
              refine lv_iload_n hx hb dX3_takeAll_46 rfl (lv_at hl 4 rfl) ?_
              refine lv_iload hx hb dX3_takeAll_47 (lv_at hl 0 rfl) ?_
              have hFc := tw_free hF hS hA
              refine va_callv (va_runV (As := [.int i3, .int r_9]) (rest := []) ⟨hx, hb, hml, hown, hts⟩ (c_take l dC dI ad av H.size a k τ ln y_10 g u i3 r_9 hI (by omega) (by omega) (by omega) (by omega)) (cwV 2 hts (gi_4 (List.mem_cons_of_mem _ (List.mem_append_left _ (List.mem_of_getElem? (i := 7) rfl))) (List.mem_cons_of_mem _ (List.mem_append_left _ (List.mem_of_getElem? (i := 8) rfl))) (List.mem_cons_of_mem _ (List.mem_append_left _ (List.mem_of_getElem? (i := 9) rfl))) (List.mem_cons_of_mem _ (List.mem_append_left _ (List.mem_of_getElem? (i := 6) rfl))) (fun _ hh => (List.mem_cons_of_mem _ (List.mem_append_right _ (List.mem_append_right _ (List.mem_append_right _ (List.mem_append_right _ (List.mem_append_left _ hh))))))) gd_c_take) rfl rfl rfl (by decide +kernel) ⟨Nat.le_of_ble_eq_true rfl, Nat.le_of_ble_eq_true rfl⟩) ⟨pw_blind, tw_recv hK hT (fx_3 hX) (by decide) cl_e13 rfl, pw_use hT hK hFc hS hM⟩ rfl rfl hl.1 rfl (lv_room (Nat.le_of_ble_eq_true rfl)) dX3_takeAll_49 ⟨Nat.le_of_ble_eq_true rfl, Nat.le_of_ble_eq_true rfl⟩) hS (fun q _ h => hFc q h) hFc (fun u0 t H locs ht hvm hw hB hz1 hk1 hS => ?_)
              refine W.widen (k := 0) (n := 0) (Nat.le_of_ble_eq_true rfl) (Nat.le_of_ble_eq_true rfl) ?_
              clear hvm hz1 hk1
              obtain ⟨y_15, hgy_15, hT⟩ := hB
              rw [ht] at hT
              have hG := hG.tr hgy_15 (by decide)
              have hI := hI.ag hgy_15 (by decide)
              obtain ⟨x_16, ex_16⟩ : ∃ y : Int32, y = i3 + Int32.ofInt 1 := ⟨_, rfl⟩
              have hx_16 := z_add ex_16 rfl (zk (x := Int32.ofInt 1) 1 rfl) (by omega) (by omega)
              refine lv_iinc (v := x_16) (lv' := [(3, .int x_16), (4, .int r_9), (0, .ref (a 3)), (1, .int p0), (2, .null)]) hx hb dX3_takeAll_52 hl (k := 4) rfl ex_16.symm (by decide) rfl (fun ls hl => ?_)
              refine lv_goto (tgt := 2) hx hb dX3_takeAll_55 (by decide) ?_
              exact ih_2  x_16 y_15 H _ ls (by omega) hG hI (by omega) (by omega) hT hS (lv_sub hl [2, 3, 4, 0] rfl)
  have hp_17 : (0 : Int32).toInt = 0 := (zk (x := 0) 0 rfl)
  exact loop_2 _ (0 : Int32) y s.heap _ ls (Nat.lt_succ_self _) hG hI (by omega) (by omega) hT hS (lv_sub hl [1, 2, 3, 0] rfl)
def wo_c_runOnN : List Cond := [.fieldLink RX3 9 "TypingPool$Floor" "now" "I", .fieldLink RX3 43 "TypingPool$Floor" "book" "LTypingPool$Book;", .methodLink RX3 57 yX1_awayMask, .instanceMethod yX1_awayMask, .selects RX1 yX1_awayMask yX1_awayMask, .initialized RX1, .methodLink RX3 63 yX3_takeAll, .instanceMethod yX3_takeAll, .selects RX3 yX3_takeAll yX3_takeAll, .initialized RX3, .methodLink RX3 67 yX3_changeFrom, .instanceMethod yX3_changeFrom, .selects RX3 yX3_changeFrom yX3_changeFrom, .methodLink RX3 71 yX3_workAll, .instanceMethod yX3_workAll, .selects RX3 yX3_workAll yX3_workAll]
def wm_c_runOnN : List Cond := .code yX3_runOn cX3_runOn 8 none :: (wo_c_runOnN ++ (wsX30 ++ (wm_c_awayMask ++ (wm_c_takeAllN ++ (wm_c_changeFrom ++ (wm_c_workAll ++ ([] : List Cond)))))))
theorem gd_c_runOnN : ∀ w ∈ wm_c_runOnN, goodWord w = true := gd_c rfl (gd_a (by decide) (gd_a gd_wsX30 (gd_a gd_c_awayMask (gd_a gd_c_takeAllN (gd_a gd_c_changeFrom (gd_a gd_c_workAll gd_nil))))))
set_option maxRecDepth 20000 in
theorem im_c_runOnN : ∀ w ∈ wm_c_runOnN, w ∈ lw_tbl := im_c (in_r [.code yX3_runOn cX3_runOn 8 none] [754] (by decide +kernel)) (in_app (in_r wo_c_runOnN [428, 426, 755, 756, 757, 71, 759, 761, 8, 83, 824, 826, 13, 847, 849, 15] (by decide +kernel)) (in_app im_wsX30 (in_app im_c_awayMask (in_app im_c_takeAllN (in_app im_c_changeFrom (in_app im_c_workAll im_nil))))))
set_option maxHeartbeats 4000000 in
set_option maxRecDepth 100000 in
theorem c_runOnN (l : Launch) (dC : Nat → ClassId) (dI : Nat → Nat → Nat) (ad av : Nat → Nat) (sz : Nat) (a : Nat → Nat) (k : Nat → ClassId) (τ ln : Nat → Nat) (y : Nat → Nat → Int32) (g : Nat → Nat → Option Nat) (u : Nat → Int) (p0 : Int32) (p1 : Int32) (hI : IC a u τ ln y g) (hup0 : p0.toInt ≤ 960) : Met l yX3_runOn wm_c_runOnN ({ frames := 6, cells := 0, slots := 0, locals := 360 }) (pw_ ad av (dC, dI) sz [.ref (a 3), .int p0, .null, .int p1] a k τ ln y g) (va_Qv (fun (_ : Unit) => True) (fun (_ : Unit) (t : State) => (∃ (y' : Nat → Nat → Int32), ag τ [13, 24, 27, 30, 31, 32, 33, 34, 35, 36, 37, 38] y y' ∧ tw (dC, dI) a k τ ln y' g t.heap)) (fr τ sz)) 0 0 (fr τ sz) := by
  refine Met.ofW (cc := cX3_runOn) (maxL := 8) (ret := none) (by decide) rfl ?_
  intro p e s m args below meth c s₁ B hml hv
  obtain ⟨rfl, hsz, hT, hK, hM⟩ := hv
  have hx := B.exec
  have hb := B.bytes
  have hr := B.returns
  have hts := atoms_spec (ws := wm_c_runOnN) B.pre
  have hown : s.vm.findClass RX3 = some m.cls := findClass_of_methodNamed B.named
  have hlocks := B.notSynchronized
  subst hsz
  generalize hAe : fr τ s.heap.size = A at hM ⊢
  have hA : ∀ q : Nat, s.heap.size ≤ q → A q := fun q h => by rw [← hAe]; exact Or.inr h
  have hF : ∀ q, τ q ≠ 0 → A q := fun q h => by rw [← hAe]; exact Or.inl h
  have hS : va_S A s.heap s.heap [] := va_S.rf
  have hX := hI.1
  have hR := ic_r hI
  have hG : ag τ [13, 24, 27, 30, 31, 32, 33, 34, 35, 36, 37, 38] y y := ag.rf
  have hl := lv_entry ([.ref (a 3), .int p0, .null, .int p1]) (n := 8) (Nat.le_of_ble_eq_true rfl)
  rw [lg_entry_eq]
  generalize (lg_sl ([.ref (a 3), .int p0, .null, .int p1]) ++ List.replicate (8 - (lg_sl ([.ref (a 3), .int p0, .null, .int p1])).length) Slot.unset).toArray = ls at hl ⊢
  have hl : lv_has ls 8 [(0, .ref (a 3)), (1, .int p0), (2, .null), (3, .int p1)] := hl
  refine lv_aload_n hx hb dX3_runOn_0 rfl (lv_at hl 0 rfl) ?_
  refine tw_get (D := (dC, dI)) (v := .int (y (a 3) 2)) (C := RX3) (T := TX3) (N := 12) hx hb hts (fun _ hh => (List.mem_cons_of_mem _ (List.mem_append_right _ (List.mem_append_left _ hh)))) hown hK hT (fx_3 hX) (by decide) cl_e13 rfl 2 (by decide) (hts (.fieldLink RX3 9 "TypingPool$Floor" "now" "I") (List.mem_cons_of_mem _ (List.mem_append_left _ (List.mem_of_getElem? (i := 0) rfl)))) (fun _ h9 => h9) rfl dX3_runOn_1 ?_
  refine lv_iload_n hx hb dX3_runOn_4 rfl (lv_at hl 1 rfl) ?_
  refine lv_iadd hx hb dX3_runOn_5 ?_
  refine lv_topi (fun x_1 ex_1 => ?_)
  refine lv_istore (lv' := [(4, .int x_1), (0, .ref (a 3)), (1, .int p0), (2, .null), (3, .int p1)]) hx hb dX3_runOn_6 hl (by decide) rfl (fun ls hl => ?_)
  refine lv_iconst (v := 0) hx hb dX3_runOn_8 (by decide) ?_
  refine lv_istore (lv' := [(5, .int 0), (4, .int x_1), (0, .ref (a 3)), (1, .int p0), (2, .null), (3, .int p1)]) hx hb dX3_runOn_9 hl (by decide) rfl (fun ls hl => ?_)
  have loop_11 : ∀ (n : Nat) (i5 : Int32) (y_L11 : Nat → Nat → Int32) (H : Heap) (locs : List Loc) (ls : Array Slot), (p0.toInt - i5.toInt).toNat < n → ag τ [13, 24, 27, 30, 31, 32, 33, 34, 35, 36, 37, 38] y y_L11 → IC a u τ ln y_L11 g → 0 ≤ i5.toInt → tw (dC, dI) a k τ ln y_L11 g H → va_S A s.heap H locs → lv_has ls 8 [(0, .ref (a 3)), (1, .int p0), (2, .null), (3, .int p1), (4, .int x_1), (5, .int i5)] → W p l e (headSpec wm_c_runOnN ({ frames := 6, cells := 0, slots := 0, locals := 360 })).room s m ([.ref (a 3), .int p0, .null, .int p1] : List Value).toArray below meth c H locs 0 0 (MQ below (va_Qv (fun (_ : Unit) => True) (fun (_ : Unit) (t : State) => (∃ (y' : Nat → Nat → Int32), ag τ [13, 24, 27, 30, 31, 32, 33, 34, 35, 36, 37, 38] y y' ∧ tw (dC, dI) a k τ ln y' g t.heap)) A) ([.ref (a 3), .int p0, .null, .int p1] : List Value).toArray s 0 0 A) (F0 m 11 ls []) := by
    intro n
    induction n with
    | zero => intro i5 y_L11 H locs ls hlt; exact absurd hlt (Nat.not_lt_zero _)
    | succ n ih_11 =>
      intro i5 y_L11 H locs ls hlt hG hI hi11_0 hT hS hl
      refine lv_iload hx hb dX3_runOn_11 (lv_at hl 5 rfl) ?_
      refine lv_iload_n hx hb dX3_runOn_13 rfl (lv_at hl 1 rfl) ?_
      refine lv_icmp_ge (tgt := 99) hx hb dX3_runOn_14 (by decide) (fun c_2 => ?_) (fun c_2 => ?_)
      · have nc_2 := z_le rfl rfl c_2
        exact W.vret hx hb hr (fun t ht hW9 => ⟨⟨(), rfl, trivial, ⟨y_L11, hG, tw_at ht hT⟩⟩, hS.F ht⟩) hS.2.2 dX3_runOn_99
      · have nc_2 := z_nle rfl rfl c_2
        refine lv_aload_n hx hb dX3_runOn_17 rfl (lv_at hl 0 rfl) ?_
        refine tw_get (D := (dC, dI)) (v := .int (y_L11 (a 3) 2)) (C := RX3) (T := TX3) (N := 12) hx hb hts (fun _ hh => (List.mem_cons_of_mem _ (List.mem_append_right _ (List.mem_append_left _ hh)))) hown hK hT (fx_3 hX) (by decide) cl_e13 rfl 2 (by decide) (hts (.fieldLink RX3 9 "TypingPool$Floor" "now" "I") (List.mem_cons_of_mem _ (List.mem_append_left _ (List.mem_of_getElem? (i := 0) rfl)))) (fun _ h9 => h9) rfl dX3_runOn_18 ?_
        refine lv_iload hx hb dX3_runOn_21 (lv_at hl 4 rfl) ?_
        refine lv_icmp_ge (tgt := 99) hx hb dX3_runOn_23 (by decide) (fun c_3 => ?_) (fun c_3 => ?_)
        · have nc_3 := z_le rfl rfl c_3
          exact W.vret hx hb hr (fun t ht hW9 => ⟨⟨(), rfl, trivial, ⟨y_L11, hG, tw_at ht hT⟩⟩, hS.F ht⟩) hS.2.2 dX3_runOn_99
        · have nc_3 := z_nle rfl rfl c_3
          refine lv_aload_n hx hb dX3_runOn_26 rfl (lv_at hl 0 rfl) ?_
          refine tw_get (D := (dC, dI)) (v := .ref (a 1)) (C := RX3) (T := TX3) (N := 12) hx hb hts (fun _ hh => (List.mem_cons_of_mem _ (List.mem_append_right _ (List.mem_append_left _ hh)))) hown hK hT (fx_3 hX) (by decide) cl_e13 rfl 0 (by decide) (hts (.fieldLink RX3 43 "TypingPool$Floor" "book" "LTypingPool$Book;") (List.mem_cons_of_mem _ (List.mem_append_left _ (List.mem_of_getElem? (i := 1) rfl)))) (fun _ h9 => h9) rfl dX3_runOn_27 ?_
          refine lv_aload_n hx hb dX3_runOn_30 rfl (lv_at hl 0 rfl) ?_
          refine tw_get (D := (dC, dI)) (v := .int (y_L11 (a 3) 2)) (C := RX3) (T := TX3) (N := 12) hx hb hts (fun _ hh => (List.mem_cons_of_mem _ (List.mem_append_right _ (List.mem_append_left _ hh)))) hown hK hT (fx_3 hX) (by decide) cl_e13 rfl 2 (by decide) (hts (.fieldLink RX3 9 "TypingPool$Floor" "now" "I") (List.mem_cons_of_mem _ (List.mem_append_left _ (List.mem_of_getElem? (i := 0) rfl)))) (fun _ h9 => h9) rfl dX3_runOn_31 ?_
          have hFc := tw_free hF hS hA
          refine va_calli (va_runV (As := [.int (y_L11 (a 3) 2)]) (rest := []) ⟨hx, hb, hml, hown, hts⟩ (c_awayMask l dC dI ad av H.size a k τ ln y_L11 g u (y_L11 (a 3) 2) hI ) (cwV 1 hts (gi_4 (List.mem_cons_of_mem _ (List.mem_append_left _ (List.mem_of_getElem? (i := 2) rfl))) (List.mem_cons_of_mem _ (List.mem_append_left _ (List.mem_of_getElem? (i := 3) rfl))) (List.mem_cons_of_mem _ (List.mem_append_left _ (List.mem_of_getElem? (i := 4) rfl))) (List.mem_cons_of_mem _ (List.mem_append_left _ (List.mem_of_getElem? (i := 5) rfl))) (fun _ hh => (List.mem_cons_of_mem _ (List.mem_append_right _ (List.mem_append_right _ (List.mem_append_left _ hh))))) gd_c_awayMask) rfl rfl rfl (by decide +kernel) ⟨Nat.le_of_ble_eq_true rfl, Nat.le_of_ble_eq_true rfl⟩) ⟨pw_blind, tw_recv hK hT (fx_1 hX) (by decide) cl_e11 rfl, pw_use hT hK hFc hS hM⟩ rfl rfl hl.1 rfl (lv_room (Nat.le_of_ble_eq_true rfl)) dX3_runOn_34 ⟨Nat.le_of_ble_eq_true rfl, Nat.le_of_ble_eq_true rfl⟩) hS (fun q _ h => hFc q h) hFc (fun r0 r_4 t H locs ht hvm hw hB hz1 hk1 hS => ?_)
          refine W.widen (k := 0) (n := 0) (Nat.le_of_ble_eq_true rfl) (Nat.le_of_ble_eq_true rfl) ?_
          clear hvm hz1 hk1
          subst hw
          have hT := hB
          rw [ht] at hT
          refine lv_iload_n hx hb dX3_runOn_37 rfl (lv_at hl 3 rfl) ?_
          refine lv_iconst (v := (-1)) hx hb dX3_runOn_38 (by decide) ?_
          refine lv_icmp_ne (tgt := 46) hx hb dX3_runOn_39 (by decide) (fun c_5 => ?_) (fun c_5 => ?_)
          · have nc_5 := z_ne rfl (zk (x := (-1)) (-1) rfl) c_5
            refine lv_iconst (v := 1) hx hb dX3_runOn_46 (by decide) ?_
            refine lv_iload_n hx hb dX3_runOn_47 rfl (lv_at hl 3 rfl) ?_
            refine lv_ishl hx hb dX3_runOn_48 ?_
            refine lv_topi (fun x_6 ex_6 => ?_)
            refine lv_ior hx hb dX3_runOn_49 ?_
            refine lv_topi (fun x_7 ex_7 => ?_)
            refine lv_istore (lv' := [(6, .int x_7), (0, .ref (a 3)), (1, .int p0), (2, .null), (3, .int p1), (4, .int x_1), (5, .int i5)]) hx hb dX3_runOn_50 hl (by decide) rfl (fun ls hl => ?_)
            refine lv_aload_n hx hb dX3_runOn_52 rfl (lv_at hl 1 rfl) ?_
            refine lv_iload hx hb dX3_runOn_53 (lv_at hl 0 rfl) ?_
            refine lv_aload_nN hx hb dX3_runOn_55 rfl (lv_at hl 3 rfl) ?_
            have hFc := tw_free hF hS hA
            refine va_callv (va_runV (As := [.int x_7, .null]) (rest := []) ⟨hx, hb, hml, hown, hts⟩ (c_takeAllN l dC dI ad av H.size a k τ ln y_L11 g u x_7 hI ) (cwV 2 hts (gi_4 (List.mem_cons_of_mem _ (List.mem_append_left _ (List.mem_of_getElem? (i := 6) rfl))) (List.mem_cons_of_mem _ (List.mem_append_left _ (List.mem_of_getElem? (i := 7) rfl))) (List.mem_cons_of_mem _ (List.mem_append_left _ (List.mem_of_getElem? (i := 8) rfl))) (List.mem_cons_of_mem _ (List.mem_append_left _ (List.mem_of_getElem? (i := 9) rfl))) (fun _ hh => (List.mem_cons_of_mem _ (List.mem_append_right _ (List.mem_append_right _ (List.mem_append_right _ (List.mem_append_left _ hh)))))) gd_c_takeAllN) rfl rfl rfl (by decide +kernel) ⟨Nat.le_of_ble_eq_true rfl, Nat.le_of_ble_eq_true rfl⟩) ⟨pw_blind, tw_recv hK hT (fx_3 hX) (by decide) cl_e13 rfl, pw_use hT hK hFc hS hM⟩ rfl rfl hl.1 rfl (lv_room (Nat.le_of_ble_eq_true rfl)) dX3_runOn_56 ⟨Nat.le_of_ble_eq_true rfl, Nat.le_of_ble_eq_true rfl⟩) hS (fun q _ h => hFc q h) hFc (fun u0 t H locs ht hvm hw hB hz1 hk1 hS => ?_)
            refine W.widen (k := 0) (n := 0) (Nat.le_of_ble_eq_true rfl) (Nat.le_of_ble_eq_true rfl) ?_
            clear hvm hz1 hk1
            obtain ⟨y_9, hgy_9, hT⟩ := hB
            rw [ht] at hT
            have hG := hG.tr hgy_9 (by decide)
            have hI := hI.ag hgy_9 (by decide)
            refine lv_aload_n hx hb dX3_runOn_59 rfl (lv_at hl 1 rfl) ?_
            refine lv_iload hx hb dX3_runOn_60 (lv_at hl 0 rfl) ?_
            refine lv_iload hx hb dX3_runOn_62 (lv_at hl 5 rfl) ?_
            have hFc := tw_free hF hS hA
            refine va_calli (va_runV (As := [.int x_7, .int x_1]) (rest := []) ⟨hx, hb, hml, hown, hts⟩ (c_changeFrom l dC dI ad av H.size a k τ ln y_9 g u x_7 x_1 hI ) (cwV 2 hts (gi_4 (List.mem_cons_of_mem _ (List.mem_append_left _ (List.mem_of_getElem? (i := 10) rfl))) (List.mem_cons_of_mem _ (List.mem_append_left _ (List.mem_of_getElem? (i := 11) rfl))) (List.mem_cons_of_mem _ (List.mem_append_left _ (List.mem_of_getElem? (i := 12) rfl))) (List.mem_cons_of_mem _ (List.mem_append_left _ (List.mem_of_getElem? (i := 9) rfl))) (fun _ hh => (List.mem_cons_of_mem _ (List.mem_append_right _ (List.mem_append_right _ (List.mem_append_right _ (List.mem_append_right _ (List.mem_append_left _ hh))))))) gd_c_changeFrom) rfl rfl rfl (by decide +kernel) ⟨Nat.le_of_ble_eq_true rfl, Nat.le_of_ble_eq_true rfl⟩) ⟨pw_blind, tw_recv hK hT (fx_3 hX) (by decide) cl_e13 rfl, pw_use hT hK hFc hS hM⟩ rfl rfl hl.1 rfl (lv_room (Nat.le_of_ble_eq_true rfl)) dX3_runOn_64 ⟨Nat.le_of_ble_eq_true rfl, Nat.le_of_ble_eq_true rfl⟩) hS (fun q _ h => hFc q h) hFc (fun r0 r_10 t H locs ht hvm hw hB hz1 hk1 hS => ?_)
            refine W.widen (k := 0) (n := 0) (Nat.le_of_ble_eq_true rfl) (Nat.le_of_ble_eq_true rfl) ?_
            clear hvm hz1 hk1
            subst hw
            have hT := hB
            rw [ht] at hT
            refine lv_aload_n hx hb dX3_runOn_67 rfl (lv_at hl 1 rfl) ?_
            refine tw_get (D := (dC, dI)) (v := .int (y_9 (a 3) 2)) (C := RX3) (T := TX3) (N := 12) hx hb hts (fun _ hh => (List.mem_cons_of_mem _ (List.mem_append_right _ (List.mem_append_left _ hh)))) hown hK hT (fx_3 hX) (by decide) cl_e13 rfl 2 (by decide) (hts (.fieldLink RX3 9 "TypingPool$Floor" "now" "I") (List.mem_cons_of_mem _ (List.mem_append_left _ (List.mem_of_getElem? (i := 0) rfl)))) (fun _ h9 => h9) rfl dX3_runOn_68 ?_
            refine lv_isub hx hb dX3_runOn_71 ?_
            refine lv_topi (fun x_11 ex_11 => ?_)
            refine lv_istore (lv' := [(7, .int x_11), (6, .int x_7), (0, .ref (a 3)), (1, .int p0), (2, .null), (3, .int p1), (4, .int x_1), (5, .int i5)]) hx hb dX3_runOn_72 hl (by decide) rfl (fun ls hl => ?_)
            refine lv_aload_n hx hb dX3_runOn_74 rfl (lv_at hl 2 rfl) ?_
            refine lv_iload hx hb dX3_runOn_75 (lv_at hl 1 rfl) ?_
            refine lv_iload hx hb dX3_runOn_77 (lv_at hl 0 rfl) ?_
            have hFc := tw_free hF hS hA
            refine va_callv (va_runV (As := [.int x_7, .int x_11]) (rest := []) ⟨hx, hb, hml, hown, hts⟩ (c_workAll l dC dI ad av H.size a k τ ln y_9 g u x_7 x_11 hI ) (cwV 2 hts (gi_4 (List.mem_cons_of_mem _ (List.mem_append_left _ (List.mem_of_getElem? (i := 13) rfl))) (List.mem_cons_of_mem _ (List.mem_append_left _ (List.mem_of_getElem? (i := 14) rfl))) (List.mem_cons_of_mem _ (List.mem_append_left _ (List.mem_of_getElem? (i := 15) rfl))) (List.mem_cons_of_mem _ (List.mem_append_left _ (List.mem_of_getElem? (i := 9) rfl))) (fun _ hh => (List.mem_cons_of_mem _ (List.mem_append_right _ (List.mem_append_right _ (List.mem_append_right _ (List.mem_append_right _ (List.mem_append_right _ (List.mem_append_left _ hh)))))))) gd_c_workAll) rfl rfl rfl (by decide +kernel) ⟨Nat.le_of_ble_eq_true rfl, Nat.le_of_ble_eq_true rfl⟩) ⟨pw_blind, tw_recv hK hT (fx_3 hX) (by decide) cl_e13 rfl, pw_use hT hK hFc hS hM⟩ rfl rfl hl.1 rfl (lv_room (Nat.le_of_ble_eq_true rfl)) dX3_runOn_79 ⟨Nat.le_of_ble_eq_true rfl, Nat.le_of_ble_eq_true rfl⟩) hS (fun q _ h => hFc q h) hFc (fun u0 t H locs ht hvm hw hB hz1 hk1 hS => ?_)
            refine W.widen (k := 0) (n := 0) (Nat.le_of_ble_eq_true rfl) (Nat.le_of_ble_eq_true rfl) ?_
            clear hvm hz1 hk1
            obtain ⟨y_13, hgy_13, hT⟩ := hB
            rw [ht] at hT
            have hG := hG.tr hgy_13 (by decide)
            have hI := hI.ag hgy_13 (by decide)
            refine lv_aload_n hx hb dX3_runOn_82 rfl (lv_at hl 2 rfl) ?_
            refine lv_dup hx hb dX3_runOn_83 rfl ?_
            refine tw_get (D := (dC, dI)) (v := .int (y_13 (a 3) 2)) (C := RX3) (T := TX3) (N := 12) hx hb hts (fun _ hh => (List.mem_cons_of_mem _ (List.mem_append_right _ (List.mem_append_left _ hh)))) hown hK hT (fx_3 hX) (by decide) cl_e13 rfl 2 (by decide) (hts (.fieldLink RX3 9 "TypingPool$Floor" "now" "I") (List.mem_cons_of_mem _ (List.mem_append_left _ (List.mem_of_getElem? (i := 0) rfl)))) (fun _ h9 => h9) rfl dX3_runOn_84 ?_
            refine lv_iload hx hb dX3_runOn_87 (lv_at hl 0 rfl) ?_
            refine lv_iadd hx hb dX3_runOn_89 ?_
            refine lv_topi (fun x_14 ex_14 => ?_)
            refine tw_put (D := (dC, dI)) (x := x_14) (ty := .int) (C := RX3) (T := TX3) (N := 12) hx hb hts (fun _ hh => (List.mem_cons_of_mem _ (List.mem_append_right _ (List.mem_append_left _ hh)))) tyX3 tyX3_ok nmX3 hown hK hT hF hS (fx_3 hX) (by decide) cl_e13 rfl 2 (by decide) (hts (.fieldLink RX3 9 "TypingPool$Floor" "now" "I") (List.mem_cons_of_mem _ (List.mem_append_left _ (List.mem_of_getElem? (i := 0) rfl)))) (fun _ h9 => h9) rfl (tyX3_ok 2 (by decide)) rfl rfl (Nat.le_of_ble_eq_true rfl) rfl dX3_runOn_90 (fun H locs hT hS => ?_)
            obtain ⟨y_15, hy_15, hT⟩ : ∃ z : Nat → Nat → Int32, z = up2 y_13 (a 3) 2 x_14 ∧ tw (dC, dI) a k τ ln z g H := ⟨_, rfl, hT⟩
            have hG : ag τ [13, 24, 27, 30, 31, 32, 33, 34, 35, 36, 37, 38] y y_15 := by rw [hy_15]; exact hG.up (fx_3 hX) (by decide)
            have hI := hI.ag (S := [13]) (y' := y_15) (by rw [hy_15]; exact ag.one (fx_3 hX)) (by decide)
            obtain ⟨x_16, ex_16⟩ : ∃ y : Int32, y = i5 + Int32.ofInt 1 := ⟨_, rfl⟩
            have hx_16 := z_add ex_16 rfl (zk (x := Int32.ofInt 1) 1 rfl) (by omega) (by omega)
            refine lv_iinc (v := x_16) (lv' := [(5, .int x_16), (7, .int x_11), (6, .int x_7), (0, .ref (a 3)), (1, .int p0), (2, .null), (3, .int p1), (4, .int x_1)]) hx hb dX3_runOn_93 hl (k := 7) rfl ex_16.symm (by decide) rfl (fun ls hl => ?_)
            refine lv_goto (tgt := 11) hx hb dX3_runOn_96 (by decide) ?_
            exact ih_11  x_16 y_15 H _ ls (by omega) hG hI (by omega) hT hS (lv_sub hl [3, 4, 5, 6, 7, 0] rfl)
          · have nc_5 := z_eq rfl (zk (x := (-1)) (-1) rfl) c_5
            refine lv_iconst (v := 0) hx hb dX3_runOn_42 (by decide) ?_
            refine lv_goto (tgt := 49) hx hb dX3_runOn_43 (by decide) ?_
            refine lv_ior hx hb dX3_runOn_49 ?_
            refine lv_topi (fun x_17 ex_17 => ?_)
            refine lv_istore (lv' := [(6, .int x_17), (0, .ref (a 3)), (1, .int p0), (2, .null), (3, .int p1), (4, .int x_1), (5, .int i5)]) hx hb dX3_runOn_50 hl (by decide) rfl (fun ls hl => ?_)
            refine lv_aload_n hx hb dX3_runOn_52 rfl (lv_at hl 1 rfl) ?_
            refine lv_iload hx hb dX3_runOn_53 (lv_at hl 0 rfl) ?_
            refine lv_aload_nN hx hb dX3_runOn_55 rfl (lv_at hl 3 rfl) ?_
            have hFc := tw_free hF hS hA
            refine va_callv (va_runV (As := [.int x_17, .null]) (rest := []) ⟨hx, hb, hml, hown, hts⟩ (c_takeAllN l dC dI ad av H.size a k τ ln y_L11 g u x_17 hI ) (cwV 2 hts (gi_4 (List.mem_cons_of_mem _ (List.mem_append_left _ (List.mem_of_getElem? (i := 6) rfl))) (List.mem_cons_of_mem _ (List.mem_append_left _ (List.mem_of_getElem? (i := 7) rfl))) (List.mem_cons_of_mem _ (List.mem_append_left _ (List.mem_of_getElem? (i := 8) rfl))) (List.mem_cons_of_mem _ (List.mem_append_left _ (List.mem_of_getElem? (i := 9) rfl))) (fun _ hh => (List.mem_cons_of_mem _ (List.mem_append_right _ (List.mem_append_right _ (List.mem_append_right _ (List.mem_append_left _ hh)))))) gd_c_takeAllN) rfl rfl rfl (by decide +kernel) ⟨Nat.le_of_ble_eq_true rfl, Nat.le_of_ble_eq_true rfl⟩) ⟨pw_blind, tw_recv hK hT (fx_3 hX) (by decide) cl_e13 rfl, pw_use hT hK hFc hS hM⟩ rfl rfl hl.1 rfl (lv_room (Nat.le_of_ble_eq_true rfl)) dX3_runOn_56 ⟨Nat.le_of_ble_eq_true rfl, Nat.le_of_ble_eq_true rfl⟩) hS (fun q _ h => hFc q h) hFc (fun u0 t H locs ht hvm hw hB hz1 hk1 hS => ?_)
            refine W.widen (k := 0) (n := 0) (Nat.le_of_ble_eq_true rfl) (Nat.le_of_ble_eq_true rfl) ?_
            clear hvm hz1 hk1
            obtain ⟨y_19, hgy_19, hT⟩ := hB
            rw [ht] at hT
            have hG := hG.tr hgy_19 (by decide)
            have hI := hI.ag hgy_19 (by decide)
            refine lv_aload_n hx hb dX3_runOn_59 rfl (lv_at hl 1 rfl) ?_
            refine lv_iload hx hb dX3_runOn_60 (lv_at hl 0 rfl) ?_
            refine lv_iload hx hb dX3_runOn_62 (lv_at hl 5 rfl) ?_
            have hFc := tw_free hF hS hA
            refine va_calli (va_runV (As := [.int x_17, .int x_1]) (rest := []) ⟨hx, hb, hml, hown, hts⟩ (c_changeFrom l dC dI ad av H.size a k τ ln y_19 g u x_17 x_1 hI ) (cwV 2 hts (gi_4 (List.mem_cons_of_mem _ (List.mem_append_left _ (List.mem_of_getElem? (i := 10) rfl))) (List.mem_cons_of_mem _ (List.mem_append_left _ (List.mem_of_getElem? (i := 11) rfl))) (List.mem_cons_of_mem _ (List.mem_append_left _ (List.mem_of_getElem? (i := 12) rfl))) (List.mem_cons_of_mem _ (List.mem_append_left _ (List.mem_of_getElem? (i := 9) rfl))) (fun _ hh => (List.mem_cons_of_mem _ (List.mem_append_right _ (List.mem_append_right _ (List.mem_append_right _ (List.mem_append_right _ (List.mem_append_left _ hh))))))) gd_c_changeFrom) rfl rfl rfl (by decide +kernel) ⟨Nat.le_of_ble_eq_true rfl, Nat.le_of_ble_eq_true rfl⟩) ⟨pw_blind, tw_recv hK hT (fx_3 hX) (by decide) cl_e13 rfl, pw_use hT hK hFc hS hM⟩ rfl rfl hl.1 rfl (lv_room (Nat.le_of_ble_eq_true rfl)) dX3_runOn_64 ⟨Nat.le_of_ble_eq_true rfl, Nat.le_of_ble_eq_true rfl⟩) hS (fun q _ h => hFc q h) hFc (fun r0 r_20 t H locs ht hvm hw hB hz1 hk1 hS => ?_)
            refine W.widen (k := 0) (n := 0) (Nat.le_of_ble_eq_true rfl) (Nat.le_of_ble_eq_true rfl) ?_
            clear hvm hz1 hk1
            subst hw
            have hT := hB
            rw [ht] at hT
            refine lv_aload_n hx hb dX3_runOn_67 rfl (lv_at hl 1 rfl) ?_
            refine tw_get (D := (dC, dI)) (v := .int (y_19 (a 3) 2)) (C := RX3) (T := TX3) (N := 12) hx hb hts (fun _ hh => (List.mem_cons_of_mem _ (List.mem_append_right _ (List.mem_append_left _ hh)))) hown hK hT (fx_3 hX) (by decide) cl_e13 rfl 2 (by decide) (hts (.fieldLink RX3 9 "TypingPool$Floor" "now" "I") (List.mem_cons_of_mem _ (List.mem_append_left _ (List.mem_of_getElem? (i := 0) rfl)))) (fun _ h9 => h9) rfl dX3_runOn_68 ?_
            refine lv_isub hx hb dX3_runOn_71 ?_
            refine lv_topi (fun x_21 ex_21 => ?_)
            refine lv_istore (lv' := [(7, .int x_21), (6, .int x_17), (0, .ref (a 3)), (1, .int p0), (2, .null), (3, .int p1), (4, .int x_1), (5, .int i5)]) hx hb dX3_runOn_72 hl (by decide) rfl (fun ls hl => ?_)
            refine lv_aload_n hx hb dX3_runOn_74 rfl (lv_at hl 2 rfl) ?_
            refine lv_iload hx hb dX3_runOn_75 (lv_at hl 1 rfl) ?_
            refine lv_iload hx hb dX3_runOn_77 (lv_at hl 0 rfl) ?_
            have hFc := tw_free hF hS hA
            refine va_callv (va_runV (As := [.int x_17, .int x_21]) (rest := []) ⟨hx, hb, hml, hown, hts⟩ (c_workAll l dC dI ad av H.size a k τ ln y_19 g u x_17 x_21 hI ) (cwV 2 hts (gi_4 (List.mem_cons_of_mem _ (List.mem_append_left _ (List.mem_of_getElem? (i := 13) rfl))) (List.mem_cons_of_mem _ (List.mem_append_left _ (List.mem_of_getElem? (i := 14) rfl))) (List.mem_cons_of_mem _ (List.mem_append_left _ (List.mem_of_getElem? (i := 15) rfl))) (List.mem_cons_of_mem _ (List.mem_append_left _ (List.mem_of_getElem? (i := 9) rfl))) (fun _ hh => (List.mem_cons_of_mem _ (List.mem_append_right _ (List.mem_append_right _ (List.mem_append_right _ (List.mem_append_right _ (List.mem_append_right _ (List.mem_append_left _ hh)))))))) gd_c_workAll) rfl rfl rfl (by decide +kernel) ⟨Nat.le_of_ble_eq_true rfl, Nat.le_of_ble_eq_true rfl⟩) ⟨pw_blind, tw_recv hK hT (fx_3 hX) (by decide) cl_e13 rfl, pw_use hT hK hFc hS hM⟩ rfl rfl hl.1 rfl (lv_room (Nat.le_of_ble_eq_true rfl)) dX3_runOn_79 ⟨Nat.le_of_ble_eq_true rfl, Nat.le_of_ble_eq_true rfl⟩) hS (fun q _ h => hFc q h) hFc (fun u0 t H locs ht hvm hw hB hz1 hk1 hS => ?_)
            refine W.widen (k := 0) (n := 0) (Nat.le_of_ble_eq_true rfl) (Nat.le_of_ble_eq_true rfl) ?_
            clear hvm hz1 hk1
            obtain ⟨y_23, hgy_23, hT⟩ := hB
            rw [ht] at hT
            have hG := hG.tr hgy_23 (by decide)
            have hI := hI.ag hgy_23 (by decide)
            refine lv_aload_n hx hb dX3_runOn_82 rfl (lv_at hl 2 rfl) ?_
            refine lv_dup hx hb dX3_runOn_83 rfl ?_
            refine tw_get (D := (dC, dI)) (v := .int (y_23 (a 3) 2)) (C := RX3) (T := TX3) (N := 12) hx hb hts (fun _ hh => (List.mem_cons_of_mem _ (List.mem_append_right _ (List.mem_append_left _ hh)))) hown hK hT (fx_3 hX) (by decide) cl_e13 rfl 2 (by decide) (hts (.fieldLink RX3 9 "TypingPool$Floor" "now" "I") (List.mem_cons_of_mem _ (List.mem_append_left _ (List.mem_of_getElem? (i := 0) rfl)))) (fun _ h9 => h9) rfl dX3_runOn_84 ?_
            refine lv_iload hx hb dX3_runOn_87 (lv_at hl 0 rfl) ?_
            refine lv_iadd hx hb dX3_runOn_89 ?_
            refine lv_topi (fun x_24 ex_24 => ?_)
            refine tw_put (D := (dC, dI)) (x := x_24) (ty := .int) (C := RX3) (T := TX3) (N := 12) hx hb hts (fun _ hh => (List.mem_cons_of_mem _ (List.mem_append_right _ (List.mem_append_left _ hh)))) tyX3 tyX3_ok nmX3 hown hK hT hF hS (fx_3 hX) (by decide) cl_e13 rfl 2 (by decide) (hts (.fieldLink RX3 9 "TypingPool$Floor" "now" "I") (List.mem_cons_of_mem _ (List.mem_append_left _ (List.mem_of_getElem? (i := 0) rfl)))) (fun _ h9 => h9) rfl (tyX3_ok 2 (by decide)) rfl rfl (Nat.le_of_ble_eq_true rfl) rfl dX3_runOn_90 (fun H locs hT hS => ?_)
            obtain ⟨y_25, hy_25, hT⟩ : ∃ z : Nat → Nat → Int32, z = up2 y_23 (a 3) 2 x_24 ∧ tw (dC, dI) a k τ ln z g H := ⟨_, rfl, hT⟩
            have hG : ag τ [13, 24, 27, 30, 31, 32, 33, 34, 35, 36, 37, 38] y y_25 := by rw [hy_25]; exact hG.up (fx_3 hX) (by decide)
            have hI := hI.ag (S := [13]) (y' := y_25) (by rw [hy_25]; exact ag.one (fx_3 hX)) (by decide)
            obtain ⟨x_26, ex_26⟩ : ∃ y : Int32, y = i5 + Int32.ofInt 1 := ⟨_, rfl⟩
            have hx_26 := z_add ex_26 rfl (zk (x := Int32.ofInt 1) 1 rfl) (by omega) (by omega)
            refine lv_iinc (v := x_26) (lv' := [(5, .int x_26), (7, .int x_21), (6, .int x_17), (0, .ref (a 3)), (1, .int p0), (2, .null), (3, .int p1), (4, .int x_1)]) hx hb dX3_runOn_93 hl (k := 7) rfl ex_26.symm (by decide) rfl (fun ls hl => ?_)
            refine lv_goto (tgt := 11) hx hb dX3_runOn_96 (by decide) ?_
            exact ih_11  x_26 y_25 H _ ls (by omega) hG hI (by omega) hT hS (lv_sub hl [3, 4, 5, 6, 7, 0] rfl)
  have hp_27 : (0 : Int32).toInt = 0 := (zk (x := 0) 0 rfl)
  exact loop_11 _ (0 : Int32) y s.heap _ ls (Nat.lt_succ_self _) hG hI (by omega) hT hS (lv_sub hl [2, 3, 4, 5, 1, 0] rfl)
def wo_c_mayDoR : List Cond := [.fieldLink RX3 43 "TypingPool$Floor" "book" "LTypingPool$Book;", .fieldLink RX3 112 "TypingPool$Book" "hands" "[LTypingPool$Hand;", .fieldLink RX3 103 "TypingPool$Book" "pieces" "[LTypingPool$Piece;", .fieldLink RX3 149 "TypingPool$Hand" "styles" "I", .fieldLink RX3 152 "TypingPool$Piece" "style" "I", .fieldLink RX3 47 "TypingPool$Floor" "rules" "LTypingPool$Rules;", .fieldLink RX3 155 "TypingPool$Rules" "letters" "[I", .fieldLink RX3 160 "TypingPool$Piece" "secret" "I", .fieldLink RX3 163 "TypingPool$Hand" "leave" "I", .fieldLink RX3 166 "TypingPool$Piece" "department" "I", .methodLink RX3 169 yX3_today, .instanceMethod yX3_today, .selects RX3 yX3_today yX3_today, .initialized RX3, .methodLink RX3 173 yX10_holding, .instanceMethod yX10_holding, .selects RX10 yX10_holding yX10_holding, .initialized RX10, .methodLink RX3 177 yX10_give, .instanceMethod yX10_give, .selects RX10 yX10_give yX10_give]
def wm_c_mayDoR : List Cond := .code yX3_mayDo cX3_mayDo 7 (some .boolean) :: (wo_c_mayDoR ++ (wsX30 ++ (wsX10 ++ (wsX40 ++ (wsX60 ++ (wsX100 ++ (wm_c_today ++ (wm_c_holdingR ++ (wm_c_give ++ ([] : List Cond))))))))))
theorem gd_c_mayDoR : ∀ w ∈ wm_c_mayDoR, goodWord w = true := gd_c rfl (gd_a (by decide) (gd_a gd_wsX30 (gd_a gd_wsX10 (gd_a gd_wsX40 (gd_a gd_wsX60 (gd_a gd_wsX100 (gd_a gd_c_today (gd_a gd_c_holdingR (gd_a gd_c_give gd_nil)))))))))
set_option maxRecDepth 20000 in
theorem im_c_mayDoR : ∀ w ∈ wm_c_mayDoR, w ∈ lw_tbl := im_c (in_r [.code yX3_mayDo cX3_mayDo 7 (some .boolean)] [774] (by decide +kernel)) (in_app (in_r wo_c_mayDoR [426, 122, 130, 611, 669, 427, 403, 676, 613, 667, 775, 776, 777, 83, 779, 780, 781, 72, 783, 784, 785] (by decide +kernel)) (in_app im_wsX30 (in_app im_wsX10 (in_app im_wsX40 (in_app im_wsX60 (in_app im_wsX100 (in_app im_c_today (in_app im_c_holdingR (in_app im_c_give im_nil)))))))))
set_option maxHeartbeats 4000000 in
set_option maxRecDepth 100000 in
theorem c_mayDoR (l : Launch) (dC : Nat → ClassId) (dI : Nat → Nat → Nat) (ad av : Nat → Nat) (sz : Nat) (a : Nat → Nat) (k : Nat → ClassId) (τ ln : Nat → Nat) (y : Nat → Nat → Int32) (g : Nat → Nat → Option Nat) (u : Nat → Int) (p0 : Int32) (p1 : Int32) (b0 : Nat) (hI : IC a u τ ln y g) (h_b0 : τ b0 = 5) (hlp0 : 0 ≤ p0.toInt) (hup0 : p0.toInt < u 1) (hlp1 : 0 ≤ p1.toInt) (hup1 : p1.toInt < u 2) : Met l yX3_mayDo wm_c_mayDoR ({ frames := 3, cells := 0, slots := 0, locals := 180 }) (pw_ ad av (dC, dI) sz [.ref (a 3), .int p0, .int p1, .ref b0] a k τ ln y g) (va_Qi (fun (r u : Int32) => u = r) (fun (r : Int32) (t : State) => (∃ (y' : Nat → Nat → Int32), r = 1 ∧ ag τ [24, 27] y y' ∧ tw (dC, dI) a k τ ln y' g t.heap) ∨ (∃ (y' : Nat → Nat → Int32), r = 0 ∧ ag τ [24, 27] y y' ∧ tw (dC, dI) a k τ ln y' g t.heap)) (fr τ sz)) 0 0 (fr τ sz) := by
  refine Met.ofW (cc := cX3_mayDo) (maxL := 7) (ret := (some .boolean)) (by decide) rfl ?_
  intro p e s m args below meth c s₁ B hml hv
  obtain ⟨rfl, hsz, hT, hK, hM⟩ := hv
  have hx := B.exec
  have hb := B.bytes
  have hr := B.returns
  have hts := atoms_spec (ws := wm_c_mayDoR) B.pre
  have hown : s.vm.findClass RX3 = some m.cls := findClass_of_methodNamed B.named
  have hlocks := B.notSynchronized
  subst hsz
  generalize hAe : fr τ s.heap.size = A at hM ⊢
  have hA : ∀ q : Nat, s.heap.size ≤ q → A q := fun q h => by rw [← hAe]; exact Or.inr h
  have hF : ∀ q, τ q ≠ 0 → A q := fun q h => by rw [← hAe]; exact Or.inl h
  have hS : va_S A s.heap s.heap [] := va_S.rf
  have hX := hI.1
  have hR := ic_r hI
  have hG : ag τ [24, 27] y y := ag.rf
  have hl := lv_entry ([.ref (a 3), .int p0, .int p1, .ref b0]) (n := 7) (Nat.le_of_ble_eq_true rfl)
  rw [lg_entry_eq]
  generalize (lg_sl ([.ref (a 3), .int p0, .int p1, .ref b0]) ++ List.replicate (7 - (lg_sl ([.ref (a 3), .int p0, .int p1, .ref b0])).length) Slot.unset).toArray = ls at hl ⊢
  have hl : lv_has ls 7 [(0, .ref (a 3)), (1, .int p0), (2, .int p1), (3, .ref b0)] := hl
  refine lv_aload_n hx hb dX3_mayDo_0 rfl (lv_at hl 0 rfl) ?_
  refine tw_get (D := (dC, dI)) (v := .ref (a 1)) (C := RX3) (T := TX3) (N := 12) hx hb hts (fun _ hh => (List.mem_cons_of_mem _ (List.mem_append_right _ (List.mem_append_left _ hh)))) hown hK hT (fx_3 hX) (by decide) cl_e13 rfl 0 (by decide) (hts (.fieldLink RX3 43 "TypingPool$Floor" "book" "LTypingPool$Book;") (List.mem_cons_of_mem _ (List.mem_append_left _ (List.mem_of_getElem? (i := 0) rfl)))) (fun _ h9 => h9) rfl dX3_mayDo_1 ?_
  refine tw_get (D := (dC, dI)) (v := .ref (a 10)) (C := RX1) (T := TX1) (N := 8) hx hb hts (fun _ hh => (List.mem_cons_of_mem _ (List.mem_append_right _ (List.mem_append_right _ (List.mem_append_left _ hh))))) hown hK hT (fx_1 hX) (by decide) cl_e11 rfl 2 (by decide) (hts (.fieldLink RX3 112 "TypingPool$Book" "hands" "[LTypingPool$Hand;") (List.mem_cons_of_mem _ (List.mem_append_left _ (List.mem_of_getElem? (i := 1) rfl)))) (fun _ h9 => h9) rfl dX3_mayDo_4 ?_
  refine lv_iload_n hx hb dX3_mayDo_7 rfl (lv_at hl 1 rfl) ?_
  refine tw_aald hx hb hK hT 3 (fx_10 hX) (by decide) cl_e20 rfl (z_in rfl (by omega) (by omega)) dX3_mayDo_8 ?_
  obtain ⟨q_1, hgq_1, htq_1⟩ := ic_l10 hI (x := p0) rfl (by omega) (by omega)
  refine lq_topr hgq_1 ?_
  refine lv_astore (lv' := [(4, .ref q_1), (0, .ref (a 3)), (1, .int p0), (2, .int p1), (3, .ref b0)]) hx hb dX3_mayDo_9 hl (by decide) rfl (fun ls hl => ?_)
  refine lv_aload_n hx hb dX3_mayDo_11 rfl (lv_at hl 1 rfl) ?_
  refine tw_get (D := (dC, dI)) (v := .ref (a 1)) (C := RX3) (T := TX3) (N := 12) hx hb hts (fun _ hh => (List.mem_cons_of_mem _ (List.mem_append_right _ (List.mem_append_left _ hh)))) hown hK hT (fx_3 hX) (by decide) cl_e13 rfl 0 (by decide) (hts (.fieldLink RX3 43 "TypingPool$Floor" "book" "LTypingPool$Book;") (List.mem_cons_of_mem _ (List.mem_append_left _ (List.mem_of_getElem? (i := 0) rfl)))) (fun _ h9 => h9) rfl dX3_mayDo_12 ?_
  refine tw_get (D := (dC, dI)) (v := .ref (a 11)) (C := RX1) (T := TX1) (N := 8) hx hb hts (fun _ hh => (List.mem_cons_of_mem _ (List.mem_append_right _ (List.mem_append_right _ (List.mem_append_left _ hh))))) hown hK hT (fx_1 hX) (by decide) cl_e11 rfl 4 (by decide) (hts (.fieldLink RX3 103 "TypingPool$Book" "pieces" "[LTypingPool$Piece;") (List.mem_cons_of_mem _ (List.mem_append_left _ (List.mem_of_getElem? (i := 2) rfl)))) (fun _ h9 => h9) rfl dX3_mayDo_15 ?_
  refine lv_iload_n hx hb dX3_mayDo_18 rfl (lv_at hl 3 rfl) ?_
  refine tw_aald hx hb hK hT 4 (fx_11 hX) (by decide) cl_e21 rfl (z_in rfl (by omega) (by omega)) dX3_mayDo_19 ?_
  obtain ⟨q_2, hgq_2, htq_2⟩ := ic_l11 hI (x := p1) rfl (by omega) (by omega)
  refine lq_topr hgq_2 ?_
  refine lv_astore (lv' := [(5, .ref q_2), (4, .ref q_1), (0, .ref (a 3)), (1, .int p0), (2, .int p1), (3, .ref b0)]) hx hb dX3_mayDo_20 hl (by decide) rfl (fun ls hl => ?_)
  refine lv_aload hx hb dX3_mayDo_22 (lv_at hl 1 rfl) ?_
  refine tw_get (D := (dC, dI)) (v := .int (y q_1 1)) (C := RX4) (T := TX4) (N := 3) hx hb hts (fun _ hh => (List.mem_cons_of_mem _ (List.mem_append_right _ (List.mem_append_right _ (List.mem_append_right _ (List.mem_append_left _ hh)))))) hown hK hT htq_1 (by decide) cl_e1 rfl 1 (by decide) (hts (.fieldLink RX3 149 "TypingPool$Hand" "styles" "I") (List.mem_cons_of_mem _ (List.mem_append_left _ (List.mem_of_getElem? (i := 3) rfl)))) (fun _ h9 => h9) rfl dX3_mayDo_24 ?_
  refine lv_aload hx hb dX3_mayDo_27 (lv_at hl 0 rfl) ?_
  refine tw_get (D := (dC, dI)) (v := .int (y q_2 1)) (C := RX6) (T := TX6) (N := 11) hx hb hts (fun _ hh => (List.mem_cons_of_mem _ (List.mem_append_right _ (List.mem_append_right _ (List.mem_append_right _ (List.mem_append_right _ (List.mem_append_left _ hh))))))) hown hK hT htq_2 (by decide) cl_e2 rfl 1 (by decide) (hts (.fieldLink RX3 152 "TypingPool$Piece" "style" "I") (List.mem_cons_of_mem _ (List.mem_append_left _ (List.mem_of_getElem? (i := 4) rfl)))) (fun _ h9 => h9) rfl dX3_mayDo_29 ?_
  refine lv_ishr hx hb dX3_mayDo_32 ?_
  refine lv_topi (fun x_3 ex_3 => ?_)
  refine lv_iconst (v := 1) hx hb dX3_mayDo_33 (by decide) ?_
  refine lv_iand hx hb dX3_mayDo_34 ?_
  refine lv_topi (fun x_4 ex_4 => ?_)
  have hx_4 := z_and (x := x_3) (zk (x := 1) 1 rfl) (by omega)
  rw [← ex_4] at hx_4
  refine lv_if_ne (tgt := 40) hx hb dX3_mayDo_35 (by decide) (fun c_5 => ?_) (fun c_5 => ?_)
  · have nc_5 := z_ne rfl (zk (x := 0) 0 rfl) c_5
    refine lv_aload_n hx hb dX3_mayDo_40 rfl (lv_at hl 2 rfl) ?_
    refine tw_get (D := (dC, dI)) (v := .ref (a 2)) (C := RX3) (T := TX3) (N := 12) hx hb hts (fun _ hh => (List.mem_cons_of_mem _ (List.mem_append_right _ (List.mem_append_left _ hh)))) hown hK hT (fx_3 hX) (by decide) cl_e13 rfl 1 (by decide) (hts (.fieldLink RX3 47 "TypingPool$Floor" "rules" "LTypingPool$Rules;") (List.mem_cons_of_mem _ (List.mem_append_left _ (List.mem_of_getElem? (i := 5) rfl)))) (fun _ h9 => h9) rfl dX3_mayDo_41 ?_
    refine tw_get (D := (dC, dI)) (v := .ref (a 14)) (C := RX10) (T := TX10) (N := 6) hx hb hts (fun _ hh => (List.mem_cons_of_mem _ (List.mem_append_right _ (List.mem_append_right _ (List.mem_append_right _ (List.mem_append_right _ (List.mem_append_right _ (List.mem_append_left _ hh)))))))) hown hK hT (fx_2 hX) (by decide) cl_e12 rfl 2 (by decide) (hts (.fieldLink RX3 155 "TypingPool$Rules" "letters" "[I") (List.mem_cons_of_mem _ (List.mem_append_left _ (List.mem_of_getElem? (i := 6) rfl)))) (fun _ h9 => h9) rfl dX3_mayDo_44 ?_
    refine lv_astore (lv' := [(6, .ref (a 14)), (5, .ref q_2), (4, .ref q_1), (0, .ref (a 3)), (1, .int p0), (2, .int p1), (3, .ref b0)]) hx hb dX3_mayDo_47 hl (by decide) rfl (fun ls hl => ?_)
    refine lv_aload hx hb dX3_mayDo_49 (lv_at hl 0 rfl) ?_
    refine lv_iconst (v := 0) hx hb dX3_mayDo_51 (by decide) ?_
    refine lv_aload hx hb dX3_mayDo_52 (lv_at hl 1 rfl) ?_
    refine tw_get (D := (dC, dI)) (v := .int (y q_2 3)) (C := RX6) (T := TX6) (N := 11) hx hb hts (fun _ hh => (List.mem_cons_of_mem _ (List.mem_append_right _ (List.mem_append_right _ (List.mem_append_right _ (List.mem_append_right _ (List.mem_append_left _ hh))))))) hown hK hT htq_2 (by decide) cl_e2 rfl 3 (by decide) (hts (.fieldLink RX3 160 "TypingPool$Piece" "secret" "I") (List.mem_cons_of_mem _ (List.mem_append_left _ (List.mem_of_getElem? (i := 7) rfl)))) (fun _ h9 => h9) rfl dX3_mayDo_54 ?_
    refine tw_iast hx hb hK hT hF hS 0 (fx_14 hX) (by decide) (fun _ => cl_e24) rfl (z_in (zk (x := 0) 0 rfl) (by omega) (by omega)) dX3_mayDo_57 (fun H locs hT hS => ?_)
    obtain ⟨y_6, hy_6, hT⟩ : ∃ z : Nat → Nat → Int32, z = up2 y (a 14) ((0 : Int32).toNatClampNeg) (y q_2 3) ∧ tw (dC, dI) a k τ ln z g H := ⟨_, rfl, hT⟩
    have hG : ag τ [24, 27] y y_6 := by rw [hy_6]; exact hG.up (fx_14 hX) (by decide)
    have hI := hI.ag (S := [24]) (y' := y_6) (by rw [hy_6]; exact ag.one (fx_14 hX)) (by decide)
    refine lv_aload hx hb dX3_mayDo_58 (lv_at hl 0 rfl) ?_
    refine lv_iconst (v := 1) hx hb dX3_mayDo_60 (by decide) ?_
    refine lv_aload hx hb dX3_mayDo_61 (lv_at hl 2 rfl) ?_
    refine tw_get (D := (dC, dI)) (v := .int (y_6 q_1 2)) (C := RX4) (T := TX4) (N := 3) hx hb hts (fun _ hh => (List.mem_cons_of_mem _ (List.mem_append_right _ (List.mem_append_right _ (List.mem_append_right _ (List.mem_append_left _ hh)))))) hown hK hT htq_1 (by decide) cl_e1 rfl 2 (by decide) (hts (.fieldLink RX3 163 "TypingPool$Hand" "leave" "I") (List.mem_cons_of_mem _ (List.mem_append_left _ (List.mem_of_getElem? (i := 8) rfl)))) (fun _ h9 => h9) rfl dX3_mayDo_63 ?_
    refine tw_iast hx hb hK hT hF hS 0 (fx_14 hX) (by decide) (fun _ => cl_e24) rfl (z_in (zk (x := 1) 1 rfl) (by omega) (by omega)) dX3_mayDo_66 (fun H locs hT hS => ?_)
    obtain ⟨y_7, hy_7, hT⟩ : ∃ z : Nat → Nat → Int32, z = up2 y_6 (a 14) ((1 : Int32).toNatClampNeg) (y_6 q_1 2) ∧ tw (dC, dI) a k τ ln z g H := ⟨_, rfl, hT⟩
    have hG : ag τ [24, 27] y y_7 := by rw [hy_7]; exact hG.up (fx_14 hX) (by decide)
    have hI := hI.ag (S := [24]) (y' := y_7) (by rw [hy_7]; exact ag.one (fx_14 hX)) (by decide)
    refine lv_aload hx hb dX3_mayDo_67 (lv_at hl 0 rfl) ?_
    refine lv_iconst (v := 2) hx hb dX3_mayDo_69 (by decide) ?_
    refine lv_aload hx hb dX3_mayDo_70 (lv_at hl 1 rfl) ?_
    refine tw_get (D := (dC, dI)) (v := .int (y_7 q_2 0)) (C := RX6) (T := TX6) (N := 11) hx hb hts (fun _ hh => (List.mem_cons_of_mem _ (List.mem_append_right _ (List.mem_append_right _ (List.mem_append_right _ (List.mem_append_right _ (List.mem_append_left _ hh))))))) hown hK hT htq_2 (by decide) cl_e2 rfl 0 (by decide) (hts (.fieldLink RX3 166 "TypingPool$Piece" "department" "I") (List.mem_cons_of_mem _ (List.mem_append_left _ (List.mem_of_getElem? (i := 9) rfl)))) (fun _ h9 => h9) rfl dX3_mayDo_72 ?_
    refine tw_iast hx hb hK hT hF hS 0 (fx_14 hX) (by decide) (fun _ => cl_e24) rfl (z_in (zk (x := 2) 2 rfl) (by omega) (by omega)) dX3_mayDo_75 (fun H locs hT hS => ?_)
    obtain ⟨y_8, hy_8, hT⟩ : ∃ z : Nat → Nat → Int32, z = up2 y_7 (a 14) ((2 : Int32).toNatClampNeg) (y_7 q_2 0) ∧ tw (dC, dI) a k τ ln z g H := ⟨_, rfl, hT⟩
    have hG : ag τ [24, 27] y y_8 := by rw [hy_8]; exact hG.up (fx_14 hX) (by decide)
    have hI := hI.ag (S := [24]) (y' := y_8) (by rw [hy_8]; exact ag.one (fx_14 hX)) (by decide)
    refine lv_aload hx hb dX3_mayDo_76 (lv_at hl 0 rfl) ?_
    refine lv_iconst (v := 3) hx hb dX3_mayDo_78 (by decide) ?_
    refine lv_iload_n hx hb dX3_mayDo_79 rfl (lv_at hl 4 rfl) ?_
    refine tw_iast hx hb hK hT hF hS 0 (fx_14 hX) (by decide) (fun _ => cl_e24) rfl (z_in (zk (x := 3) 3 rfl) (by omega) (by omega)) dX3_mayDo_80 (fun H locs hT hS => ?_)
    obtain ⟨y_9, hy_9, hT⟩ : ∃ z : Nat → Nat → Int32, z = up2 y_8 (a 14) ((3 : Int32).toNatClampNeg) p0 ∧ tw (dC, dI) a k τ ln z g H := ⟨_, rfl, hT⟩
    have hG : ag τ [24, 27] y y_9 := by rw [hy_9]; exact hG.up (fx_14 hX) (by decide)
    have hI := hI.ag (S := [24]) (y' := y_9) (by rw [hy_9]; exact ag.one (fx_14 hX)) (by decide)
    refine lv_aload_n hx hb dX3_mayDo_81 rfl (lv_at hl 3 rfl) ?_
    refine tw_get (D := (dC, dI)) (v := .ref (a 2)) (C := RX3) (T := TX3) (N := 12) hx hb hts (fun _ hh => (List.mem_cons_of_mem _ (List.mem_append_right _ (List.mem_append_left _ hh)))) hown hK hT (fx_3 hX) (by decide) cl_e13 rfl 1 (by decide) (hts (.fieldLink RX3 47 "TypingPool$Floor" "rules" "LTypingPool$Rules;") (List.mem_cons_of_mem _ (List.mem_append_left _ (List.mem_of_getElem? (i := 5) rfl)))) (fun _ h9 => h9) rfl dX3_mayDo_82 ?_
    refine lv_aload_n hx hb dX3_mayDo_85 rfl (lv_at hl 3 rfl) ?_
    refine tw_get (D := (dC, dI)) (v := .ref (a 2)) (C := RX3) (T := TX3) (N := 12) hx hb hts (fun _ hh => (List.mem_cons_of_mem _ (List.mem_append_right _ (List.mem_append_left _ hh)))) hown hK hT (fx_3 hX) (by decide) cl_e13 rfl 1 (by decide) (hts (.fieldLink RX3 47 "TypingPool$Floor" "rules" "LTypingPool$Rules;") (List.mem_cons_of_mem _ (List.mem_append_left _ (List.mem_of_getElem? (i := 5) rfl)))) (fun _ h9 => h9) rfl dX3_mayDo_86 ?_
    refine lv_iconst (v := 1) hx hb dX3_mayDo_89 (by decide) ?_
    refine lv_aload_n hx hb dX3_mayDo_90 rfl (lv_at hl 3 rfl) ?_
    have hFc := tw_free hF hS hA
    refine va_calli (va_runV (As := []) (rest := [.int 1, .ref (a 2), .ref (a 2)]) ⟨hx, hb, hml, hown, hts⟩ (c_today l dC dI ad av H.size a k τ ln y_9 g u  hI ) (cwV 0 hts (gi_4 (List.mem_cons_of_mem _ (List.mem_append_left _ (List.mem_of_getElem? (i := 10) rfl))) (List.mem_cons_of_mem _ (List.mem_append_left _ (List.mem_of_getElem? (i := 11) rfl))) (List.mem_cons_of_mem _ (List.mem_append_left _ (List.mem_of_getElem? (i := 12) rfl))) (List.mem_cons_of_mem _ (List.mem_append_left _ (List.mem_of_getElem? (i := 13) rfl))) (fun _ hh => (List.mem_cons_of_mem _ (List.mem_append_right _ (List.mem_append_right _ (List.mem_append_right _ (List.mem_append_right _ (List.mem_append_right _ (List.mem_append_right _ (List.mem_append_left _ hh))))))))) gd_c_today) rfl rfl rfl (by decide +kernel) ⟨Nat.le_of_ble_eq_true rfl, Nat.le_of_ble_eq_true rfl⟩) ⟨pw_blind, tw_recv hK hT (fx_3 hX) (by decide) cl_e13 rfl, pw_use hT hK hFc hS hM⟩ rfl rfl hl.1 rfl (lv_room (Nat.le_of_ble_eq_true rfl)) dX3_mayDo_91 ⟨Nat.le_of_ble_eq_true rfl, Nat.le_of_ble_eq_true rfl⟩) hS (fun q _ h => hFc q h) hFc (fun r0 r_10 t H locs ht hvm hw hB hz1 hk1 hS => ?_)
    refine W.widen (k := 0) (n := 0) (Nat.le_of_ble_eq_true rfl) (Nat.le_of_ble_eq_true rfl) ?_
    clear hvm hz1 hk1
    subst hw
    have hT := hB
    rw [ht] at hT
    refine lv_aload_n hx hb dX3_mayDo_94 rfl (lv_at hl 6 rfl) ?_
    have hFc := tw_free hF hS hA
    have hp_11 : (1 : Int32).toInt = 1 := (zk (x := 1) 1 rfl)
    refine va_callr (va_runV (As := [.int 1, .int r_10, .ref b0]) (rest := [.ref (a 2)]) ⟨hx, hb, hml, hown, hts⟩ (c_holdingR l dC dI ad av H.size a k τ ln y_9 g u (1 : Int32) r_10 b0 hI h_b0 (by decide) (by decide)) (cwV 3 hts (gi_4 (List.mem_cons_of_mem _ (List.mem_append_left _ (List.mem_of_getElem? (i := 14) rfl))) (List.mem_cons_of_mem _ (List.mem_append_left _ (List.mem_of_getElem? (i := 15) rfl))) (List.mem_cons_of_mem _ (List.mem_append_left _ (List.mem_of_getElem? (i := 16) rfl))) (List.mem_cons_of_mem _ (List.mem_append_left _ (List.mem_of_getElem? (i := 17) rfl))) (fun _ hh => (List.mem_cons_of_mem _ (List.mem_append_right _ (List.mem_append_right _ (List.mem_append_right _ (List.mem_append_right _ (List.mem_append_right _ (List.mem_append_right _ (List.mem_append_right _ (List.mem_append_left _ hh)))))))))) gd_c_holdingR) rfl rfl rfl (by decide +kernel) ⟨Nat.le_of_ble_eq_true rfl, Nat.le_of_ble_eq_true rfl⟩) ⟨pw_blind, tw_recv hK hT (fx_2 hX) (by decide) cl_e12 rfl, pw_use hT hK hFc hS hM⟩ rfl rfl hl.1 rfl (lv_room (Nat.le_of_ble_eq_true rfl)) dX3_mayDo_95 ⟨Nat.le_of_ble_eq_true rfl, Nat.le_of_ble_eq_true rfl⟩) hS (fun q _ h => hFc q h) hFc (fun u0 r_12 t H locs ht hvm hw hB hz1 hk1 hS => ?_)
    refine W.widen (k := 0) (n := 0) (Nat.le_of_ble_eq_true rfl) (Nat.le_of_ble_eq_true rfl) ?_
    clear hvm hz1 hk1
    obtain ⟨htr_12, hT⟩ := hB
    rw [ht] at hT
    clear hp_11
    have hFc := tw_free hF hS hA
    refine va_calli (va_runV (As := [.ref r_12]) (rest := []) ⟨hx, hb, hml, hown, hts⟩ (c_give l dC dI ad av H.size a k τ ln y_9 g u r_12 hI htr_12) (cwV 1 hts (gi_4 (List.mem_cons_of_mem _ (List.mem_append_left _ (List.mem_of_getElem? (i := 18) rfl))) (List.mem_cons_of_mem _ (List.mem_append_left _ (List.mem_of_getElem? (i := 19) rfl))) (List.mem_cons_of_mem _ (List.mem_append_left _ (List.mem_of_getElem? (i := 20) rfl))) (List.mem_cons_of_mem _ (List.mem_append_left _ (List.mem_of_getElem? (i := 17) rfl))) (fun _ hh => (List.mem_cons_of_mem _ (List.mem_append_right _ (List.mem_append_right _ (List.mem_append_right _ (List.mem_append_right _ (List.mem_append_right _ (List.mem_append_right _ (List.mem_append_right _ (List.mem_append_right _ (List.mem_append_left _ hh))))))))))) gd_c_give) rfl rfl rfl (by decide +kernel) ⟨Nat.le_of_ble_eq_true rfl, Nat.le_of_ble_eq_true rfl⟩) ⟨pw_blind, tw_recv hK hT (fx_2 hX) (by decide) cl_e12 rfl, pw_use hT hK hFc hS hM⟩ rfl rfl hl.1 rfl (lv_room (Nat.le_of_ble_eq_true rfl)) dX3_mayDo_98 ⟨Nat.le_of_ble_eq_true rfl, Nat.le_of_ble_eq_true rfl⟩) hS (fun q _ h => hFc q h) hFc (fun r0 r_13 t H locs ht hvm hw hB hz1 hk1 hS => ?_)
    refine W.widen (k := 0) (n := 0) (Nat.le_of_ble_eq_true rfl) (Nat.le_of_ble_eq_true rfl) ?_
    clear hvm hz1 hk1
    subst hw
    obtain ⟨y_14, hgy_14, hT⟩ := hB
    rw [ht] at hT
    have hG := hG.tr hgy_14 (by decide)
    have hI := hI.ag hgy_14 (by decide)
    refine lv_if_eq (tgt := 108) hx hb dX3_mayDo_101 (by decide) (fun c_15 => ?_) (fun c_15 => ?_)
    · have nc_15 := z_eq rfl (zk (x := 0) 0 rfl) c_15
      refine lv_iconst (v := 0) hx hb dX3_mayDo_108 (by decide) ?_
      exact W.zret (v := 0) hx hb hr (by decide) (fun t ht hW9 => ⟨⟨0, 0, rfl, rfl, Or.inr (⟨y_14, rfl, hG, tw_at ht hT⟩)⟩, hS.F ht⟩) hS.2.2 dX3_mayDo_109
    · have nc_15 := z_ne rfl (zk (x := 0) 0 rfl) c_15
      refine lv_iconst (v := 1) hx hb dX3_mayDo_104 (by decide) ?_
      refine lv_goto (tgt := 109) hx hb dX3_mayDo_105 (by decide) ?_
      exact W.zret (v := 1) hx hb hr (by decide) (fun t ht hW9 => ⟨⟨1, 1, rfl, rfl, Or.inl ⟨y_14, rfl, hG, tw_at ht hT⟩⟩, hS.F ht⟩) hS.2.2 dX3_mayDo_109
  · have nc_5 := z_eq rfl (zk (x := 0) 0 rfl) c_5
    refine lv_iconst (v := 0) hx hb dX3_mayDo_38 (by decide) ?_
    exact W.zret (v := 0) hx hb hr (by decide) (fun t ht hW9 => ⟨⟨0, 0, rfl, rfl, Or.inr (⟨y, rfl, hG, tw_at ht hT⟩)⟩, hS.F ht⟩) hS.2.2 dX3_mayDo_39
def wo_c_hasteR : List Cond := [.fieldLink RX3 43 "TypingPool$Floor" "book" "LTypingPool$Book;", .fieldLink RX3 103 "TypingPool$Book" "pieces" "[LTypingPool$Piece;", .fieldLink RX3 47 "TypingPool$Floor" "rules" "LTypingPool$Rules;", .fieldLink RX3 155 "TypingPool$Rules" "letters" "[I", .fieldLink RX3 181 "TypingPool$Piece" "claim" "I", .fieldLink RX3 9 "TypingPool$Floor" "now" "I", .fieldLink RX3 184 "TypingPool$Piece" "comes" "I", .fieldLink RX3 187 "TypingPool$Piece" "lines" "I", .fieldLink RX3 190 "TypingPool$Piece" "due" "I", .fieldLink RX3 160 "TypingPool$Piece" "secret" "I", .fieldLink RX3 166 "TypingPool$Piece" "department" "I", .fieldLink RX3 22 "TypingPool$Floor" "words" "[I", .methodLink RX3 107 yX6_unknownTo, .instanceMethod yX6_unknownTo, .selects RX6 yX6_unknownTo yX6_unknownTo, .initialized RX6, .methodLink RX3 193 yX3_waitingIn, .instanceMethod yX3_waitingIn, .selects RX3 yX3_waitingIn yX3_waitingIn, .initialized RX3, .methodLink RX3 169 yX3_today, .instanceMethod yX3_today, .selects RX3 yX3_today yX3_today, .methodLink RX3 173 yX10_holding, .instanceMethod yX10_holding, .selects RX10 yX10_holding yX10_holding, .initialized RX10, .methodLink RX3 177 yX10_give, .instanceMethod yX10_give, .selects RX10 yX10_give yX10_give]
def wm_c_hasteR : List Cond := .code yX3_haste cX3_haste 6 (some .int) :: (wo_c_hasteR ++ (wsX30 ++ (wsX10 ++ (wsX100 ++ (wsX60 ++ (wm_c_unknownTo ++ (wm_c_waitingIn ++ (wm_c_today ++ (wm_c_holdingR ++ (wm_c_give ++ ([] : List Cond)))))))))))
theorem gd_c_hasteR : ∀ w ∈ wm_c_hasteR, goodWord w = true := gd_c rfl (gd_a (by decide) (gd_a gd_wsX30 (gd_a gd_wsX10 (gd_a gd_wsX100 (gd_a gd_wsX60 (gd_a gd_c_unknownTo (gd_a gd_c_waitingIn (gd_a gd_c_today (gd_a gd_c_holdingR (gd_a gd_c_give gd_nil))))))))))
set_option maxRecDepth 20000 in
theorem im_c_hasteR : ∀ w ∈ wm_c_hasteR, w ∈ lw_tbl := im_c (in_r [.code yX3_haste cX3_haste 6 (some .int)] [800] (by decide +kernel)) (in_app (in_r wo_c_hasteR [426, 130, 427, 403, 678, 428, 681, 673, 684, 676, 667, 437, 801, 802, 803, 89, 811, 813, 11, 83, 775, 776, 777, 779, 780, 781, 72, 783, 784, 785] (by decide +kernel)) (in_app im_wsX30 (in_app im_wsX10 (in_app im_wsX100 (in_app im_wsX60 (in_app im_c_unknownTo (in_app im_c_waitingIn (in_app im_c_today (in_app im_c_holdingR (in_app im_c_give im_nil))))))))))
set_option maxHeartbeats 4000000 in
set_option maxRecDepth 100000 in
theorem c_hasteR (l : Launch) (dC : Nat → ClassId) (dI : Nat → Nat → Nat) (ad av : Nat → Nat) (sz : Nat) (a : Nat → Nat) (k : Nat → ClassId) (τ ln : Nat → Nat) (y : Nat → Nat → Int32) (g : Nat → Nat → Option Nat) (u : Nat → Int) (p0 : Int32) (p1 : Int32) (b0 : Nat) (hI : IC a u τ ln y g) (h_b0 : τ b0 = 5) (hlp0 : 0 ≤ p0.toInt) (hup0 : p0.toInt < u 1) (hlp1 : 0 ≤ p1.toInt) (hup1 : p1.toInt < u 2) : Met l yX3_haste wm_c_hasteR ({ frames := 3, cells := 0, slots := 0, locals := 180 }) (pw_ ad av (dC, dI) sz [.ref (a 3), .int p0, .int p1, .ref b0] a k τ ln y g) (va_Qi (fun (r u : Int32) => u = r) (fun (r : Int32) (t : State) => (∃ (y' : Nat → Nat → Int32), ag τ [24, 27] y y' ∧ tw (dC, dI) a k τ ln y' g t.heap)) (fr τ sz)) 0 0 (fr τ sz) := by
  refine Met.ofW (cc := cX3_haste) (maxL := 6) (ret := (some .int)) (by decide) rfl ?_
  intro p e s m args below meth c s₁ B hml hv
  obtain ⟨rfl, hsz, hT, hK, hM⟩ := hv
  have hx := B.exec
  have hb := B.bytes
  have hr := B.returns
  have hts := atoms_spec (ws := wm_c_hasteR) B.pre
  have hown : s.vm.findClass RX3 = some m.cls := findClass_of_methodNamed B.named
  have hlocks := B.notSynchronized
  subst hsz
  generalize hAe : fr τ s.heap.size = A at hM ⊢
  have hA : ∀ q : Nat, s.heap.size ≤ q → A q := fun q h => by rw [← hAe]; exact Or.inr h
  have hF : ∀ q, τ q ≠ 0 → A q := fun q h => by rw [← hAe]; exact Or.inl h
  have hS : va_S A s.heap s.heap [] := va_S.rf
  have hX := hI.1
  have hR := ic_r hI
  have hG : ag τ [24, 27] y y := ag.rf
  have hl := lv_entry ([.ref (a 3), .int p0, .int p1, .ref b0]) (n := 6) (Nat.le_of_ble_eq_true rfl)
  rw [lg_entry_eq]
  generalize (lg_sl ([.ref (a 3), .int p0, .int p1, .ref b0]) ++ List.replicate (6 - (lg_sl ([.ref (a 3), .int p0, .int p1, .ref b0])).length) Slot.unset).toArray = ls at hl ⊢
  have hl : lv_has ls 6 [(0, .ref (a 3)), (1, .int p0), (2, .int p1), (3, .ref b0)] := hl
  refine lv_aload_n hx hb dX3_haste_0 rfl (lv_at hl 0 rfl) ?_
  refine tw_get (D := (dC, dI)) (v := .ref (a 1)) (C := RX3) (T := TX3) (N := 12) hx hb hts (fun _ hh => (List.mem_cons_of_mem _ (List.mem_append_right _ (List.mem_append_left _ hh)))) hown hK hT (fx_3 hX) (by decide) cl_e13 rfl 0 (by decide) (hts (.fieldLink RX3 43 "TypingPool$Floor" "book" "LTypingPool$Book;") (List.mem_cons_of_mem _ (List.mem_append_left _ (List.mem_of_getElem? (i := 0) rfl)))) (fun _ h9 => h9) rfl dX3_haste_1 ?_
  refine tw_get (D := (dC, dI)) (v := .ref (a 11)) (C := RX1) (T := TX1) (N := 8) hx hb hts (fun _ hh => (List.mem_cons_of_mem _ (List.mem_append_right _ (List.mem_append_right _ (List.mem_append_left _ hh))))) hown hK hT (fx_1 hX) (by decide) cl_e11 rfl 4 (by decide) (hts (.fieldLink RX3 103 "TypingPool$Book" "pieces" "[LTypingPool$Piece;") (List.mem_cons_of_mem _ (List.mem_append_left _ (List.mem_of_getElem? (i := 1) rfl)))) (fun _ h9 => h9) rfl dX3_haste_4 ?_
  refine lv_iload_n hx hb dX3_haste_7 rfl (lv_at hl 2 rfl) ?_
  refine tw_aald hx hb hK hT 4 (fx_11 hX) (by decide) cl_e21 rfl (z_in rfl (by omega) (by omega)) dX3_haste_8 ?_
  obtain ⟨q_1, hgq_1, htq_1⟩ := ic_l11 hI (x := p1) rfl (by omega) (by omega)
  refine lq_topr hgq_1 ?_
  refine lv_astore (lv' := [(4, .ref q_1), (0, .ref (a 3)), (1, .int p0), (2, .int p1), (3, .ref b0)]) hx hb dX3_haste_9 hl (by decide) rfl (fun ls hl => ?_)
  refine lv_aload_n hx hb dX3_haste_11 rfl (lv_at hl 1 rfl) ?_
  refine tw_get (D := (dC, dI)) (v := .ref (a 2)) (C := RX3) (T := TX3) (N := 12) hx hb hts (fun _ hh => (List.mem_cons_of_mem _ (List.mem_append_right _ (List.mem_append_left _ hh)))) hown hK hT (fx_3 hX) (by decide) cl_e13 rfl 1 (by decide) (hts (.fieldLink RX3 47 "TypingPool$Floor" "rules" "LTypingPool$Rules;") (List.mem_cons_of_mem _ (List.mem_append_left _ (List.mem_of_getElem? (i := 2) rfl)))) (fun _ h9 => h9) rfl dX3_haste_12 ?_
  refine tw_get (D := (dC, dI)) (v := .ref (a 14)) (C := RX10) (T := TX10) (N := 6) hx hb hts (fun _ hh => (List.mem_cons_of_mem _ (List.mem_append_right _ (List.mem_append_right _ (List.mem_append_right _ (List.mem_append_left _ hh)))))) hown hK hT (fx_2 hX) (by decide) cl_e12 rfl 2 (by decide) (hts (.fieldLink RX3 155 "TypingPool$Rules" "letters" "[I") (List.mem_cons_of_mem _ (List.mem_append_left _ (List.mem_of_getElem? (i := 3) rfl)))) (fun _ h9 => h9) rfl dX3_haste_15 ?_
  refine lv_astore (lv' := [(5, .ref (a 14)), (4, .ref q_1), (0, .ref (a 3)), (1, .int p0), (2, .int p1), (3, .ref b0)]) hx hb dX3_haste_18 hl (by decide) rfl (fun ls hl => ?_)
  refine lv_aload hx hb dX3_haste_20 (lv_at hl 0 rfl) ?_
  refine lv_iconst (v := 0) hx hb dX3_haste_22 (by decide) ?_
  refine lv_aload hx hb dX3_haste_23 (lv_at hl 1 rfl) ?_
  refine tw_get (D := (dC, dI)) (v := .int (y q_1 4)) (C := RX6) (T := TX6) (N := 11) hx hb hts (fun _ hh => (List.mem_cons_of_mem _ (List.mem_append_right _ (List.mem_append_right _ (List.mem_append_right _ (List.mem_append_right _ (List.mem_append_left _ hh))))))) hown hK hT htq_1 (by decide) cl_e2 rfl 4 (by decide) (hts (.fieldLink RX3 181 "TypingPool$Piece" "claim" "I") (List.mem_cons_of_mem _ (List.mem_append_left _ (List.mem_of_getElem? (i := 4) rfl)))) (fun _ h9 => h9) rfl dX3_haste_25 ?_
  refine tw_iast hx hb hK hT hF hS 0 (fx_14 hX) (by decide) (fun _ => cl_e24) rfl (z_in (zk (x := 0) 0 rfl) (by omega) (by omega)) dX3_haste_28 (fun H locs hT hS => ?_)
  obtain ⟨y_2, hy_2, hT⟩ : ∃ z : Nat → Nat → Int32, z = up2 y (a 14) ((0 : Int32).toNatClampNeg) (y q_1 4) ∧ tw (dC, dI) a k τ ln z g H := ⟨_, rfl, hT⟩
  have hG : ag τ [24, 27] y y_2 := by rw [hy_2]; exact hG.up (fx_14 hX) (by decide)
  have hI := hI.ag (S := [24]) (y' := y_2) (by rw [hy_2]; exact ag.one (fx_14 hX)) (by decide)
  refine lv_aload hx hb dX3_haste_29 (lv_at hl 0 rfl) ?_
  refine lv_iconst (v := 1) hx hb dX3_haste_31 (by decide) ?_
  refine lv_aload_n hx hb dX3_haste_32 rfl (lv_at hl 2 rfl) ?_
  refine tw_get (D := (dC, dI)) (v := .int (y_2 (a 3) 2)) (C := RX3) (T := TX3) (N := 12) hx hb hts (fun _ hh => (List.mem_cons_of_mem _ (List.mem_append_right _ (List.mem_append_left _ hh)))) hown hK hT (fx_3 hX) (by decide) cl_e13 rfl 2 (by decide) (hts (.fieldLink RX3 9 "TypingPool$Floor" "now" "I") (List.mem_cons_of_mem _ (List.mem_append_left _ (List.mem_of_getElem? (i := 5) rfl)))) (fun _ h9 => h9) rfl dX3_haste_33 ?_
  refine lv_aload hx hb dX3_haste_36 (lv_at hl 1 rfl) ?_
  refine tw_get (D := (dC, dI)) (v := .int (y_2 q_1 5)) (C := RX6) (T := TX6) (N := 11) hx hb hts (fun _ hh => (List.mem_cons_of_mem _ (List.mem_append_right _ (List.mem_append_right _ (List.mem_append_right _ (List.mem_append_right _ (List.mem_append_left _ hh))))))) hown hK hT htq_1 (by decide) cl_e2 rfl 5 (by decide) (hts (.fieldLink RX3 184 "TypingPool$Piece" "comes" "I") (List.mem_cons_of_mem _ (List.mem_append_left _ (List.mem_of_getElem? (i := 6) rfl)))) (fun _ h9 => h9) rfl dX3_haste_38 ?_
  refine lv_isub hx hb dX3_haste_41 ?_
  refine lv_topi (fun x_3 ex_3 => ?_)
  refine tw_iast hx hb hK hT hF hS 0 (fx_14 hX) (by decide) (fun _ => cl_e24) rfl (z_in (zk (x := 1) 1 rfl) (by omega) (by omega)) dX3_haste_42 (fun H locs hT hS => ?_)
  obtain ⟨y_4, hy_4, hT⟩ : ∃ z : Nat → Nat → Int32, z = up2 y_2 (a 14) ((1 : Int32).toNatClampNeg) x_3 ∧ tw (dC, dI) a k τ ln z g H := ⟨_, rfl, hT⟩
  have hG : ag τ [24, 27] y y_4 := by rw [hy_4]; exact hG.up (fx_14 hX) (by decide)
  have hI := hI.ag (S := [24]) (y' := y_4) (by rw [hy_4]; exact ag.one (fx_14 hX)) (by decide)
  refine lv_aload hx hb dX3_haste_43 (lv_at hl 0 rfl) ?_
  refine lv_iconst (v := 2) hx hb dX3_haste_45 (by decide) ?_
  refine lv_aload hx hb dX3_haste_46 (lv_at hl 1 rfl) ?_
  refine tw_get (D := (dC, dI)) (v := .int (y_4 q_1 2)) (C := RX6) (T := TX6) (N := 11) hx hb hts (fun _ hh => (List.mem_cons_of_mem _ (List.mem_append_right _ (List.mem_append_right _ (List.mem_append_right _ (List.mem_append_right _ (List.mem_append_left _ hh))))))) hown hK hT htq_1 (by decide) cl_e2 rfl 2 (by decide) (hts (.fieldLink RX3 187 "TypingPool$Piece" "lines" "I") (List.mem_cons_of_mem _ (List.mem_append_left _ (List.mem_of_getElem? (i := 7) rfl)))) (fun _ h9 => h9) rfl dX3_haste_48 ?_
  refine tw_iast hx hb hK hT hF hS 0 (fx_14 hX) (by decide) (fun _ => cl_e24) rfl (z_in (zk (x := 2) 2 rfl) (by omega) (by omega)) dX3_haste_51 (fun H locs hT hS => ?_)
  obtain ⟨y_5, hy_5, hT⟩ : ∃ z : Nat → Nat → Int32, z = up2 y_4 (a 14) ((2 : Int32).toNatClampNeg) (y_4 q_1 2) ∧ tw (dC, dI) a k τ ln z g H := ⟨_, rfl, hT⟩
  have hG : ag τ [24, 27] y y_5 := by rw [hy_5]; exact hG.up (fx_14 hX) (by decide)
  have hI := hI.ag (S := [24]) (y' := y_5) (by rw [hy_5]; exact ag.one (fx_14 hX)) (by decide)
  refine lv_aload hx hb dX3_haste_52 (lv_at hl 0 rfl) ?_
  refine lv_iconst (v := 3) hx hb dX3_haste_54 (by decide) ?_
  refine lv_aload hx hb dX3_haste_55 (lv_at hl 1 rfl) ?_
  refine tw_get (D := (dC, dI)) (v := .int (y_5 q_1 6)) (C := RX6) (T := TX6) (N := 11) hx hb hts (fun _ hh => (List.mem_cons_of_mem _ (List.mem_append_right _ (List.mem_append_right _ (List.mem_append_right _ (List.mem_append_right _ (List.mem_append_left _ hh))))))) hown hK hT htq_1 (by decide) cl_e2 rfl 6 (by decide) (hts (.fieldLink RX3 190 "TypingPool$Piece" "due" "I") (List.mem_cons_of_mem _ (List.mem_append_left _ (List.mem_of_getElem? (i := 8) rfl)))) (fun _ h9 => h9) rfl dX3_haste_57 ?_
  refine lv_aload_n hx hb dX3_haste_60 rfl (lv_at hl 2 rfl) ?_
  refine tw_get (D := (dC, dI)) (v := .int (y_5 (a 3) 2)) (C := RX3) (T := TX3) (N := 12) hx hb hts (fun _ hh => (List.mem_cons_of_mem _ (List.mem_append_right _ (List.mem_append_left _ hh)))) hown hK hT (fx_3 hX) (by decide) cl_e13 rfl 2 (by decide) (hts (.fieldLink RX3 9 "TypingPool$Floor" "now" "I") (List.mem_cons_of_mem _ (List.mem_append_left _ (List.mem_of_getElem? (i := 5) rfl)))) (fun _ h9 => h9) rfl dX3_haste_61 ?_
  refine lv_isub hx hb dX3_haste_64 ?_
  refine lv_topi (fun x_6 ex_6 => ?_)
  refine tw_iast hx hb hK hT hF hS 0 (fx_14 hX) (by decide) (fun _ => cl_e24) rfl (z_in (zk (x := 3) 3 rfl) (by omega) (by omega)) dX3_haste_65 (fun H locs hT hS => ?_)
  obtain ⟨y_7, hy_7, hT⟩ : ∃ z : Nat → Nat → Int32, z = up2 y_5 (a 14) ((3 : Int32).toNatClampNeg) x_6 ∧ tw (dC, dI) a k τ ln z g H := ⟨_, rfl, hT⟩
  have hG : ag τ [24, 27] y y_7 := by rw [hy_7]; exact hG.up (fx_14 hX) (by decide)
  have hI := hI.ag (S := [24]) (y' := y_7) (by rw [hy_7]; exact ag.one (fx_14 hX)) (by decide)
  refine lv_aload hx hb dX3_haste_66 (lv_at hl 0 rfl) ?_
  refine lv_iconst (v := 4) hx hb dX3_haste_68 (by decide) ?_
  refine lv_aload hx hb dX3_haste_69 (lv_at hl 1 rfl) ?_
  refine tw_get (D := (dC, dI)) (v := .int (y_7 q_1 3)) (C := RX6) (T := TX6) (N := 11) hx hb hts (fun _ hh => (List.mem_cons_of_mem _ (List.mem_append_right _ (List.mem_append_right _ (List.mem_append_right _ (List.mem_append_right _ (List.mem_append_left _ hh))))))) hown hK hT htq_1 (by decide) cl_e2 rfl 3 (by decide) (hts (.fieldLink RX3 160 "TypingPool$Piece" "secret" "I") (List.mem_cons_of_mem _ (List.mem_append_left _ (List.mem_of_getElem? (i := 9) rfl)))) (fun _ h9 => h9) rfl dX3_haste_71 ?_
  refine tw_iast hx hb hK hT hF hS 0 (fx_14 hX) (by decide) (fun _ => cl_e24) rfl (z_in (zk (x := 4) 4 rfl) (by omega) (by omega)) dX3_haste_74 (fun H locs hT hS => ?_)
  obtain ⟨y_8, hy_8, hT⟩ : ∃ z : Nat → Nat → Int32, z = up2 y_7 (a 14) ((4 : Int32).toNatClampNeg) (y_7 q_1 3) ∧ tw (dC, dI) a k τ ln z g H := ⟨_, rfl, hT⟩
  have hG : ag τ [24, 27] y y_8 := by rw [hy_8]; exact hG.up (fx_14 hX) (by decide)
  have hI := hI.ag (S := [24]) (y' := y_8) (by rw [hy_8]; exact ag.one (fx_14 hX)) (by decide)
  refine lv_aload hx hb dX3_haste_75 (lv_at hl 0 rfl) ?_
  refine lv_iconst (v := 5) hx hb dX3_haste_77 (by decide) ?_
  refine lv_aload hx hb dX3_haste_78 (lv_at hl 1 rfl) ?_
  refine tw_get (D := (dC, dI)) (v := .int (y_8 q_1 0)) (C := RX6) (T := TX6) (N := 11) hx hb hts (fun _ hh => (List.mem_cons_of_mem _ (List.mem_append_right _ (List.mem_append_right _ (List.mem_append_right _ (List.mem_append_right _ (List.mem_append_left _ hh))))))) hown hK hT htq_1 (by decide) cl_e2 rfl 0 (by decide) (hts (.fieldLink RX3 166 "TypingPool$Piece" "department" "I") (List.mem_cons_of_mem _ (List.mem_append_left _ (List.mem_of_getElem? (i := 10) rfl)))) (fun _ h9 => h9) rfl dX3_haste_80 ?_
  refine tw_iast hx hb hK hT hF hS 0 (fx_14 hX) (by decide) (fun _ => cl_e24) rfl (z_in (zk (x := 5) 5 rfl) (by omega) (by omega)) dX3_haste_83 (fun H locs hT hS => ?_)
  obtain ⟨y_9, hy_9, hT⟩ : ∃ z : Nat → Nat → Int32, z = up2 y_8 (a 14) ((5 : Int32).toNatClampNeg) (y_8 q_1 0) ∧ tw (dC, dI) a k τ ln z g H := ⟨_, rfl, hT⟩
  have hG : ag τ [24, 27] y y_9 := by rw [hy_9]; exact hG.up (fx_14 hX) (by decide)
  have hI := hI.ag (S := [24]) (y' := y_9) (by rw [hy_9]; exact ag.one (fx_14 hX)) (by decide)
  refine lv_aload hx hb dX3_haste_84 (lv_at hl 0 rfl) ?_
  refine lv_bipush (v := 6) hx hb dX3_haste_86 (by decide) ?_
  refine lv_aload hx hb dX3_haste_88 (lv_at hl 1 rfl) ?_
  refine lv_aload_n hx hb dX3_haste_90 rfl (lv_at hl 2 rfl) ?_
  refine tw_get (D := (dC, dI)) (v := .ref (a 22)) (C := RX3) (T := TX3) (N := 12) hx hb hts (fun _ hh => (List.mem_cons_of_mem _ (List.mem_append_right _ (List.mem_append_left _ hh)))) hown hK hT (fx_3 hX) (by decide) cl_e13 rfl 5 (by decide) (hts (.fieldLink RX3 22 "TypingPool$Floor" "words" "[I") (List.mem_cons_of_mem _ (List.mem_append_left _ (List.mem_of_getElem? (i := 11) rfl)))) (fun _ h9 => h9) rfl dX3_haste_91 ?_
  refine lv_iload_n hx hb dX3_haste_94 rfl (lv_at hl 3 rfl) ?_
  refine tw_iald hx hb hK hT 0 (fx_22 hX) (by decide) cl_e32 rfl (z_in rfl (by omega) (by omega)) dX3_haste_95 ?_
  have hFc := tw_free hF hS hA
  refine va_calli (va_runV (As := [.int (y_9 (a 22) p0.toNatClampNeg)]) (rest := [.int 6, .ref (a 14)]) ⟨hx, hb, hml, hown, hts⟩ (c_unknownTo l dC dI ad av H.size a k τ ln y_9 g u q_1 (y_9 (a 22) p0.toNatClampNeg) hI htq_1) (cwV 1 hts (gi_4 (List.mem_cons_of_mem _ (List.mem_append_left _ (List.mem_of_getElem? (i := 12) rfl))) (List.mem_cons_of_mem _ (List.mem_append_left _ (List.mem_of_getElem? (i := 13) rfl))) (List.mem_cons_of_mem _ (List.mem_append_left _ (List.mem_of_getElem? (i := 14) rfl))) (List.mem_cons_of_mem _ (List.mem_append_left _ (List.mem_of_getElem? (i := 15) rfl))) (fun _ hh => (List.mem_cons_of_mem _ (List.mem_append_right _ (List.mem_append_right _ (List.mem_append_right _ (List.mem_append_right _ (List.mem_append_right _ (List.mem_append_left _ hh)))))))) gd_c_unknownTo) rfl rfl rfl (by decide +kernel) ⟨Nat.le_of_ble_eq_true rfl, Nat.le_of_ble_eq_true rfl⟩) ⟨pw_blind, tw_recv hK hT htq_1 (by decide) cl_e2 rfl, pw_use hT hK hFc hS hM⟩ rfl rfl hl.1 rfl (lv_room (Nat.le_of_ble_eq_true rfl)) dX3_haste_96 ⟨Nat.le_of_ble_eq_true rfl, Nat.le_of_ble_eq_true rfl⟩) hS (fun q _ h => hFc q h) hFc (fun r0 r_10 t H locs ht hvm hw hB hz1 hk1 hS => ?_)
  refine W.widen (k := 0) (n := 0) (Nat.le_of_ble_eq_true rfl) (Nat.le_of_ble_eq_true rfl) ?_
  clear hvm hz1 hk1
  subst hw
  obtain ⟨hf_11, hf_12, hT⟩ := hB
  rw [ht] at hT
  refine tw_iast hx hb hK hT hF hS 0 (fx_14 hX) (by decide) (fun _ => cl_e24) rfl (z_in (zk (x := 6) 6 rfl) (by omega) (by omega)) dX3_haste_99 (fun H locs hT hS => ?_)
  obtain ⟨y_13, hy_13, hT⟩ : ∃ z : Nat → Nat → Int32, z = up2 y_9 (a 14) ((6 : Int32).toNatClampNeg) r_10 ∧ tw (dC, dI) a k τ ln z g H := ⟨_, rfl, hT⟩
  have hG : ag τ [24, 27] y y_13 := by rw [hy_13]; exact hG.up (fx_14 hX) (by decide)
  have hI := hI.ag (S := [24]) (y' := y_13) (by rw [hy_13]; exact ag.one (fx_14 hX)) (by decide)
  refine lv_aload hx hb dX3_haste_100 (lv_at hl 0 rfl) ?_
  refine lv_bipush (v := 7) hx hb dX3_haste_102 (by decide) ?_
  refine lv_aload_n hx hb dX3_haste_104 rfl (lv_at hl 2 rfl) ?_
  refine lv_aload hx hb dX3_haste_105 (lv_at hl 1 rfl) ?_
  refine tw_get (D := (dC, dI)) (v := .int (y_13 q_1 0)) (C := RX6) (T := TX6) (N := 11) hx hb hts (fun _ hh => (List.mem_cons_of_mem _ (List.mem_append_right _ (List.mem_append_right _ (List.mem_append_right _ (List.mem_append_right _ (List.mem_append_left _ hh))))))) hown hK hT htq_1 (by decide) cl_e2 rfl 0 (by decide) (hts (.fieldLink RX3 166 "TypingPool$Piece" "department" "I") (List.mem_cons_of_mem _ (List.mem_append_left _ (List.mem_of_getElem? (i := 10) rfl)))) (fun _ h9 => h9) rfl dX3_haste_107 ?_
  have hFc := tw_free hF hS hA
  refine va_calli (va_runV (As := [.int (y_13 q_1 0)]) (rest := [.int 7, .ref (a 14)]) ⟨hx, hb, hml, hown, hts⟩ (c_waitingIn l dC dI ad av H.size a k τ ln y_13 g u (y_13 q_1 0) hI ) (cwV 1 hts (gi_4 (List.mem_cons_of_mem _ (List.mem_append_left _ (List.mem_of_getElem? (i := 16) rfl))) (List.mem_cons_of_mem _ (List.mem_append_left _ (List.mem_of_getElem? (i := 17) rfl))) (List.mem_cons_of_mem _ (List.mem_append_left _ (List.mem_of_getElem? (i := 18) rfl))) (List.mem_cons_of_mem _ (List.mem_append_left _ (List.mem_of_getElem? (i := 19) rfl))) (fun _ hh => (List.mem_cons_of_mem _ (List.mem_append_right _ (List.mem_append_right _ (List.mem_append_right _ (List.mem_append_right _ (List.mem_append_right _ (List.mem_append_right _ (List.mem_append_left _ hh))))))))) gd_c_waitingIn) rfl rfl rfl (by decide +kernel) ⟨Nat.le_of_ble_eq_true rfl, Nat.le_of_ble_eq_true rfl⟩) ⟨pw_blind, tw_recv hK hT (fx_3 hX) (by decide) cl_e13 rfl, pw_use hT hK hFc hS hM⟩ rfl rfl hl.1 rfl (lv_room (Nat.le_of_ble_eq_true rfl)) dX3_haste_110 ⟨Nat.le_of_ble_eq_true rfl, Nat.le_of_ble_eq_true rfl⟩) hS (fun q _ h => hFc q h) hFc (fun r0 r_14 t H locs ht hvm hw hB hz1 hk1 hS => ?_)
  refine W.widen (k := 0) (n := 0) (Nat.le_of_ble_eq_true rfl) (Nat.le_of_ble_eq_true rfl) ?_
  clear hvm hz1 hk1
  subst hw
  have hT := hB
  rw [ht] at hT
  refine tw_iast hx hb hK hT hF hS 0 (fx_14 hX) (by decide) (fun _ => cl_e24) rfl (z_in (zk (x := 7) 7 rfl) (by omega) (by omega)) dX3_haste_113 (fun H locs hT hS => ?_)
  obtain ⟨y_15, hy_15, hT⟩ : ∃ z : Nat → Nat → Int32, z = up2 y_13 (a 14) ((7 : Int32).toNatClampNeg) r_14 ∧ tw (dC, dI) a k τ ln z g H := ⟨_, rfl, hT⟩
  have hG : ag τ [24, 27] y y_15 := by rw [hy_15]; exact hG.up (fx_14 hX) (by decide)
  have hI := hI.ag (S := [24]) (y' := y_15) (by rw [hy_15]; exact ag.one (fx_14 hX)) (by decide)
  refine lv_aload_n hx hb dX3_haste_114 rfl (lv_at hl 2 rfl) ?_
  refine tw_get (D := (dC, dI)) (v := .ref (a 2)) (C := RX3) (T := TX3) (N := 12) hx hb hts (fun _ hh => (List.mem_cons_of_mem _ (List.mem_append_right _ (List.mem_append_left _ hh)))) hown hK hT (fx_3 hX) (by decide) cl_e13 rfl 1 (by decide) (hts (.fieldLink RX3 47 "TypingPool$Floor" "rules" "LTypingPool$Rules;") (List.mem_cons_of_mem _ (List.mem_append_left _ (List.mem_of_getElem? (i := 2) rfl)))) (fun _ h9 => h9) rfl dX3_haste_115 ?_
  refine lv_aload_n hx hb dX3_haste_118 rfl (lv_at hl 2 rfl) ?_
  refine tw_get (D := (dC, dI)) (v := .ref (a 2)) (C := RX3) (T := TX3) (N := 12) hx hb hts (fun _ hh => (List.mem_cons_of_mem _ (List.mem_append_right _ (List.mem_append_left _ hh)))) hown hK hT (fx_3 hX) (by decide) cl_e13 rfl 1 (by decide) (hts (.fieldLink RX3 47 "TypingPool$Floor" "rules" "LTypingPool$Rules;") (List.mem_cons_of_mem _ (List.mem_append_left _ (List.mem_of_getElem? (i := 2) rfl)))) (fun _ h9 => h9) rfl dX3_haste_119 ?_
  refine lv_iconst (v := 0) hx hb dX3_haste_122 (by decide) ?_
  refine lv_aload_n hx hb dX3_haste_123 rfl (lv_at hl 2 rfl) ?_
  have hFc := tw_free hF hS hA
  refine va_calli (va_runV (As := []) (rest := [.int 0, .ref (a 2), .ref (a 2)]) ⟨hx, hb, hml, hown, hts⟩ (c_today l dC dI ad av H.size a k τ ln y_15 g u  hI ) (cwV 0 hts (gi_4 (List.mem_cons_of_mem _ (List.mem_append_left _ (List.mem_of_getElem? (i := 20) rfl))) (List.mem_cons_of_mem _ (List.mem_append_left _ (List.mem_of_getElem? (i := 21) rfl))) (List.mem_cons_of_mem _ (List.mem_append_left _ (List.mem_of_getElem? (i := 22) rfl))) (List.mem_cons_of_mem _ (List.mem_append_left _ (List.mem_of_getElem? (i := 19) rfl))) (fun _ hh => (List.mem_cons_of_mem _ (List.mem_append_right _ (List.mem_append_right _ (List.mem_append_right _ (List.mem_append_right _ (List.mem_append_right _ (List.mem_append_right _ (List.mem_append_right _ (List.mem_append_left _ hh)))))))))) gd_c_today) rfl rfl rfl (by decide +kernel) ⟨Nat.le_of_ble_eq_true rfl, Nat.le_of_ble_eq_true rfl⟩) ⟨pw_blind, tw_recv hK hT (fx_3 hX) (by decide) cl_e13 rfl, pw_use hT hK hFc hS hM⟩ rfl rfl hl.1 rfl (lv_room (Nat.le_of_ble_eq_true rfl)) dX3_haste_124 ⟨Nat.le_of_ble_eq_true rfl, Nat.le_of_ble_eq_true rfl⟩) hS (fun q _ h => hFc q h) hFc (fun r0 r_16 t H locs ht hvm hw hB hz1 hk1 hS => ?_)
  refine W.widen (k := 0) (n := 0) (Nat.le_of_ble_eq_true rfl) (Nat.le_of_ble_eq_true rfl) ?_
  clear hvm hz1 hk1
  subst hw
  have hT := hB
  rw [ht] at hT
  refine lv_aload_n hx hb dX3_haste_127 rfl (lv_at hl 5 rfl) ?_
  have hFc := tw_free hF hS hA
  have hp_17 : (0 : Int32).toInt = 0 := (zk (x := 0) 0 rfl)
  refine va_callr (va_runV (As := [.int 0, .int r_16, .ref b0]) (rest := [.ref (a 2)]) ⟨hx, hb, hml, hown, hts⟩ (c_holdingR l dC dI ad av H.size a k τ ln y_15 g u (0 : Int32) r_16 b0 hI h_b0 (by decide) (by decide)) (cwV 3 hts (gi_4 (List.mem_cons_of_mem _ (List.mem_append_left _ (List.mem_of_getElem? (i := 23) rfl))) (List.mem_cons_of_mem _ (List.mem_append_left _ (List.mem_of_getElem? (i := 24) rfl))) (List.mem_cons_of_mem _ (List.mem_append_left _ (List.mem_of_getElem? (i := 25) rfl))) (List.mem_cons_of_mem _ (List.mem_append_left _ (List.mem_of_getElem? (i := 26) rfl))) (fun _ hh => (List.mem_cons_of_mem _ (List.mem_append_right _ (List.mem_append_right _ (List.mem_append_right _ (List.mem_append_right _ (List.mem_append_right _ (List.mem_append_right _ (List.mem_append_right _ (List.mem_append_right _ (List.mem_append_left _ hh))))))))))) gd_c_holdingR) rfl rfl rfl (by decide +kernel) ⟨Nat.le_of_ble_eq_true rfl, Nat.le_of_ble_eq_true rfl⟩) ⟨pw_blind, tw_recv hK hT (fx_2 hX) (by decide) cl_e12 rfl, pw_use hT hK hFc hS hM⟩ rfl rfl hl.1 rfl (lv_room (Nat.le_of_ble_eq_true rfl)) dX3_haste_128 ⟨Nat.le_of_ble_eq_true rfl, Nat.le_of_ble_eq_true rfl⟩) hS (fun q _ h => hFc q h) hFc (fun u0 r_18 t H locs ht hvm hw hB hz1 hk1 hS => ?_)
  refine W.widen (k := 0) (n := 0) (Nat.le_of_ble_eq_true rfl) (Nat.le_of_ble_eq_true rfl) ?_
  clear hvm hz1 hk1
  obtain ⟨htr_18, hT⟩ := hB
  rw [ht] at hT
  clear hp_17
  have hFc := tw_free hF hS hA
  refine va_calli (va_runV (As := [.ref r_18]) (rest := []) ⟨hx, hb, hml, hown, hts⟩ (c_give l dC dI ad av H.size a k τ ln y_15 g u r_18 hI htr_18) (cwV 1 hts (gi_4 (List.mem_cons_of_mem _ (List.mem_append_left _ (List.mem_of_getElem? (i := 27) rfl))) (List.mem_cons_of_mem _ (List.mem_append_left _ (List.mem_of_getElem? (i := 28) rfl))) (List.mem_cons_of_mem _ (List.mem_append_left _ (List.mem_of_getElem? (i := 29) rfl))) (List.mem_cons_of_mem _ (List.mem_append_left _ (List.mem_of_getElem? (i := 26) rfl))) (fun _ hh => (List.mem_cons_of_mem _ (List.mem_append_right _ (List.mem_append_right _ (List.mem_append_right _ (List.mem_append_right _ (List.mem_append_right _ (List.mem_append_right _ (List.mem_append_right _ (List.mem_append_right _ (List.mem_append_right _ (List.mem_append_left _ hh)))))))))))) gd_c_give) rfl rfl rfl (by decide +kernel) ⟨Nat.le_of_ble_eq_true rfl, Nat.le_of_ble_eq_true rfl⟩) ⟨pw_blind, tw_recv hK hT (fx_2 hX) (by decide) cl_e12 rfl, pw_use hT hK hFc hS hM⟩ rfl rfl hl.1 rfl (lv_room (Nat.le_of_ble_eq_true rfl)) dX3_haste_131 ⟨Nat.le_of_ble_eq_true rfl, Nat.le_of_ble_eq_true rfl⟩) hS (fun q _ h => hFc q h) hFc (fun r0 r_19 t H locs ht hvm hw hB hz1 hk1 hS => ?_)
  refine W.widen (k := 0) (n := 0) (Nat.le_of_ble_eq_true rfl) (Nat.le_of_ble_eq_true rfl) ?_
  clear hvm hz1 hk1
  subst hw
  obtain ⟨y_20, hgy_20, hT⟩ := hB
  rw [ht] at hT
  have hG := hG.tr hgy_20 (by decide)
  have hI := hI.ag hgy_20 (by decide)
  exact W.iret (v := r_19) hx hb hr (fun t ht hW9 => ⟨⟨r_19, r_19, rfl, rfl, ⟨y_20, hG, tw_at ht hT⟩⟩, hS.F ht⟩) hS.2.2 dX3_haste_134
def wo_c_firstForR : List Cond := [.fieldLink RX3 43 "TypingPool$Floor" "book" "LTypingPool$Book;", .fieldLink RX3 85 "TypingPool$Book" "pieceCount" "I", .methodLink RX3 88 yX3_stateOf, .instanceMethod yX3_stateOf, .selects RX3 yX3_stateOf yX3_stateOf, .initialized RX3, .methodLink RX3 91 yX3_mayDo, .instanceMethod yX3_mayDo, .selects RX3 yX3_mayDo yX3_mayDo, .methodLink RX3 95 yX3_haste, .instanceMethod yX3_haste, .selects RX3 yX3_haste yX3_haste]
def wm_c_firstForR : List Cond := .code yX3_firstFor cX3_firstFor 7 (some .int) :: (wo_c_firstForR ++ (wsX30 ++ (wsX10 ++ (wm_c_stateOf ++ (wm_c_mayDoR ++ (wm_c_hasteR ++ ([] : List Cond)))))))
theorem gd_c_firstForR : ∀ w ∈ wm_c_firstForR, goodWord w = true := gd_c rfl (gd_a (by decide) (gd_a gd_wsX30 (gd_a gd_wsX10 (gd_a gd_c_stateOf (gd_a gd_c_mayDoR (gd_a gd_c_hasteR gd_nil))))))
set_option maxRecDepth 20000 in
theorem im_c_firstForR : ∀ w ∈ wm_c_firstForR, w ∈ lw_tbl := im_c (in_r [.code yX3_firstFor cX3_firstFor 7 (some .int)] [766] (by decide +kernel)) (in_app (in_r wo_c_firstForR [426, 134, 767, 768, 769, 83, 771, 772, 773, 797, 798, 799] (by decide +kernel)) (in_app im_wsX30 (in_app im_wsX10 (in_app im_c_stateOf (in_app im_c_mayDoR (in_app im_c_hasteR im_nil))))))
set_option maxHeartbeats 4000000 in
set_option maxRecDepth 100000 in
theorem c_firstForR (l : Launch) (dC : Nat → ClassId) (dI : Nat → Nat → Nat) (ad av : Nat → Nat) (sz : Nat) (a : Nat → Nat) (k : Nat → ClassId) (τ ln : Nat → Nat) (y : Nat → Nat → Int32) (g : Nat → Nat → Option Nat) (u : Nat → Int) (p0 : Int32) (b0 : Nat) (hI : IC a u τ ln y g) (h_b0 : τ b0 = 5) (hlp0 : 0 ≤ p0.toInt) (hup0 : p0.toInt < u 1) : Met l yX3_firstFor wm_c_firstForR ({ frames := 4, cells := 0, slots := 0, locals := 240 }) (pw_ ad av (dC, dI) sz [.ref (a 3), .int p0, .ref b0] a k τ ln y g) (va_Qi (fun (r u : Int32) => u = r) (fun (r : Int32) (t : State) => (∃ (y' : Nat → Nat → Int32), ag τ [24, 27] y y' ∧ (r.toInt = -1 ∨ (0 ≤ r.toInt ∧ r.toInt < u 2)) ∧ tw (dC, dI) a k τ ln y' g t.heap)) (fr τ sz)) 0 0 (fr τ sz) := by
  refine Met.ofW (cc := cX3_firstFor) (maxL := 7) (ret := (some .int)) (by decide) rfl ?_
  intro p e s m args below meth c s₁ B hml hv
  obtain ⟨rfl, hsz, hT, hK, hM⟩ := hv
  have hx := B.exec
  have hb := B.bytes
  have hr := B.returns
  have hts := atoms_spec (ws := wm_c_firstForR) B.pre
  have hown : s.vm.findClass RX3 = some m.cls := findClass_of_methodNamed B.named
  have hlocks := B.notSynchronized
  subst hsz
  generalize hAe : fr τ s.heap.size = A at hM ⊢
  have hA : ∀ q : Nat, s.heap.size ≤ q → A q := fun q h => by rw [← hAe]; exact Or.inr h
  have hF : ∀ q, τ q ≠ 0 → A q := fun q h => by rw [← hAe]; exact Or.inl h
  have hS : va_S A s.heap s.heap [] := va_S.rf
  have hX := hI.1
  have hR := ic_r hI
  have hG : ag τ [24, 27] y y := ag.rf
  have hl := lv_entry ([.ref (a 3), .int p0, .ref b0]) (n := 7) (Nat.le_of_ble_eq_true rfl)
  rw [lg_entry_eq]
  generalize (lg_sl ([.ref (a 3), .int p0, .ref b0]) ++ List.replicate (7 - (lg_sl ([.ref (a 3), .int p0, .ref b0])).length) Slot.unset).toArray = ls at hl ⊢
  have hl : lv_has ls 7 [(0, .ref (a 3)), (1, .int p0), (2, .ref b0)] := hl
  refine lv_iconst (v := (-1)) hx hb dX3_firstFor_0 (by decide) ?_
  refine lv_istore_n (lv' := [(3, .int (-1)), (0, .ref (a 3)), (1, .int p0), (2, .ref b0)]) hx hb dX3_firstFor_1 rfl hl (by decide) rfl (fun ls hl => ?_)
  refine lv_iconst (v := 0) hx hb dX3_firstFor_2 (by decide) ?_
  refine lv_istore (lv' := [(4, .int 0), (3, .int (-1)), (0, .ref (a 3)), (1, .int p0), (2, .ref b0)]) hx hb dX3_firstFor_3 hl (by decide) rfl (fun ls hl => ?_)
  refine lv_iconst (v := 0) hx hb dX3_firstFor_5 (by decide) ?_
  refine lv_istore (lv' := [(5, .int 0), (4, .int 0), (3, .int (-1)), (0, .ref (a 3)), (1, .int p0), (2, .ref b0)]) hx hb dX3_firstFor_6 hl (by decide) rfl (fun ls hl => ?_)
  have loop_8 : ∀ (n : Nat) (i3 : Int32) (w4 : Int32) (i5 : Int32) (y_L8 : Nat → Nat → Int32) (H : Heap) (locs : List Loc) (ls : Array Slot), (u 2 - i5.toInt).toNat < n → ag τ [24, 27] y y_L8 → IC a u τ ln y_L8 g → 0 ≤ i5.toInt → i5.toInt ≤ u 2 → i3.toInt = -1 ∨ (0 ≤ i3.toInt ∧ i3.toInt < u 2) → tw (dC, dI) a k τ ln y_L8 g H → va_S A s.heap H locs → lv_has ls 7 [(0, .ref (a 3)), (1, .int p0), (2, .ref b0), (3, .int i3), (4, .int w4), (5, .int i5)] → W p l e (headSpec wm_c_firstForR ({ frames := 4, cells := 0, slots := 0, locals := 240 })).room s m ([.ref (a 3), .int p0, .ref b0] : List Value).toArray below meth c H locs 0 0 (MQ below (va_Qi (fun (r u : Int32) => u = r) (fun (r : Int32) (t : State) => (∃ (y' : Nat → Nat → Int32), ag τ [24, 27] y y' ∧ (r.toInt = -1 ∨ (0 ≤ r.toInt ∧ r.toInt < u 2)) ∧ tw (dC, dI) a k τ ln y' g t.heap)) A) ([.ref (a 3), .int p0, .ref b0] : List Value).toArray s 0 0 A) (F0 m 8 ls []) := by
    intro n
    induction n with
    | zero => intro i3 w4 i5 y_L8 H locs ls hlt; exact absurd hlt (Nat.not_lt_zero _)
    | succ n ih_8 =>
      intro i3 w4 i5 y_L8 H locs ls hlt hG hI hi8_0 hi8_1 hi8_2 hT hS hl
      refine lv_iload hx hb dX3_firstFor_8 (lv_at hl 5 rfl) ?_
      refine lv_aload_n hx hb dX3_firstFor_10 rfl (lv_at hl 0 rfl) ?_
      refine tw_get (D := (dC, dI)) (v := .ref (a 1)) (C := RX3) (T := TX3) (N := 12) hx hb hts (fun _ hh => (List.mem_cons_of_mem _ (List.mem_append_right _ (List.mem_append_left _ hh)))) hown hK hT (fx_3 hX) (by decide) cl_e13 rfl 0 (by decide) (hts (.fieldLink RX3 43 "TypingPool$Floor" "book" "LTypingPool$Book;") (List.mem_cons_of_mem _ (List.mem_append_left _ (List.mem_of_getElem? (i := 0) rfl)))) (fun _ h9 => h9) rfl dX3_firstFor_11 ?_
      refine tw_get (D := (dC, dI)) (v := .int (y_L8 (a 1) 5)) (C := RX1) (T := TX1) (N := 8) hx hb hts (fun _ hh => (List.mem_cons_of_mem _ (List.mem_append_right _ (List.mem_append_right _ (List.mem_append_left _ hh))))) hown hK hT (fx_1 hX) (by decide) cl_e11 rfl 5 (by decide) (hts (.fieldLink RX3 85 "TypingPool$Book" "pieceCount" "I") (List.mem_cons_of_mem _ (List.mem_append_left _ (List.mem_of_getElem? (i := 1) rfl)))) (fun _ h9 => h9) rfl dX3_firstFor_14 ?_
      have hc_1 := ic_2 hI
      refine lv_icmp_ge (tgt := 76) hx hb dX3_firstFor_17 (by decide) (fun c_2 => ?_) (fun c_2 => ?_)
      · have nc_2 := z_le hc_1 rfl c_2
        refine lv_iload_n hx hb dX3_firstFor_76 rfl (lv_at hl 3 rfl) ?_
        have hrv : i3.toInt = i3.toInt := rfl
        exact W.iret (v := i3) hx hb hr (fun t ht hW9 => ⟨⟨i3, i3, rfl, rfl, ⟨y_L8, hG, by omega, tw_at ht hT⟩⟩, hS.F ht⟩) hS.2.2 dX3_firstFor_77
      · have nc_2 := z_nle hc_1 rfl c_2
        refine lv_aload_n hx hb dX3_firstFor_20 rfl (lv_at hl 0 rfl) ?_
        refine lv_iload hx hb dX3_firstFor_21 (lv_at hl 5 rfl) ?_
        have hFc := tw_free hF hS hA
        refine va_calli (va_runV (As := [.int i5]) (rest := []) ⟨hx, hb, hml, hown, hts⟩ (c_stateOf l dC dI ad av H.size a k τ ln y_L8 g u i5 hI (by omega) (by omega)) (cwV 1 hts (gi_4 (List.mem_cons_of_mem _ (List.mem_append_left _ (List.mem_of_getElem? (i := 2) rfl))) (List.mem_cons_of_mem _ (List.mem_append_left _ (List.mem_of_getElem? (i := 3) rfl))) (List.mem_cons_of_mem _ (List.mem_append_left _ (List.mem_of_getElem? (i := 4) rfl))) (List.mem_cons_of_mem _ (List.mem_append_left _ (List.mem_of_getElem? (i := 5) rfl))) (fun _ hh => (List.mem_cons_of_mem _ (List.mem_append_right _ (List.mem_append_right _ (List.mem_append_right _ (List.mem_append_left _ hh)))))) gd_c_stateOf) rfl rfl rfl (by decide +kernel) ⟨Nat.le_of_ble_eq_true rfl, Nat.le_of_ble_eq_true rfl⟩) ⟨pw_blind, tw_recv hK hT (fx_3 hX) (by decide) cl_e13 rfl, pw_use hT hK hFc hS hM⟩ rfl rfl hl.1 rfl (lv_room (Nat.le_of_ble_eq_true rfl)) dX3_firstFor_23 ⟨Nat.le_of_ble_eq_true rfl, Nat.le_of_ble_eq_true rfl⟩) hS (fun q _ h => hFc q h) hFc (fun r0 r_3 t H locs ht hvm hw hB hz1 hk1 hS => ?_)
        refine W.widen (k := 0) (n := 0) (Nat.le_of_ble_eq_true rfl) (Nat.le_of_ble_eq_true rfl) ?_
        clear hvm hz1 hk1
        subst hw
        have hT := hB
        rw [ht] at hT
        refine lv_iconst (v := 1) hx hb dX3_firstFor_26 (by decide) ?_
        refine lv_icmp_ne (tgt := 70) hx hb dX3_firstFor_27 (by decide) (fun c_4 => ?_) (fun c_4 => ?_)
        · have nc_4 := z_ne rfl (zk (x := 1) 1 rfl) c_4
          obtain ⟨x_5, ex_5⟩ : ∃ y : Int32, y = i5 + Int32.ofInt 1 := ⟨_, rfl⟩
          have hx_5 := z_add ex_5 rfl (zk (x := Int32.ofInt 1) 1 rfl) (by omega) (by omega)
          refine lv_iinc (v := x_5) (lv' := [(5, .int x_5), (0, .ref (a 3)), (1, .int p0), (2, .ref b0), (3, .int i3), (4, .int w4)]) hx hb dX3_firstFor_70 hl (k := 5) rfl ex_5.symm (by decide) rfl (fun ls hl => ?_)
          refine lv_goto (tgt := 8) hx hb dX3_firstFor_73 (by decide) ?_
          exact ih_8  i3 w4 x_5 y_L8 H _ ls (by omega) hG hI (by omega) (by omega) (by omega) hT hS (lv_sub hl [1, 2, 3, 4, 5, 0] rfl)
        · have nc_4 := z_eq rfl (zk (x := 1) 1 rfl) c_4
          refine lv_aload_n hx hb dX3_firstFor_30 rfl (lv_at hl 0 rfl) ?_
          refine lv_iload_n hx hb dX3_firstFor_31 rfl (lv_at hl 1 rfl) ?_
          refine lv_iload hx hb dX3_firstFor_32 (lv_at hl 5 rfl) ?_
          refine lv_aload_n hx hb dX3_firstFor_34 rfl (lv_at hl 2 rfl) ?_
          have hFc := tw_free hF hS hA
          refine va_calli (va_runV (As := [.int p0, .int i5, .ref b0]) (rest := []) ⟨hx, hb, hml, hown, hts⟩ (c_mayDoR l dC dI ad av H.size a k τ ln y_L8 g u p0 i5 b0 hI h_b0 (by omega) (by omega) (by omega) (by omega)) (cwV 3 hts (gi_4 (List.mem_cons_of_mem _ (List.mem_append_left _ (List.mem_of_getElem? (i := 6) rfl))) (List.mem_cons_of_mem _ (List.mem_append_left _ (List.mem_of_getElem? (i := 7) rfl))) (List.mem_cons_of_mem _ (List.mem_append_left _ (List.mem_of_getElem? (i := 8) rfl))) (List.mem_cons_of_mem _ (List.mem_append_left _ (List.mem_of_getElem? (i := 5) rfl))) (fun _ hh => (List.mem_cons_of_mem _ (List.mem_append_right _ (List.mem_append_right _ (List.mem_append_right _ (List.mem_append_right _ (List.mem_append_left _ hh))))))) gd_c_mayDoR) rfl rfl rfl (by decide +kernel) ⟨Nat.le_of_ble_eq_true rfl, Nat.le_of_ble_eq_true rfl⟩) ⟨pw_blind, tw_recv hK hT (fx_3 hX) (by decide) cl_e13 rfl, pw_use hT hK hFc hS hM⟩ rfl rfl hl.1 rfl (lv_room (Nat.le_of_ble_eq_true rfl)) dX3_firstFor_35 ⟨Nat.le_of_ble_eq_true rfl, Nat.le_of_ble_eq_true rfl⟩) hS (fun q _ h => hFc q h) hFc (fun r0 r_6 t H locs ht hvm hw hB hz1 hk1 hS => ?_)
          refine W.widen (k := 0) (n := 0) (Nat.le_of_ble_eq_true rfl) (Nat.le_of_ble_eq_true rfl) ?_
          clear hvm hz1 hk1
          subst hw
          rcases hB with ⟨y_7, hre, hgy_7, hT⟩ | ⟨y_8, hre, hgy_8, hT⟩
          · refine lq_top (v := 1) hre ?_
            rw [ht] at hT
            have hG := hG.tr hgy_7 (by decide)
            have hI := hI.ag hgy_7 (by decide)
            refine lv_if_eq (tgt := 70) hx hb dX3_firstFor_38 (by decide) (fun c_9 => absurd c_9 (by decide)) (fun c_9 => ?_)
            refine lv_aload_n hx hb dX3_firstFor_41 rfl (lv_at hl 0 rfl) ?_
            refine lv_iload_n hx hb dX3_firstFor_42 rfl (lv_at hl 1 rfl) ?_
            refine lv_iload hx hb dX3_firstFor_43 (lv_at hl 5 rfl) ?_
            refine lv_aload_n hx hb dX3_firstFor_45 rfl (lv_at hl 2 rfl) ?_
            have hFc := tw_free hF hS hA
            refine va_calli (va_runV (As := [.int p0, .int i5, .ref b0]) (rest := []) ⟨hx, hb, hml, hown, hts⟩ (c_hasteR l dC dI ad av H.size a k τ ln y_7 g u p0 i5 b0 hI h_b0 (by omega) (by omega) (by omega) (by omega)) (cwV 3 hts (gi_4 (List.mem_cons_of_mem _ (List.mem_append_left _ (List.mem_of_getElem? (i := 9) rfl))) (List.mem_cons_of_mem _ (List.mem_append_left _ (List.mem_of_getElem? (i := 10) rfl))) (List.mem_cons_of_mem _ (List.mem_append_left _ (List.mem_of_getElem? (i := 11) rfl))) (List.mem_cons_of_mem _ (List.mem_append_left _ (List.mem_of_getElem? (i := 5) rfl))) (fun _ hh => (List.mem_cons_of_mem _ (List.mem_append_right _ (List.mem_append_right _ (List.mem_append_right _ (List.mem_append_right _ (List.mem_append_right _ (List.mem_append_left _ hh)))))))) gd_c_hasteR) rfl rfl rfl (by decide +kernel) ⟨Nat.le_of_ble_eq_true rfl, Nat.le_of_ble_eq_true rfl⟩) ⟨pw_blind, tw_recv hK hT (fx_3 hX) (by decide) cl_e13 rfl, pw_use hT hK hFc hS hM⟩ rfl rfl hl.1 rfl (lv_room (Nat.le_of_ble_eq_true rfl)) dX3_firstFor_46 ⟨Nat.le_of_ble_eq_true rfl, Nat.le_of_ble_eq_true rfl⟩) hS (fun q _ h => hFc q h) hFc (fun r0 r_10 t H locs ht hvm hw hB hz1 hk1 hS => ?_)
            refine W.widen (k := 0) (n := 0) (Nat.le_of_ble_eq_true rfl) (Nat.le_of_ble_eq_true rfl) ?_
            clear hvm hz1 hk1
            subst hw
            obtain ⟨y_11, hgy_11, hT⟩ := hB
            rw [ht] at hT
            have hG := hG.tr hgy_11 (by decide)
            have hI := hI.ag hgy_11 (by decide)
            refine lv_istore (lv' := [(6, .int r_10), (0, .ref (a 3)), (1, .int p0), (2, .ref b0), (3, .int i3), (4, .int w4), (5, .int i5)]) hx hb dX3_firstFor_49 hl (by decide) rfl (fun ls hl => ?_)
            refine lv_iload_n hx hb dX3_firstFor_51 rfl (lv_at hl 4 rfl) ?_
            refine lv_iconst (v := (-1)) hx hb dX3_firstFor_52 (by decide) ?_
            refine lv_icmp_eq (tgt := 63) hx hb dX3_firstFor_53 (by decide) (fun c_12 => ?_) (fun c_12 => ?_)
            · have nc_12 := z_eq rfl (zk (x := (-1)) (-1) rfl) c_12
              refine lv_iload hx hb dX3_firstFor_63 (lv_at hl 6 rfl) ?_
              refine lv_istore_n (lv' := [(3, .int i5), (6, .int r_10), (0, .ref (a 3)), (1, .int p0), (2, .ref b0), (4, .int w4), (5, .int i5)]) hx hb dX3_firstFor_65 rfl hl (by decide) rfl (fun ls hl => ?_)
              refine lv_iload hx hb dX3_firstFor_66 (lv_at hl 1 rfl) ?_
              refine lv_istore (lv' := [(4, .int r_10), (3, .int i5), (6, .int r_10), (0, .ref (a 3)), (1, .int p0), (2, .ref b0), (5, .int i5)]) hx hb dX3_firstFor_68 hl (by decide) rfl (fun ls hl => ?_)
              obtain ⟨x_13, ex_13⟩ : ∃ y : Int32, y = i5 + Int32.ofInt 1 := ⟨_, rfl⟩
              have hx_13 := z_add ex_13 rfl (zk (x := Int32.ofInt 1) 1 rfl) (by omega) (by omega)
              refine lv_iinc (v := x_13) (lv' := [(5, .int x_13), (4, .int r_10), (3, .int i5), (6, .int r_10), (0, .ref (a 3)), (1, .int p0), (2, .ref b0)]) hx hb dX3_firstFor_70 hl (k := 6) rfl ex_13.symm (by decide) rfl (fun ls hl => ?_)
              refine lv_goto (tgt := 8) hx hb dX3_firstFor_73 (by decide) ?_
              exact ih_8  i5 r_10 x_13 y_11 H _ ls (by omega) hG hI (by omega) (by omega) (by omega) hT hS (lv_sub hl [4, 5, 6, 2, 1, 0] rfl)
            · have nc_12 := z_ne rfl (zk (x := (-1)) (-1) rfl) c_12
              refine lv_iload hx hb dX3_firstFor_56 (lv_at hl 0 rfl) ?_
              refine lv_iload hx hb dX3_firstFor_58 (lv_at hl 5 rfl) ?_
              refine lv_icmp_ge (tgt := 70) hx hb dX3_firstFor_60 (by decide) (fun c_14 => ?_) (fun c_14 => ?_)
              · have nc_14 := z_le rfl rfl c_14
                obtain ⟨x_15, ex_15⟩ : ∃ y : Int32, y = i5 + Int32.ofInt 1 := ⟨_, rfl⟩
                have hx_15 := z_add ex_15 rfl (zk (x := Int32.ofInt 1) 1 rfl) (by omega) (by omega)
                refine lv_iinc (v := x_15) (lv' := [(5, .int x_15), (6, .int r_10), (0, .ref (a 3)), (1, .int p0), (2, .ref b0), (3, .int i3), (4, .int w4)]) hx hb dX3_firstFor_70 hl (k := 6) rfl ex_15.symm (by decide) rfl (fun ls hl => ?_)
                refine lv_goto (tgt := 8) hx hb dX3_firstFor_73 (by decide) ?_
                exact ih_8  i3 w4 x_15 y_11 H _ ls (by omega) hG hI (by omega) (by omega) (by omega) hT hS (lv_sub hl [2, 3, 4, 5, 6, 0] rfl)
              · have nc_14 := z_nle rfl rfl c_14
                refine lv_iload hx hb dX3_firstFor_63 (lv_at hl 6 rfl) ?_
                refine lv_istore_n (lv' := [(3, .int i5), (6, .int r_10), (0, .ref (a 3)), (1, .int p0), (2, .ref b0), (4, .int w4), (5, .int i5)]) hx hb dX3_firstFor_65 rfl hl (by decide) rfl (fun ls hl => ?_)
                refine lv_iload hx hb dX3_firstFor_66 (lv_at hl 1 rfl) ?_
                refine lv_istore (lv' := [(4, .int r_10), (3, .int i5), (6, .int r_10), (0, .ref (a 3)), (1, .int p0), (2, .ref b0), (5, .int i5)]) hx hb dX3_firstFor_68 hl (by decide) rfl (fun ls hl => ?_)
                obtain ⟨x_16, ex_16⟩ : ∃ y : Int32, y = i5 + Int32.ofInt 1 := ⟨_, rfl⟩
                have hx_16 := z_add ex_16 rfl (zk (x := Int32.ofInt 1) 1 rfl) (by omega) (by omega)
                refine lv_iinc (v := x_16) (lv' := [(5, .int x_16), (4, .int r_10), (3, .int i5), (6, .int r_10), (0, .ref (a 3)), (1, .int p0), (2, .ref b0)]) hx hb dX3_firstFor_70 hl (k := 6) rfl ex_16.symm (by decide) rfl (fun ls hl => ?_)
                refine lv_goto (tgt := 8) hx hb dX3_firstFor_73 (by decide) ?_
                exact ih_8  i5 r_10 x_16 y_11 H _ ls (by omega) hG hI (by omega) (by omega) (by omega) hT hS (lv_sub hl [4, 5, 6, 2, 1, 0] rfl)
          · refine lq_top (v := 0) hre ?_
            rw [ht] at hT
            have hG := hG.tr hgy_8 (by decide)
            have hI := hI.ag hgy_8 (by decide)
            refine lv_if_eq (tgt := 70) hx hb dX3_firstFor_38 (by decide) (fun c_17 => ?_) (fun c_17 => absurd c_17 (by decide))
            obtain ⟨x_18, ex_18⟩ : ∃ y : Int32, y = i5 + Int32.ofInt 1 := ⟨_, rfl⟩
            have hx_18 := z_add ex_18 rfl (zk (x := Int32.ofInt 1) 1 rfl) (by omega) (by omega)
            refine lv_iinc (v := x_18) (lv' := [(5, .int x_18), (0, .ref (a 3)), (1, .int p0), (2, .ref b0), (3, .int i3), (4, .int w4)]) hx hb dX3_firstFor_70 hl (k := 5) rfl ex_18.symm (by decide) rfl (fun ls hl => ?_)
            refine lv_goto (tgt := 8) hx hb dX3_firstFor_73 (by decide) ?_
            exact ih_8  i3 w4 x_18 y_8 H _ ls (by omega) hG hI (by omega) (by omega) (by omega) hT hS (lv_sub hl [1, 2, 3, 4, 5, 0] rfl)
  have hp_19 : (-1 : Int32).toInt = (-1) := (zk (x := (-1)) (-1) rfl)
  have hp_20 : (0 : Int32).toInt = 0 := (zk (x := 0) 0 rfl)
  have hp_21 : (0 : Int32).toInt = 0 := (zk (x := 0) 0 rfl)
  exact loop_8 _ (-1 : Int32) (0 : Int32) (0 : Int32) y s.heap _ ls (Nat.lt_succ_self _) hG hI (by omega) (by omega) (by omega) hT hS (lv_sub hl [3, 4, 5, 2, 1, 0] rfl)
def wo_c_takeAllR : List Cond := [.fieldLink RX3 43 "TypingPool$Floor" "book" "LTypingPool$Book;", .fieldLink RX3 75 "TypingPool$Book" "handCount" "I", .fieldLink RX3 15 "TypingPool$Floor" "has" "[I", .methodLink RX3 78 yX3_firstFor, .instanceMethod yX3_firstFor, .selects RX3 yX3_firstFor yX3_firstFor, .initialized RX3, .methodLink RX3 82 yX3_take, .instanceMethod yX3_take, .selects RX3 yX3_take yX3_take]
def wm_c_takeAllR : List Cond := .code yX3_takeAll cX3_takeAll 5 none :: (wo_c_takeAllR ++ (wsX30 ++ (wsX10 ++ (wm_c_firstForR ++ (wm_c_take ++ ([] : List Cond))))))
theorem gd_c_takeAllR : ∀ w ∈ wm_c_takeAllR, goodWord w = true := gd_c rfl (gd_a (by decide) (gd_a gd_wsX30 (gd_a gd_wsX10 (gd_a gd_c_firstForR (gd_a gd_c_take gd_nil)))))
set_option maxRecDepth 20000 in
theorem im_c_takeAllR : ∀ w ∈ wm_c_takeAllR, w ∈ lw_tbl := im_c (in_r [.code yX3_takeAll cX3_takeAll 5 none] [762] (by decide +kernel)) (in_app (in_r wo_c_takeAllR [426, 125, 431, 763, 765, 9, 83, 815, 817, 12] (by decide +kernel)) (in_app im_wsX30 (in_app im_wsX10 (in_app im_c_firstForR (in_app im_c_take im_nil)))))
set_option maxHeartbeats 4000000 in
set_option maxRecDepth 100000 in
theorem c_takeAllR (l : Launch) (dC : Nat → ClassId) (dI : Nat → Nat → Nat) (ad av : Nat → Nat) (sz : Nat) (a : Nat → Nat) (k : Nat → ClassId) (τ ln : Nat → Nat) (y : Nat → Nat → Int32) (g : Nat → Nat → Option Nat) (u : Nat → Int) (p0 : Int32) (b0 : Nat) (hI : IC a u τ ln y g) (h_b0 : τ b0 = 5) : Met l yX3_takeAll wm_c_takeAllR ({ frames := 5, cells := 0, slots := 0, locals := 300 }) (pw_ ad av (dC, dI) sz [.ref (a 3), .int p0, .ref b0] a k τ ln y g) (va_Qv (fun (_ : Unit) => True) (fun (_ : Unit) (t : State) => (∃ (y' : Nat → Nat → Int32), ag τ [24, 27, 30, 31, 34, 35, 38] y y' ∧ tw (dC, dI) a k τ ln y' g t.heap)) (fr τ sz)) 0 0 (fr τ sz) := by
  refine Met.ofW (cc := cX3_takeAll) (maxL := 5) (ret := none) (by decide) rfl ?_
  intro p e s m args below meth c s₁ B hml hv
  obtain ⟨rfl, hsz, hT, hK, hM⟩ := hv
  have hx := B.exec
  have hb := B.bytes
  have hr := B.returns
  have hts := atoms_spec (ws := wm_c_takeAllR) B.pre
  have hown : s.vm.findClass RX3 = some m.cls := findClass_of_methodNamed B.named
  have hlocks := B.notSynchronized
  subst hsz
  generalize hAe : fr τ s.heap.size = A at hM ⊢
  have hA : ∀ q : Nat, s.heap.size ≤ q → A q := fun q h => by rw [← hAe]; exact Or.inr h
  have hF : ∀ q, τ q ≠ 0 → A q := fun q h => by rw [← hAe]; exact Or.inl h
  have hS : va_S A s.heap s.heap [] := va_S.rf
  have hX := hI.1
  have hR := ic_r hI
  have hG : ag τ [24, 27, 30, 31, 34, 35, 38] y y := ag.rf
  have hl := lv_entry ([.ref (a 3), .int p0, .ref b0]) (n := 5) (Nat.le_of_ble_eq_true rfl)
  rw [lg_entry_eq]
  generalize (lg_sl ([.ref (a 3), .int p0, .ref b0]) ++ List.replicate (5 - (lg_sl ([.ref (a 3), .int p0, .ref b0])).length) Slot.unset).toArray = ls at hl ⊢
  have hl : lv_has ls 5 [(0, .ref (a 3)), (1, .int p0), (2, .ref b0)] := hl
  refine lv_iconst (v := 0) hx hb dX3_takeAll_0 (by decide) ?_
  refine lv_istore_n (lv' := [(3, .int 0), (0, .ref (a 3)), (1, .int p0), (2, .ref b0)]) hx hb dX3_takeAll_1 rfl hl (by decide) rfl (fun ls hl => ?_)
  have loop_2 : ∀ (n : Nat) (i3 : Int32) (y_L2 : Nat → Nat → Int32) (H : Heap) (locs : List Loc) (ls : Array Slot), (u 1 - i3.toInt).toNat < n → ag τ [24, 27, 30, 31, 34, 35, 38] y y_L2 → IC a u τ ln y_L2 g → 0 ≤ i3.toInt → i3.toInt ≤ u 1 → tw (dC, dI) a k τ ln y_L2 g H → va_S A s.heap H locs → lv_has ls 5 [(0, .ref (a 3)), (1, .int p0), (2, .ref b0), (3, .int i3)] → W p l e (headSpec wm_c_takeAllR ({ frames := 5, cells := 0, slots := 0, locals := 300 })).room s m ([.ref (a 3), .int p0, .ref b0] : List Value).toArray below meth c H locs 0 0 (MQ below (va_Qv (fun (_ : Unit) => True) (fun (_ : Unit) (t : State) => (∃ (y' : Nat → Nat → Int32), ag τ [24, 27, 30, 31, 34, 35, 38] y y' ∧ tw (dC, dI) a k τ ln y' g t.heap)) A) ([.ref (a 3), .int p0, .ref b0] : List Value).toArray s 0 0 A) (F0 m 2 ls []) := by
    intro n
    induction n with
    | zero => intro i3 y_L2 H locs ls hlt; exact absurd hlt (Nat.not_lt_zero _)
    | succ n ih_2 =>
      intro i3 y_L2 H locs ls hlt hG hI hi2_0 hi2_1 hT hS hl
      refine lv_iload_n hx hb dX3_takeAll_2 rfl (lv_at hl 3 rfl) ?_
      refine lv_aload_n hx hb dX3_takeAll_3 rfl (lv_at hl 0 rfl) ?_
      refine tw_get (D := (dC, dI)) (v := .ref (a 1)) (C := RX3) (T := TX3) (N := 12) hx hb hts (fun _ hh => (List.mem_cons_of_mem _ (List.mem_append_right _ (List.mem_append_left _ hh)))) hown hK hT (fx_3 hX) (by decide) cl_e13 rfl 0 (by decide) (hts (.fieldLink RX3 43 "TypingPool$Floor" "book" "LTypingPool$Book;") (List.mem_cons_of_mem _ (List.mem_append_left _ (List.mem_of_getElem? (i := 0) rfl)))) (fun _ h9 => h9) rfl dX3_takeAll_4 ?_
      refine tw_get (D := (dC, dI)) (v := .int (y_L2 (a 1) 3)) (C := RX1) (T := TX1) (N := 8) hx hb hts (fun _ hh => (List.mem_cons_of_mem _ (List.mem_append_right _ (List.mem_append_right _ (List.mem_append_left _ hh))))) hown hK hT (fx_1 hX) (by decide) cl_e11 rfl 3 (by decide) (hts (.fieldLink RX3 75 "TypingPool$Book" "handCount" "I") (List.mem_cons_of_mem _ (List.mem_append_left _ (List.mem_of_getElem? (i := 1) rfl)))) (fun _ h9 => h9) rfl dX3_takeAll_7 ?_
      have hc_1 := ic_1 hI
      refine lv_icmp_ge (tgt := 58) hx hb dX3_takeAll_10 (by decide) (fun c_2 => ?_) (fun c_2 => ?_)
      · have nc_2 := z_le hc_1 rfl c_2
        exact W.vret hx hb hr (fun t ht hW9 => ⟨⟨(), rfl, trivial, ⟨y_L2, hG, tw_at ht hT⟩⟩, hS.F ht⟩) hS.2.2 dX3_takeAll_58
      · have nc_2 := z_nle hc_1 rfl c_2
        refine lv_iload_n hx hb dX3_takeAll_13 rfl (lv_at hl 1 rfl) ?_
        refine lv_iload_n hx hb dX3_takeAll_14 rfl (lv_at hl 3 rfl) ?_
        refine lv_ishr hx hb dX3_takeAll_15 ?_
        refine lv_topi (fun x_3 ex_3 => ?_)
        refine lv_iconst (v := 1) hx hb dX3_takeAll_16 (by decide) ?_
        refine lv_iand hx hb dX3_takeAll_17 ?_
        refine lv_topi (fun x_4 ex_4 => ?_)
        have hx_4 := z_and (x := x_3) (zk (x := 1) 1 rfl) (by omega)
        rw [← ex_4] at hx_4
        refine lv_if_ne (tgt := 52) hx hb dX3_takeAll_18 (by decide) (fun c_5 => ?_) (fun c_5 => ?_)
        · have nc_5 := z_ne rfl (zk (x := 0) 0 rfl) c_5
          obtain ⟨x_6, ex_6⟩ : ∃ y : Int32, y = i3 + Int32.ofInt 1 := ⟨_, rfl⟩
          have hx_6 := z_add ex_6 rfl (zk (x := Int32.ofInt 1) 1 rfl) (by omega) (by omega)
          refine lv_iinc (v := x_6) (lv' := [(3, .int x_6), (0, .ref (a 3)), (1, .int p0), (2, .ref b0)]) hx hb dX3_takeAll_52 hl (k := 3) rfl ex_6.symm (by decide) rfl (fun ls hl => ?_)
          refine lv_goto (tgt := 2) hx hb dX3_takeAll_55 (by decide) ?_
          exact ih_2  x_6 y_L2 H _ ls (by omega) hG hI (by omega) (by omega) hT hS (lv_sub hl [1, 2, 3, 0] rfl)
        · have nc_5 := z_eq rfl (zk (x := 0) 0 rfl) c_5
          refine lv_aload_n hx hb dX3_takeAll_21 rfl (lv_at hl 0 rfl) ?_
          refine tw_get (D := (dC, dI)) (v := .ref (a 20)) (C := RX3) (T := TX3) (N := 12) hx hb hts (fun _ hh => (List.mem_cons_of_mem _ (List.mem_append_right _ (List.mem_append_left _ hh)))) hown hK hT (fx_3 hX) (by decide) cl_e13 rfl 3 (by decide) (hts (.fieldLink RX3 15 "TypingPool$Floor" "has" "[I") (List.mem_cons_of_mem _ (List.mem_append_left _ (List.mem_of_getElem? (i := 2) rfl)))) (fun _ h9 => h9) rfl dX3_takeAll_22 ?_
          refine lv_iload_n hx hb dX3_takeAll_25 rfl (lv_at hl 3 rfl) ?_
          refine tw_iald hx hb hK hT 0 (fx_20 hX) (by decide) cl_e30 rfl (z_in rfl (by omega) (by omega)) dX3_takeAll_26 ?_
          refine lv_iconst (v := (-1)) hx hb dX3_takeAll_27 (by decide) ?_
          refine lv_icmp_ne (tgt := 52) hx hb dX3_takeAll_28 (by decide) (fun c_7 => ?_) (fun c_7 => ?_)
          · have nc_7 := z_ne rfl (zk (x := (-1)) (-1) rfl) c_7
            obtain ⟨x_8, ex_8⟩ : ∃ y : Int32, y = i3 + Int32.ofInt 1 := ⟨_, rfl⟩
            have hx_8 := z_add ex_8 rfl (zk (x := Int32.ofInt 1) 1 rfl) (by omega) (by omega)
            refine lv_iinc (v := x_8) (lv' := [(3, .int x_8), (0, .ref (a 3)), (1, .int p0), (2, .ref b0)]) hx hb dX3_takeAll_52 hl (k := 3) rfl ex_8.symm (by decide) rfl (fun ls hl => ?_)
            refine lv_goto (tgt := 2) hx hb dX3_takeAll_55 (by decide) ?_
            exact ih_2  x_8 y_L2 H _ ls (by omega) hG hI (by omega) (by omega) hT hS (lv_sub hl [1, 2, 3, 0] rfl)
          · have nc_7 := z_eq rfl (zk (x := (-1)) (-1) rfl) c_7
            refine lv_aload_n hx hb dX3_takeAll_31 rfl (lv_at hl 0 rfl) ?_
            refine lv_iload_n hx hb dX3_takeAll_32 rfl (lv_at hl 3 rfl) ?_
            refine lv_aload_n hx hb dX3_takeAll_33 rfl (lv_at hl 2 rfl) ?_
            have hFc := tw_free hF hS hA
            refine va_calli (va_runV (As := [.int i3, .ref b0]) (rest := []) ⟨hx, hb, hml, hown, hts⟩ (c_firstForR l dC dI ad av H.size a k τ ln y_L2 g u i3 b0 hI h_b0 (by omega) (by omega)) (cwV 2 hts (gi_4 (List.mem_cons_of_mem _ (List.mem_append_left _ (List.mem_of_getElem? (i := 3) rfl))) (List.mem_cons_of_mem _ (List.mem_append_left _ (List.mem_of_getElem? (i := 4) rfl))) (List.mem_cons_of_mem _ (List.mem_append_left _ (List.mem_of_getElem? (i := 5) rfl))) (List.mem_cons_of_mem _ (List.mem_append_left _ (List.mem_of_getElem? (i := 6) rfl))) (fun _ hh => (List.mem_cons_of_mem _ (List.mem_append_right _ (List.mem_append_right _ (List.mem_append_right _ (List.mem_append_left _ hh)))))) gd_c_firstForR) rfl rfl rfl (by decide +kernel) ⟨Nat.le_of_ble_eq_true rfl, Nat.le_of_ble_eq_true rfl⟩) ⟨pw_blind, tw_recv hK hT (fx_3 hX) (by decide) cl_e13 rfl, pw_use hT hK hFc hS hM⟩ rfl rfl hl.1 rfl (lv_room (Nat.le_of_ble_eq_true rfl)) dX3_takeAll_34 ⟨Nat.le_of_ble_eq_true rfl, Nat.le_of_ble_eq_true rfl⟩) hS (fun q _ h => hFc q h) hFc (fun r0 r_9 t H locs ht hvm hw hB hz1 hk1 hS => ?_)
            refine W.widen (k := 0) (n := 0) (Nat.le_of_ble_eq_true rfl) (Nat.le_of_ble_eq_true rfl) ?_
            clear hvm hz1 hk1
            subst hw
            obtain ⟨y_10, hgy_10, hf_11, hT⟩ := hB
            rw [ht] at hT
            have hG := hG.tr hgy_10 (by decide)
            have hI := hI.ag hgy_10 (by decide)
            refine lv_istore (lv' := [(4, .int r_9), (0, .ref (a 3)), (1, .int p0), (2, .ref b0), (3, .int i3)]) hx hb dX3_takeAll_37 hl (by decide) rfl (fun ls hl => ?_)
            refine lv_iload hx hb dX3_takeAll_39 (lv_at hl 0 rfl) ?_
            refine lv_iconst (v := (-1)) hx hb dX3_takeAll_41 (by decide) ?_
            refine lv_icmp_eq (tgt := 52) hx hb dX3_takeAll_42 (by decide) (fun c_12 => ?_) (fun c_12 => ?_)
            · have nc_12 := z_eq rfl (zk (x := (-1)) (-1) rfl) c_12
              obtain ⟨x_13, ex_13⟩ : ∃ y : Int32, y = i3 + Int32.ofInt 1 := ⟨_, rfl⟩
              have hx_13 := z_add ex_13 rfl (zk (x := Int32.ofInt 1) 1 rfl) (by omega) (by omega)
              refine lv_iinc (v := x_13) (lv' := [(3, .int x_13), (4, .int r_9), (0, .ref (a 3)), (1, .int p0), (2, .ref b0)]) hx hb dX3_takeAll_52 hl (k := 4) rfl ex_13.symm (by decide) rfl (fun ls hl => ?_)
              refine lv_goto (tgt := 2) hx hb dX3_takeAll_55 (by decide) ?_
              exact ih_2  x_13 y_10 H _ ls (by omega) hG hI (by omega) (by omega) hT hS (lv_sub hl [2, 3, 4, 0] rfl)
            · have nc_12 := z_ne rfl (zk (x := (-1)) (-1) rfl) c_12
              refine lv_aload_n hx hb dX3_takeAll_45 rfl (lv_at hl 1 rfl) ?_
              refine lv_iload_n hx hb dX3_takeAll_46 rfl (lv_at hl 4 rfl) ?_
              refine lv_iload hx hb dX3_takeAll_47 (lv_at hl 0 rfl) ?_
              have hFc := tw_free hF hS hA
              refine va_callv (va_runV (As := [.int i3, .int r_9]) (rest := []) ⟨hx, hb, hml, hown, hts⟩ (c_take l dC dI ad av H.size a k τ ln y_10 g u i3 r_9 hI (by omega) (by omega) (by omega) (by omega)) (cwV 2 hts (gi_4 (List.mem_cons_of_mem _ (List.mem_append_left _ (List.mem_of_getElem? (i := 7) rfl))) (List.mem_cons_of_mem _ (List.mem_append_left _ (List.mem_of_getElem? (i := 8) rfl))) (List.mem_cons_of_mem _ (List.mem_append_left _ (List.mem_of_getElem? (i := 9) rfl))) (List.mem_cons_of_mem _ (List.mem_append_left _ (List.mem_of_getElem? (i := 6) rfl))) (fun _ hh => (List.mem_cons_of_mem _ (List.mem_append_right _ (List.mem_append_right _ (List.mem_append_right _ (List.mem_append_right _ (List.mem_append_left _ hh))))))) gd_c_take) rfl rfl rfl (by decide +kernel) ⟨Nat.le_of_ble_eq_true rfl, Nat.le_of_ble_eq_true rfl⟩) ⟨pw_blind, tw_recv hK hT (fx_3 hX) (by decide) cl_e13 rfl, pw_use hT hK hFc hS hM⟩ rfl rfl hl.1 rfl (lv_room (Nat.le_of_ble_eq_true rfl)) dX3_takeAll_49 ⟨Nat.le_of_ble_eq_true rfl, Nat.le_of_ble_eq_true rfl⟩) hS (fun q _ h => hFc q h) hFc (fun u0 t H locs ht hvm hw hB hz1 hk1 hS => ?_)
              refine W.widen (k := 0) (n := 0) (Nat.le_of_ble_eq_true rfl) (Nat.le_of_ble_eq_true rfl) ?_
              clear hvm hz1 hk1
              obtain ⟨y_15, hgy_15, hT⟩ := hB
              rw [ht] at hT
              have hG := hG.tr hgy_15 (by decide)
              have hI := hI.ag hgy_15 (by decide)
              obtain ⟨x_16, ex_16⟩ : ∃ y : Int32, y = i3 + Int32.ofInt 1 := ⟨_, rfl⟩
              have hx_16 := z_add ex_16 rfl (zk (x := Int32.ofInt 1) 1 rfl) (by omega) (by omega)
              refine lv_iinc (v := x_16) (lv' := [(3, .int x_16), (4, .int r_9), (0, .ref (a 3)), (1, .int p0), (2, .ref b0)]) hx hb dX3_takeAll_52 hl (k := 4) rfl ex_16.symm (by decide) rfl (fun ls hl => ?_)
              refine lv_goto (tgt := 2) hx hb dX3_takeAll_55 (by decide) ?_
              exact ih_2  x_16 y_15 H _ ls (by omega) hG hI (by omega) (by omega) hT hS (lv_sub hl [2, 3, 4, 0] rfl)
  have hp_17 : (0 : Int32).toInt = 0 := (zk (x := 0) 0 rfl)
  exact loop_2 _ (0 : Int32) y s.heap _ ls (Nat.lt_succ_self _) hG hI (by omega) (by omega) hT hS (lv_sub hl [1, 2, 3, 0] rfl)
def wo_c_runOnR : List Cond := [.fieldLink RX3 9 "TypingPool$Floor" "now" "I", .fieldLink RX3 43 "TypingPool$Floor" "book" "LTypingPool$Book;", .methodLink RX3 57 yX1_awayMask, .instanceMethod yX1_awayMask, .selects RX1 yX1_awayMask yX1_awayMask, .initialized RX1, .methodLink RX3 63 yX3_takeAll, .instanceMethod yX3_takeAll, .selects RX3 yX3_takeAll yX3_takeAll, .initialized RX3, .methodLink RX3 67 yX3_changeFrom, .instanceMethod yX3_changeFrom, .selects RX3 yX3_changeFrom yX3_changeFrom, .methodLink RX3 71 yX3_workAll, .instanceMethod yX3_workAll, .selects RX3 yX3_workAll yX3_workAll]
def wm_c_runOnR : List Cond := .code yX3_runOn cX3_runOn 8 none :: (wo_c_runOnR ++ (wsX30 ++ (wm_c_awayMask ++ (wm_c_takeAllR ++ (wm_c_changeFrom ++ (wm_c_workAll ++ ([] : List Cond)))))))
theorem gd_c_runOnR : ∀ w ∈ wm_c_runOnR, goodWord w = true := gd_c rfl (gd_a (by decide) (gd_a gd_wsX30 (gd_a gd_c_awayMask (gd_a gd_c_takeAllR (gd_a gd_c_changeFrom (gd_a gd_c_workAll gd_nil))))))
set_option maxRecDepth 20000 in
theorem im_c_runOnR : ∀ w ∈ wm_c_runOnR, w ∈ lw_tbl := im_c (in_r [.code yX3_runOn cX3_runOn 8 none] [754] (by decide +kernel)) (in_app (in_r wo_c_runOnR [428, 426, 755, 756, 757, 71, 759, 761, 8, 83, 824, 826, 13, 847, 849, 15] (by decide +kernel)) (in_app im_wsX30 (in_app im_c_awayMask (in_app im_c_takeAllR (in_app im_c_changeFrom (in_app im_c_workAll im_nil))))))
set_option maxHeartbeats 4000000 in
set_option maxRecDepth 100000 in
theorem c_runOnR (l : Launch) (dC : Nat → ClassId) (dI : Nat → Nat → Nat) (ad av : Nat → Nat) (sz : Nat) (a : Nat → Nat) (k : Nat → ClassId) (τ ln : Nat → Nat) (y : Nat → Nat → Int32) (g : Nat → Nat → Option Nat) (u : Nat → Int) (p0 : Int32) (b0 : Nat) (p1 : Int32) (hI : IC a u τ ln y g) (h_b0 : τ b0 = 5) (hup0 : p0.toInt ≤ 960) : Met l yX3_runOn wm_c_runOnR ({ frames := 6, cells := 0, slots := 0, locals := 360 }) (pw_ ad av (dC, dI) sz [.ref (a 3), .int p0, .ref b0, .int p1] a k τ ln y g) (va_Qv (fun (_ : Unit) => True) (fun (_ : Unit) (t : State) => (∃ (y' : Nat → Nat → Int32), ag τ [13, 24, 27, 30, 31, 32, 33, 34, 35, 36, 37, 38] y y' ∧ tw (dC, dI) a k τ ln y' g t.heap)) (fr τ sz)) 0 0 (fr τ sz) := by
  refine Met.ofW (cc := cX3_runOn) (maxL := 8) (ret := none) (by decide) rfl ?_
  intro p e s m args below meth c s₁ B hml hv
  obtain ⟨rfl, hsz, hT, hK, hM⟩ := hv
  have hx := B.exec
  have hb := B.bytes
  have hr := B.returns
  have hts := atoms_spec (ws := wm_c_runOnR) B.pre
  have hown : s.vm.findClass RX3 = some m.cls := findClass_of_methodNamed B.named
  have hlocks := B.notSynchronized
  subst hsz
  generalize hAe : fr τ s.heap.size = A at hM ⊢
  have hA : ∀ q : Nat, s.heap.size ≤ q → A q := fun q h => by rw [← hAe]; exact Or.inr h
  have hF : ∀ q, τ q ≠ 0 → A q := fun q h => by rw [← hAe]; exact Or.inl h
  have hS : va_S A s.heap s.heap [] := va_S.rf
  have hX := hI.1
  have hR := ic_r hI
  have hG : ag τ [13, 24, 27, 30, 31, 32, 33, 34, 35, 36, 37, 38] y y := ag.rf
  have hl := lv_entry ([.ref (a 3), .int p0, .ref b0, .int p1]) (n := 8) (Nat.le_of_ble_eq_true rfl)
  rw [lg_entry_eq]
  generalize (lg_sl ([.ref (a 3), .int p0, .ref b0, .int p1]) ++ List.replicate (8 - (lg_sl ([.ref (a 3), .int p0, .ref b0, .int p1])).length) Slot.unset).toArray = ls at hl ⊢
  have hl : lv_has ls 8 [(0, .ref (a 3)), (1, .int p0), (2, .ref b0), (3, .int p1)] := hl
  refine lv_aload_n hx hb dX3_runOn_0 rfl (lv_at hl 0 rfl) ?_
  refine tw_get (D := (dC, dI)) (v := .int (y (a 3) 2)) (C := RX3) (T := TX3) (N := 12) hx hb hts (fun _ hh => (List.mem_cons_of_mem _ (List.mem_append_right _ (List.mem_append_left _ hh)))) hown hK hT (fx_3 hX) (by decide) cl_e13 rfl 2 (by decide) (hts (.fieldLink RX3 9 "TypingPool$Floor" "now" "I") (List.mem_cons_of_mem _ (List.mem_append_left _ (List.mem_of_getElem? (i := 0) rfl)))) (fun _ h9 => h9) rfl dX3_runOn_1 ?_
  refine lv_iload_n hx hb dX3_runOn_4 rfl (lv_at hl 1 rfl) ?_
  refine lv_iadd hx hb dX3_runOn_5 ?_
  refine lv_topi (fun x_1 ex_1 => ?_)
  refine lv_istore (lv' := [(4, .int x_1), (0, .ref (a 3)), (1, .int p0), (2, .ref b0), (3, .int p1)]) hx hb dX3_runOn_6 hl (by decide) rfl (fun ls hl => ?_)
  refine lv_iconst (v := 0) hx hb dX3_runOn_8 (by decide) ?_
  refine lv_istore (lv' := [(5, .int 0), (4, .int x_1), (0, .ref (a 3)), (1, .int p0), (2, .ref b0), (3, .int p1)]) hx hb dX3_runOn_9 hl (by decide) rfl (fun ls hl => ?_)
  have loop_11 : ∀ (n : Nat) (i5 : Int32) (y_L11 : Nat → Nat → Int32) (H : Heap) (locs : List Loc) (ls : Array Slot), (p0.toInt - i5.toInt).toNat < n → ag τ [13, 24, 27, 30, 31, 32, 33, 34, 35, 36, 37, 38] y y_L11 → IC a u τ ln y_L11 g → 0 ≤ i5.toInt → tw (dC, dI) a k τ ln y_L11 g H → va_S A s.heap H locs → lv_has ls 8 [(0, .ref (a 3)), (1, .int p0), (2, .ref b0), (3, .int p1), (4, .int x_1), (5, .int i5)] → W p l e (headSpec wm_c_runOnR ({ frames := 6, cells := 0, slots := 0, locals := 360 })).room s m ([.ref (a 3), .int p0, .ref b0, .int p1] : List Value).toArray below meth c H locs 0 0 (MQ below (va_Qv (fun (_ : Unit) => True) (fun (_ : Unit) (t : State) => (∃ (y' : Nat → Nat → Int32), ag τ [13, 24, 27, 30, 31, 32, 33, 34, 35, 36, 37, 38] y y' ∧ tw (dC, dI) a k τ ln y' g t.heap)) A) ([.ref (a 3), .int p0, .ref b0, .int p1] : List Value).toArray s 0 0 A) (F0 m 11 ls []) := by
    intro n
    induction n with
    | zero => intro i5 y_L11 H locs ls hlt; exact absurd hlt (Nat.not_lt_zero _)
    | succ n ih_11 =>
      intro i5 y_L11 H locs ls hlt hG hI hi11_0 hT hS hl
      refine lv_iload hx hb dX3_runOn_11 (lv_at hl 5 rfl) ?_
      refine lv_iload_n hx hb dX3_runOn_13 rfl (lv_at hl 1 rfl) ?_
      refine lv_icmp_ge (tgt := 99) hx hb dX3_runOn_14 (by decide) (fun c_2 => ?_) (fun c_2 => ?_)
      · have nc_2 := z_le rfl rfl c_2
        exact W.vret hx hb hr (fun t ht hW9 => ⟨⟨(), rfl, trivial, ⟨y_L11, hG, tw_at ht hT⟩⟩, hS.F ht⟩) hS.2.2 dX3_runOn_99
      · have nc_2 := z_nle rfl rfl c_2
        refine lv_aload_n hx hb dX3_runOn_17 rfl (lv_at hl 0 rfl) ?_
        refine tw_get (D := (dC, dI)) (v := .int (y_L11 (a 3) 2)) (C := RX3) (T := TX3) (N := 12) hx hb hts (fun _ hh => (List.mem_cons_of_mem _ (List.mem_append_right _ (List.mem_append_left _ hh)))) hown hK hT (fx_3 hX) (by decide) cl_e13 rfl 2 (by decide) (hts (.fieldLink RX3 9 "TypingPool$Floor" "now" "I") (List.mem_cons_of_mem _ (List.mem_append_left _ (List.mem_of_getElem? (i := 0) rfl)))) (fun _ h9 => h9) rfl dX3_runOn_18 ?_
        refine lv_iload hx hb dX3_runOn_21 (lv_at hl 4 rfl) ?_
        refine lv_icmp_ge (tgt := 99) hx hb dX3_runOn_23 (by decide) (fun c_3 => ?_) (fun c_3 => ?_)
        · have nc_3 := z_le rfl rfl c_3
          exact W.vret hx hb hr (fun t ht hW9 => ⟨⟨(), rfl, trivial, ⟨y_L11, hG, tw_at ht hT⟩⟩, hS.F ht⟩) hS.2.2 dX3_runOn_99
        · have nc_3 := z_nle rfl rfl c_3
          refine lv_aload_n hx hb dX3_runOn_26 rfl (lv_at hl 0 rfl) ?_
          refine tw_get (D := (dC, dI)) (v := .ref (a 1)) (C := RX3) (T := TX3) (N := 12) hx hb hts (fun _ hh => (List.mem_cons_of_mem _ (List.mem_append_right _ (List.mem_append_left _ hh)))) hown hK hT (fx_3 hX) (by decide) cl_e13 rfl 0 (by decide) (hts (.fieldLink RX3 43 "TypingPool$Floor" "book" "LTypingPool$Book;") (List.mem_cons_of_mem _ (List.mem_append_left _ (List.mem_of_getElem? (i := 1) rfl)))) (fun _ h9 => h9) rfl dX3_runOn_27 ?_
          refine lv_aload_n hx hb dX3_runOn_30 rfl (lv_at hl 0 rfl) ?_
          refine tw_get (D := (dC, dI)) (v := .int (y_L11 (a 3) 2)) (C := RX3) (T := TX3) (N := 12) hx hb hts (fun _ hh => (List.mem_cons_of_mem _ (List.mem_append_right _ (List.mem_append_left _ hh)))) hown hK hT (fx_3 hX) (by decide) cl_e13 rfl 2 (by decide) (hts (.fieldLink RX3 9 "TypingPool$Floor" "now" "I") (List.mem_cons_of_mem _ (List.mem_append_left _ (List.mem_of_getElem? (i := 0) rfl)))) (fun _ h9 => h9) rfl dX3_runOn_31 ?_
          have hFc := tw_free hF hS hA
          refine va_calli (va_runV (As := [.int (y_L11 (a 3) 2)]) (rest := []) ⟨hx, hb, hml, hown, hts⟩ (c_awayMask l dC dI ad av H.size a k τ ln y_L11 g u (y_L11 (a 3) 2) hI ) (cwV 1 hts (gi_4 (List.mem_cons_of_mem _ (List.mem_append_left _ (List.mem_of_getElem? (i := 2) rfl))) (List.mem_cons_of_mem _ (List.mem_append_left _ (List.mem_of_getElem? (i := 3) rfl))) (List.mem_cons_of_mem _ (List.mem_append_left _ (List.mem_of_getElem? (i := 4) rfl))) (List.mem_cons_of_mem _ (List.mem_append_left _ (List.mem_of_getElem? (i := 5) rfl))) (fun _ hh => (List.mem_cons_of_mem _ (List.mem_append_right _ (List.mem_append_right _ (List.mem_append_left _ hh))))) gd_c_awayMask) rfl rfl rfl (by decide +kernel) ⟨Nat.le_of_ble_eq_true rfl, Nat.le_of_ble_eq_true rfl⟩) ⟨pw_blind, tw_recv hK hT (fx_1 hX) (by decide) cl_e11 rfl, pw_use hT hK hFc hS hM⟩ rfl rfl hl.1 rfl (lv_room (Nat.le_of_ble_eq_true rfl)) dX3_runOn_34 ⟨Nat.le_of_ble_eq_true rfl, Nat.le_of_ble_eq_true rfl⟩) hS (fun q _ h => hFc q h) hFc (fun r0 r_4 t H locs ht hvm hw hB hz1 hk1 hS => ?_)
          refine W.widen (k := 0) (n := 0) (Nat.le_of_ble_eq_true rfl) (Nat.le_of_ble_eq_true rfl) ?_
          clear hvm hz1 hk1
          subst hw
          have hT := hB
          rw [ht] at hT
          refine lv_iload_n hx hb dX3_runOn_37 rfl (lv_at hl 3 rfl) ?_
          refine lv_iconst (v := (-1)) hx hb dX3_runOn_38 (by decide) ?_
          refine lv_icmp_ne (tgt := 46) hx hb dX3_runOn_39 (by decide) (fun c_5 => ?_) (fun c_5 => ?_)
          · have nc_5 := z_ne rfl (zk (x := (-1)) (-1) rfl) c_5
            refine lv_iconst (v := 1) hx hb dX3_runOn_46 (by decide) ?_
            refine lv_iload_n hx hb dX3_runOn_47 rfl (lv_at hl 3 rfl) ?_
            refine lv_ishl hx hb dX3_runOn_48 ?_
            refine lv_topi (fun x_6 ex_6 => ?_)
            refine lv_ior hx hb dX3_runOn_49 ?_
            refine lv_topi (fun x_7 ex_7 => ?_)
            refine lv_istore (lv' := [(6, .int x_7), (0, .ref (a 3)), (1, .int p0), (2, .ref b0), (3, .int p1), (4, .int x_1), (5, .int i5)]) hx hb dX3_runOn_50 hl (by decide) rfl (fun ls hl => ?_)
            refine lv_aload_n hx hb dX3_runOn_52 rfl (lv_at hl 1 rfl) ?_
            refine lv_iload hx hb dX3_runOn_53 (lv_at hl 0 rfl) ?_
            refine lv_aload_n hx hb dX3_runOn_55 rfl (lv_at hl 3 rfl) ?_
            have hFc := tw_free hF hS hA
            refine va_callv (va_runV (As := [.int x_7, .ref b0]) (rest := []) ⟨hx, hb, hml, hown, hts⟩ (c_takeAllR l dC dI ad av H.size a k τ ln y_L11 g u x_7 b0 hI h_b0) (cwV 2 hts (gi_4 (List.mem_cons_of_mem _ (List.mem_append_left _ (List.mem_of_getElem? (i := 6) rfl))) (List.mem_cons_of_mem _ (List.mem_append_left _ (List.mem_of_getElem? (i := 7) rfl))) (List.mem_cons_of_mem _ (List.mem_append_left _ (List.mem_of_getElem? (i := 8) rfl))) (List.mem_cons_of_mem _ (List.mem_append_left _ (List.mem_of_getElem? (i := 9) rfl))) (fun _ hh => (List.mem_cons_of_mem _ (List.mem_append_right _ (List.mem_append_right _ (List.mem_append_right _ (List.mem_append_left _ hh)))))) gd_c_takeAllR) rfl rfl rfl (by decide +kernel) ⟨Nat.le_of_ble_eq_true rfl, Nat.le_of_ble_eq_true rfl⟩) ⟨pw_blind, tw_recv hK hT (fx_3 hX) (by decide) cl_e13 rfl, pw_use hT hK hFc hS hM⟩ rfl rfl hl.1 rfl (lv_room (Nat.le_of_ble_eq_true rfl)) dX3_runOn_56 ⟨Nat.le_of_ble_eq_true rfl, Nat.le_of_ble_eq_true rfl⟩) hS (fun q _ h => hFc q h) hFc (fun u0 t H locs ht hvm hw hB hz1 hk1 hS => ?_)
            refine W.widen (k := 0) (n := 0) (Nat.le_of_ble_eq_true rfl) (Nat.le_of_ble_eq_true rfl) ?_
            clear hvm hz1 hk1
            obtain ⟨y_9, hgy_9, hT⟩ := hB
            rw [ht] at hT
            have hG := hG.tr hgy_9 (by decide)
            have hI := hI.ag hgy_9 (by decide)
            refine lv_aload_n hx hb dX3_runOn_59 rfl (lv_at hl 1 rfl) ?_
            refine lv_iload hx hb dX3_runOn_60 (lv_at hl 0 rfl) ?_
            refine lv_iload hx hb dX3_runOn_62 (lv_at hl 5 rfl) ?_
            have hFc := tw_free hF hS hA
            refine va_calli (va_runV (As := [.int x_7, .int x_1]) (rest := []) ⟨hx, hb, hml, hown, hts⟩ (c_changeFrom l dC dI ad av H.size a k τ ln y_9 g u x_7 x_1 hI ) (cwV 2 hts (gi_4 (List.mem_cons_of_mem _ (List.mem_append_left _ (List.mem_of_getElem? (i := 10) rfl))) (List.mem_cons_of_mem _ (List.mem_append_left _ (List.mem_of_getElem? (i := 11) rfl))) (List.mem_cons_of_mem _ (List.mem_append_left _ (List.mem_of_getElem? (i := 12) rfl))) (List.mem_cons_of_mem _ (List.mem_append_left _ (List.mem_of_getElem? (i := 9) rfl))) (fun _ hh => (List.mem_cons_of_mem _ (List.mem_append_right _ (List.mem_append_right _ (List.mem_append_right _ (List.mem_append_right _ (List.mem_append_left _ hh))))))) gd_c_changeFrom) rfl rfl rfl (by decide +kernel) ⟨Nat.le_of_ble_eq_true rfl, Nat.le_of_ble_eq_true rfl⟩) ⟨pw_blind, tw_recv hK hT (fx_3 hX) (by decide) cl_e13 rfl, pw_use hT hK hFc hS hM⟩ rfl rfl hl.1 rfl (lv_room (Nat.le_of_ble_eq_true rfl)) dX3_runOn_64 ⟨Nat.le_of_ble_eq_true rfl, Nat.le_of_ble_eq_true rfl⟩) hS (fun q _ h => hFc q h) hFc (fun r0 r_10 t H locs ht hvm hw hB hz1 hk1 hS => ?_)
            refine W.widen (k := 0) (n := 0) (Nat.le_of_ble_eq_true rfl) (Nat.le_of_ble_eq_true rfl) ?_
            clear hvm hz1 hk1
            subst hw
            have hT := hB
            rw [ht] at hT
            refine lv_aload_n hx hb dX3_runOn_67 rfl (lv_at hl 1 rfl) ?_
            refine tw_get (D := (dC, dI)) (v := .int (y_9 (a 3) 2)) (C := RX3) (T := TX3) (N := 12) hx hb hts (fun _ hh => (List.mem_cons_of_mem _ (List.mem_append_right _ (List.mem_append_left _ hh)))) hown hK hT (fx_3 hX) (by decide) cl_e13 rfl 2 (by decide) (hts (.fieldLink RX3 9 "TypingPool$Floor" "now" "I") (List.mem_cons_of_mem _ (List.mem_append_left _ (List.mem_of_getElem? (i := 0) rfl)))) (fun _ h9 => h9) rfl dX3_runOn_68 ?_
            refine lv_isub hx hb dX3_runOn_71 ?_
            refine lv_topi (fun x_11 ex_11 => ?_)
            refine lv_istore (lv' := [(7, .int x_11), (6, .int x_7), (0, .ref (a 3)), (1, .int p0), (2, .ref b0), (3, .int p1), (4, .int x_1), (5, .int i5)]) hx hb dX3_runOn_72 hl (by decide) rfl (fun ls hl => ?_)
            refine lv_aload_n hx hb dX3_runOn_74 rfl (lv_at hl 2 rfl) ?_
            refine lv_iload hx hb dX3_runOn_75 (lv_at hl 1 rfl) ?_
            refine lv_iload hx hb dX3_runOn_77 (lv_at hl 0 rfl) ?_
            have hFc := tw_free hF hS hA
            refine va_callv (va_runV (As := [.int x_7, .int x_11]) (rest := []) ⟨hx, hb, hml, hown, hts⟩ (c_workAll l dC dI ad av H.size a k τ ln y_9 g u x_7 x_11 hI ) (cwV 2 hts (gi_4 (List.mem_cons_of_mem _ (List.mem_append_left _ (List.mem_of_getElem? (i := 13) rfl))) (List.mem_cons_of_mem _ (List.mem_append_left _ (List.mem_of_getElem? (i := 14) rfl))) (List.mem_cons_of_mem _ (List.mem_append_left _ (List.mem_of_getElem? (i := 15) rfl))) (List.mem_cons_of_mem _ (List.mem_append_left _ (List.mem_of_getElem? (i := 9) rfl))) (fun _ hh => (List.mem_cons_of_mem _ (List.mem_append_right _ (List.mem_append_right _ (List.mem_append_right _ (List.mem_append_right _ (List.mem_append_right _ (List.mem_append_left _ hh)))))))) gd_c_workAll) rfl rfl rfl (by decide +kernel) ⟨Nat.le_of_ble_eq_true rfl, Nat.le_of_ble_eq_true rfl⟩) ⟨pw_blind, tw_recv hK hT (fx_3 hX) (by decide) cl_e13 rfl, pw_use hT hK hFc hS hM⟩ rfl rfl hl.1 rfl (lv_room (Nat.le_of_ble_eq_true rfl)) dX3_runOn_79 ⟨Nat.le_of_ble_eq_true rfl, Nat.le_of_ble_eq_true rfl⟩) hS (fun q _ h => hFc q h) hFc (fun u0 t H locs ht hvm hw hB hz1 hk1 hS => ?_)
            refine W.widen (k := 0) (n := 0) (Nat.le_of_ble_eq_true rfl) (Nat.le_of_ble_eq_true rfl) ?_
            clear hvm hz1 hk1
            obtain ⟨y_13, hgy_13, hT⟩ := hB
            rw [ht] at hT
            have hG := hG.tr hgy_13 (by decide)
            have hI := hI.ag hgy_13 (by decide)
            refine lv_aload_n hx hb dX3_runOn_82 rfl (lv_at hl 2 rfl) ?_
            refine lv_dup hx hb dX3_runOn_83 rfl ?_
            refine tw_get (D := (dC, dI)) (v := .int (y_13 (a 3) 2)) (C := RX3) (T := TX3) (N := 12) hx hb hts (fun _ hh => (List.mem_cons_of_mem _ (List.mem_append_right _ (List.mem_append_left _ hh)))) hown hK hT (fx_3 hX) (by decide) cl_e13 rfl 2 (by decide) (hts (.fieldLink RX3 9 "TypingPool$Floor" "now" "I") (List.mem_cons_of_mem _ (List.mem_append_left _ (List.mem_of_getElem? (i := 0) rfl)))) (fun _ h9 => h9) rfl dX3_runOn_84 ?_
            refine lv_iload hx hb dX3_runOn_87 (lv_at hl 0 rfl) ?_
            refine lv_iadd hx hb dX3_runOn_89 ?_
            refine lv_topi (fun x_14 ex_14 => ?_)
            refine tw_put (D := (dC, dI)) (x := x_14) (ty := .int) (C := RX3) (T := TX3) (N := 12) hx hb hts (fun _ hh => (List.mem_cons_of_mem _ (List.mem_append_right _ (List.mem_append_left _ hh)))) tyX3 tyX3_ok nmX3 hown hK hT hF hS (fx_3 hX) (by decide) cl_e13 rfl 2 (by decide) (hts (.fieldLink RX3 9 "TypingPool$Floor" "now" "I") (List.mem_cons_of_mem _ (List.mem_append_left _ (List.mem_of_getElem? (i := 0) rfl)))) (fun _ h9 => h9) rfl (tyX3_ok 2 (by decide)) rfl rfl (Nat.le_of_ble_eq_true rfl) rfl dX3_runOn_90 (fun H locs hT hS => ?_)
            obtain ⟨y_15, hy_15, hT⟩ : ∃ z : Nat → Nat → Int32, z = up2 y_13 (a 3) 2 x_14 ∧ tw (dC, dI) a k τ ln z g H := ⟨_, rfl, hT⟩
            have hG : ag τ [13, 24, 27, 30, 31, 32, 33, 34, 35, 36, 37, 38] y y_15 := by rw [hy_15]; exact hG.up (fx_3 hX) (by decide)
            have hI := hI.ag (S := [13]) (y' := y_15) (by rw [hy_15]; exact ag.one (fx_3 hX)) (by decide)
            obtain ⟨x_16, ex_16⟩ : ∃ y : Int32, y = i5 + Int32.ofInt 1 := ⟨_, rfl⟩
            have hx_16 := z_add ex_16 rfl (zk (x := Int32.ofInt 1) 1 rfl) (by omega) (by omega)
            refine lv_iinc (v := x_16) (lv' := [(5, .int x_16), (7, .int x_11), (6, .int x_7), (0, .ref (a 3)), (1, .int p0), (2, .ref b0), (3, .int p1), (4, .int x_1)]) hx hb dX3_runOn_93 hl (k := 7) rfl ex_16.symm (by decide) rfl (fun ls hl => ?_)
            refine lv_goto (tgt := 11) hx hb dX3_runOn_96 (by decide) ?_
            exact ih_11  x_16 y_15 H _ ls (by omega) hG hI (by omega) hT hS (lv_sub hl [3, 4, 5, 6, 7, 0] rfl)
          · have nc_5 := z_eq rfl (zk (x := (-1)) (-1) rfl) c_5
            refine lv_iconst (v := 0) hx hb dX3_runOn_42 (by decide) ?_
            refine lv_goto (tgt := 49) hx hb dX3_runOn_43 (by decide) ?_
            refine lv_ior hx hb dX3_runOn_49 ?_
            refine lv_topi (fun x_17 ex_17 => ?_)
            refine lv_istore (lv' := [(6, .int x_17), (0, .ref (a 3)), (1, .int p0), (2, .ref b0), (3, .int p1), (4, .int x_1), (5, .int i5)]) hx hb dX3_runOn_50 hl (by decide) rfl (fun ls hl => ?_)
            refine lv_aload_n hx hb dX3_runOn_52 rfl (lv_at hl 1 rfl) ?_
            refine lv_iload hx hb dX3_runOn_53 (lv_at hl 0 rfl) ?_
            refine lv_aload_n hx hb dX3_runOn_55 rfl (lv_at hl 3 rfl) ?_
            have hFc := tw_free hF hS hA
            refine va_callv (va_runV (As := [.int x_17, .ref b0]) (rest := []) ⟨hx, hb, hml, hown, hts⟩ (c_takeAllR l dC dI ad av H.size a k τ ln y_L11 g u x_17 b0 hI h_b0) (cwV 2 hts (gi_4 (List.mem_cons_of_mem _ (List.mem_append_left _ (List.mem_of_getElem? (i := 6) rfl))) (List.mem_cons_of_mem _ (List.mem_append_left _ (List.mem_of_getElem? (i := 7) rfl))) (List.mem_cons_of_mem _ (List.mem_append_left _ (List.mem_of_getElem? (i := 8) rfl))) (List.mem_cons_of_mem _ (List.mem_append_left _ (List.mem_of_getElem? (i := 9) rfl))) (fun _ hh => (List.mem_cons_of_mem _ (List.mem_append_right _ (List.mem_append_right _ (List.mem_append_right _ (List.mem_append_left _ hh)))))) gd_c_takeAllR) rfl rfl rfl (by decide +kernel) ⟨Nat.le_of_ble_eq_true rfl, Nat.le_of_ble_eq_true rfl⟩) ⟨pw_blind, tw_recv hK hT (fx_3 hX) (by decide) cl_e13 rfl, pw_use hT hK hFc hS hM⟩ rfl rfl hl.1 rfl (lv_room (Nat.le_of_ble_eq_true rfl)) dX3_runOn_56 ⟨Nat.le_of_ble_eq_true rfl, Nat.le_of_ble_eq_true rfl⟩) hS (fun q _ h => hFc q h) hFc (fun u0 t H locs ht hvm hw hB hz1 hk1 hS => ?_)
            refine W.widen (k := 0) (n := 0) (Nat.le_of_ble_eq_true rfl) (Nat.le_of_ble_eq_true rfl) ?_
            clear hvm hz1 hk1
            obtain ⟨y_19, hgy_19, hT⟩ := hB
            rw [ht] at hT
            have hG := hG.tr hgy_19 (by decide)
            have hI := hI.ag hgy_19 (by decide)
            refine lv_aload_n hx hb dX3_runOn_59 rfl (lv_at hl 1 rfl) ?_
            refine lv_iload hx hb dX3_runOn_60 (lv_at hl 0 rfl) ?_
            refine lv_iload hx hb dX3_runOn_62 (lv_at hl 5 rfl) ?_
            have hFc := tw_free hF hS hA
            refine va_calli (va_runV (As := [.int x_17, .int x_1]) (rest := []) ⟨hx, hb, hml, hown, hts⟩ (c_changeFrom l dC dI ad av H.size a k τ ln y_19 g u x_17 x_1 hI ) (cwV 2 hts (gi_4 (List.mem_cons_of_mem _ (List.mem_append_left _ (List.mem_of_getElem? (i := 10) rfl))) (List.mem_cons_of_mem _ (List.mem_append_left _ (List.mem_of_getElem? (i := 11) rfl))) (List.mem_cons_of_mem _ (List.mem_append_left _ (List.mem_of_getElem? (i := 12) rfl))) (List.mem_cons_of_mem _ (List.mem_append_left _ (List.mem_of_getElem? (i := 9) rfl))) (fun _ hh => (List.mem_cons_of_mem _ (List.mem_append_right _ (List.mem_append_right _ (List.mem_append_right _ (List.mem_append_right _ (List.mem_append_left _ hh))))))) gd_c_changeFrom) rfl rfl rfl (by decide +kernel) ⟨Nat.le_of_ble_eq_true rfl, Nat.le_of_ble_eq_true rfl⟩) ⟨pw_blind, tw_recv hK hT (fx_3 hX) (by decide) cl_e13 rfl, pw_use hT hK hFc hS hM⟩ rfl rfl hl.1 rfl (lv_room (Nat.le_of_ble_eq_true rfl)) dX3_runOn_64 ⟨Nat.le_of_ble_eq_true rfl, Nat.le_of_ble_eq_true rfl⟩) hS (fun q _ h => hFc q h) hFc (fun r0 r_20 t H locs ht hvm hw hB hz1 hk1 hS => ?_)
            refine W.widen (k := 0) (n := 0) (Nat.le_of_ble_eq_true rfl) (Nat.le_of_ble_eq_true rfl) ?_
            clear hvm hz1 hk1
            subst hw
            have hT := hB
            rw [ht] at hT
            refine lv_aload_n hx hb dX3_runOn_67 rfl (lv_at hl 1 rfl) ?_
            refine tw_get (D := (dC, dI)) (v := .int (y_19 (a 3) 2)) (C := RX3) (T := TX3) (N := 12) hx hb hts (fun _ hh => (List.mem_cons_of_mem _ (List.mem_append_right _ (List.mem_append_left _ hh)))) hown hK hT (fx_3 hX) (by decide) cl_e13 rfl 2 (by decide) (hts (.fieldLink RX3 9 "TypingPool$Floor" "now" "I") (List.mem_cons_of_mem _ (List.mem_append_left _ (List.mem_of_getElem? (i := 0) rfl)))) (fun _ h9 => h9) rfl dX3_runOn_68 ?_
            refine lv_isub hx hb dX3_runOn_71 ?_
            refine lv_topi (fun x_21 ex_21 => ?_)
            refine lv_istore (lv' := [(7, .int x_21), (6, .int x_17), (0, .ref (a 3)), (1, .int p0), (2, .ref b0), (3, .int p1), (4, .int x_1), (5, .int i5)]) hx hb dX3_runOn_72 hl (by decide) rfl (fun ls hl => ?_)
            refine lv_aload_n hx hb dX3_runOn_74 rfl (lv_at hl 2 rfl) ?_
            refine lv_iload hx hb dX3_runOn_75 (lv_at hl 1 rfl) ?_
            refine lv_iload hx hb dX3_runOn_77 (lv_at hl 0 rfl) ?_
            have hFc := tw_free hF hS hA
            refine va_callv (va_runV (As := [.int x_17, .int x_21]) (rest := []) ⟨hx, hb, hml, hown, hts⟩ (c_workAll l dC dI ad av H.size a k τ ln y_19 g u x_17 x_21 hI ) (cwV 2 hts (gi_4 (List.mem_cons_of_mem _ (List.mem_append_left _ (List.mem_of_getElem? (i := 13) rfl))) (List.mem_cons_of_mem _ (List.mem_append_left _ (List.mem_of_getElem? (i := 14) rfl))) (List.mem_cons_of_mem _ (List.mem_append_left _ (List.mem_of_getElem? (i := 15) rfl))) (List.mem_cons_of_mem _ (List.mem_append_left _ (List.mem_of_getElem? (i := 9) rfl))) (fun _ hh => (List.mem_cons_of_mem _ (List.mem_append_right _ (List.mem_append_right _ (List.mem_append_right _ (List.mem_append_right _ (List.mem_append_right _ (List.mem_append_left _ hh)))))))) gd_c_workAll) rfl rfl rfl (by decide +kernel) ⟨Nat.le_of_ble_eq_true rfl, Nat.le_of_ble_eq_true rfl⟩) ⟨pw_blind, tw_recv hK hT (fx_3 hX) (by decide) cl_e13 rfl, pw_use hT hK hFc hS hM⟩ rfl rfl hl.1 rfl (lv_room (Nat.le_of_ble_eq_true rfl)) dX3_runOn_79 ⟨Nat.le_of_ble_eq_true rfl, Nat.le_of_ble_eq_true rfl⟩) hS (fun q _ h => hFc q h) hFc (fun u0 t H locs ht hvm hw hB hz1 hk1 hS => ?_)
            refine W.widen (k := 0) (n := 0) (Nat.le_of_ble_eq_true rfl) (Nat.le_of_ble_eq_true rfl) ?_
            clear hvm hz1 hk1
            obtain ⟨y_23, hgy_23, hT⟩ := hB
            rw [ht] at hT
            have hG := hG.tr hgy_23 (by decide)
            have hI := hI.ag hgy_23 (by decide)
            refine lv_aload_n hx hb dX3_runOn_82 rfl (lv_at hl 2 rfl) ?_
            refine lv_dup hx hb dX3_runOn_83 rfl ?_
            refine tw_get (D := (dC, dI)) (v := .int (y_23 (a 3) 2)) (C := RX3) (T := TX3) (N := 12) hx hb hts (fun _ hh => (List.mem_cons_of_mem _ (List.mem_append_right _ (List.mem_append_left _ hh)))) hown hK hT (fx_3 hX) (by decide) cl_e13 rfl 2 (by decide) (hts (.fieldLink RX3 9 "TypingPool$Floor" "now" "I") (List.mem_cons_of_mem _ (List.mem_append_left _ (List.mem_of_getElem? (i := 0) rfl)))) (fun _ h9 => h9) rfl dX3_runOn_84 ?_
            refine lv_iload hx hb dX3_runOn_87 (lv_at hl 0 rfl) ?_
            refine lv_iadd hx hb dX3_runOn_89 ?_
            refine lv_topi (fun x_24 ex_24 => ?_)
            refine tw_put (D := (dC, dI)) (x := x_24) (ty := .int) (C := RX3) (T := TX3) (N := 12) hx hb hts (fun _ hh => (List.mem_cons_of_mem _ (List.mem_append_right _ (List.mem_append_left _ hh)))) tyX3 tyX3_ok nmX3 hown hK hT hF hS (fx_3 hX) (by decide) cl_e13 rfl 2 (by decide) (hts (.fieldLink RX3 9 "TypingPool$Floor" "now" "I") (List.mem_cons_of_mem _ (List.mem_append_left _ (List.mem_of_getElem? (i := 0) rfl)))) (fun _ h9 => h9) rfl (tyX3_ok 2 (by decide)) rfl rfl (Nat.le_of_ble_eq_true rfl) rfl dX3_runOn_90 (fun H locs hT hS => ?_)
            obtain ⟨y_25, hy_25, hT⟩ : ∃ z : Nat → Nat → Int32, z = up2 y_23 (a 3) 2 x_24 ∧ tw (dC, dI) a k τ ln z g H := ⟨_, rfl, hT⟩
            have hG : ag τ [13, 24, 27, 30, 31, 32, 33, 34, 35, 36, 37, 38] y y_25 := by rw [hy_25]; exact hG.up (fx_3 hX) (by decide)
            have hI := hI.ag (S := [13]) (y' := y_25) (by rw [hy_25]; exact ag.one (fx_3 hX)) (by decide)
            obtain ⟨x_26, ex_26⟩ : ∃ y : Int32, y = i5 + Int32.ofInt 1 := ⟨_, rfl⟩
            have hx_26 := z_add ex_26 rfl (zk (x := Int32.ofInt 1) 1 rfl) (by omega) (by omega)
            refine lv_iinc (v := x_26) (lv' := [(5, .int x_26), (7, .int x_21), (6, .int x_17), (0, .ref (a 3)), (1, .int p0), (2, .ref b0), (3, .int p1), (4, .int x_1)]) hx hb dX3_runOn_93 hl (k := 7) rfl ex_26.symm (by decide) rfl (fun ls hl => ?_)
            refine lv_goto (tgt := 11) hx hb dX3_runOn_96 (by decide) ?_
            exact ih_11  x_26 y_25 H _ ls (by omega) hG hI (by omega) hT hS (lv_sub hl [3, 4, 5, 6, 7, 0] rfl)
  have hp_27 : (0 : Int32).toInt = 0 := (zk (x := 0) 0 rfl)
  exact loop_11 _ (0 : Int32) y s.heap _ ls (Nat.lt_succ_self _) hG hI (by omega) hT hS (lv_sub hl [2, 3, 4, 5, 1, 0] rfl)
def wo_c_todayt : List Cond := [.fieldLink RX3 9 "TypingPool$Floor" "now" "I"]
def wm_c_todayt : List Cond := .code yX3_today cX3_today 1 (some .int) :: (wo_c_todayt ++ (wsX30 ++ ([] : List Cond)))
theorem gd_c_todayt : ∀ w ∈ wm_c_todayt, goodWord w = true := gd_c rfl (gd_a (by decide) (gd_a gd_wsX30 gd_nil))
set_option maxRecDepth 20000 in
theorem im_c_todayt : ∀ w ∈ wm_c_todayt, w ∈ lw_tbl := im_c (in_r [.code yX3_today cX3_today 1 (some .int)] [778] (by decide +kernel)) (in_app (in_r wo_c_todayt [428] (by decide +kernel)) (in_app im_wsX30 im_nil))
set_option maxHeartbeats 4000000 in
set_option maxRecDepth 100000 in
theorem c_todayt (l : Launch) (dC : Nat → ClassId) (dI : Nat → Nat → Nat) (ad av : Nat → Nat) (sz : Nat) (a : Nat → Nat) (k : Nat → ClassId) (τ ln : Nat → Nat) (y : Nat → Nat → Int32) (g : Nat → Nat → Option Nat) (u : Nat → Int) (hI : IC a u τ ln y g) : Met l yX3_today wm_c_todayt ({ frames := 0, cells := 0, slots := 0, locals := 0 }) (pw_ ad av (dC, dI) sz [.ref (a 4)] a k τ ln y g) (va_Qi (fun (r u : Int32) => u = r) (fun (r : Int32) (t : State) => (tw (dC, dI) a k τ ln y g t.heap)) (fr τ sz)) 0 0 (fr τ sz) := by
  refine Met.ofW (cc := cX3_today) (maxL := 1) (ret := (some .int)) (by decide) rfl ?_
  intro p e s m args below meth c s₁ B hml hv
  obtain ⟨rfl, hsz, hT, hK, hM⟩ := hv
  have hx := B.exec
  have hb := B.bytes
  have hr := B.returns
  have hts := atoms_spec (ws := wm_c_todayt) B.pre
  have hown : s.vm.findClass RX3 = some m.cls := findClass_of_methodNamed B.named
  have hlocks := B.notSynchronized
  subst hsz
  generalize hAe : fr τ s.heap.size = A at hM ⊢
  have hA : ∀ q : Nat, s.heap.size ≤ q → A q := fun q h => by rw [← hAe]; exact Or.inr h
  have hF : ∀ q, τ q ≠ 0 → A q := fun q h => by rw [← hAe]; exact Or.inl h
  have hS : va_S A s.heap s.heap [] := va_S.rf
  have hX := hI.1
  have hR := ic_r hI
  have hl := lv_entry ([.ref (a 4)]) (n := 1) (Nat.le_of_ble_eq_true rfl)
  rw [lg_entry_eq]
  generalize (lg_sl ([.ref (a 4)]) ++ List.replicate (1 - (lg_sl ([.ref (a 4)])).length) Slot.unset).toArray = ls at hl ⊢
  have hl : lv_has ls 1 [(0, .ref (a 4))] := hl
  refine lv_aload_n hx hb dX3_today_0 rfl (lv_at hl 0 rfl) ?_
  refine tw_get (D := (dC, dI)) (v := .int (y (a 4) 2)) (C := RX3) (T := TX3) (N := 12) hx hb hts (fun _ hh => (List.mem_cons_of_mem _ (List.mem_append_right _ (List.mem_append_left _ hh)))) hown hK hT (fx_4 hX) (by decide) cl_e14 rfl 2 (by decide) (hts (.fieldLink RX3 9 "TypingPool$Floor" "now" "I") (List.mem_cons_of_mem _ (List.mem_append_left _ (List.mem_of_getElem? (i := 0) rfl)))) (fun _ h9 => h9) rfl dX3_today_1 ?_
  refine lv_sipush (v := 480) hx hb dX3_today_4 (by decide) ?_
  refine lv_idiv hx hb dX3_today_7 (by decide) ?_
  refine lv_topi (fun x_1 ex_1 => ?_)
  exact W.iret (v := x_1) hx hb hr (fun t ht hW9 => ⟨⟨x_1, x_1, rfl, rfl, (tw_at ht hT)⟩, hS.F ht⟩) hS.2.2 dX3_today_8
def wo_c_stateOft : List Cond := [.fieldLink RX3 34 "TypingPool$Floor" "done" "[I", .fieldLink RX3 31 "TypingPool$Floor" "taken" "[I", .fieldLink RX3 43 "TypingPool$Floor" "book" "LTypingPool$Book;", .fieldLink RX3 103 "TypingPool$Book" "pieces" "[LTypingPool$Piece;", .fieldLink RX3 184 "TypingPool$Piece" "comes" "I", .fieldLink RX3 9 "TypingPool$Floor" "now" "I"]
def wm_c_stateOft : List Cond := .code yX3_stateOf cX3_stateOf 2 (some .int) :: (wo_c_stateOft ++ (wsX30 ++ (wsX10 ++ (wsX60 ++ ([] : List Cond)))))
theorem gd_c_stateOft : ∀ w ∈ wm_c_stateOft, goodWord w = true := gd_c rfl (gd_a (by decide) (gd_a gd_wsX30 (gd_a gd_wsX10 (gd_a gd_wsX60 gd_nil))))
set_option maxRecDepth 20000 in
theorem im_c_stateOft : ∀ w ∈ wm_c_stateOft, w ∈ lw_tbl := im_c (in_r [.code yX3_stateOf cX3_stateOf 2 (some .int)] [770] (by decide +kernel)) (in_app (in_r wo_c_stateOft [446, 444, 426, 130, 681, 428] (by decide +kernel)) (in_app im_wsX30 (in_app im_wsX10 (in_app im_wsX60 im_nil))))
set_option maxHeartbeats 4000000 in
set_option maxRecDepth 100000 in
theorem c_stateOft (l : Launch) (dC : Nat → ClassId) (dI : Nat → Nat → Nat) (ad av : Nat → Nat) (sz : Nat) (a : Nat → Nat) (k : Nat → ClassId) (τ ln : Nat → Nat) (y : Nat → Nat → Int32) (g : Nat → Nat → Option Nat) (u : Nat → Int) (p0 : Int32) (hI : IC a u τ ln y g) (hlp0 : 0 ≤ p0.toInt) (hup0 : p0.toInt < u 2) : Met l yX3_stateOf wm_c_stateOft ({ frames := 0, cells := 0, slots := 0, locals := 0 }) (pw_ ad av (dC, dI) sz [.ref (a 4), .int p0] a k τ ln y g) (va_Qi (fun (r u : Int32) => u = r) (fun (r : Int32) (t : State) => (tw (dC, dI) a k τ ln y g t.heap)) (fr τ sz)) 0 0 (fr τ sz) := by
  refine Met.ofW (cc := cX3_stateOf) (maxL := 2) (ret := (some .int)) (by decide) rfl ?_
  intro p e s m args below meth c s₁ B hml hv
  obtain ⟨rfl, hsz, hT, hK, hM⟩ := hv
  have hx := B.exec
  have hb := B.bytes
  have hr := B.returns
  have hts := atoms_spec (ws := wm_c_stateOft) B.pre
  have hown : s.vm.findClass RX3 = some m.cls := findClass_of_methodNamed B.named
  have hlocks := B.notSynchronized
  subst hsz
  generalize hAe : fr τ s.heap.size = A at hM ⊢
  have hA : ∀ q : Nat, s.heap.size ≤ q → A q := fun q h => by rw [← hAe]; exact Or.inr h
  have hF : ∀ q, τ q ≠ 0 → A q := fun q h => by rw [← hAe]; exact Or.inl h
  have hS : va_S A s.heap s.heap [] := va_S.rf
  have hX := hI.1
  have hR := ic_r hI
  have hl := lv_entry ([.ref (a 4), .int p0]) (n := 2) (Nat.le_of_ble_eq_true rfl)
  rw [lg_entry_eq]
  generalize (lg_sl ([.ref (a 4), .int p0]) ++ List.replicate (2 - (lg_sl ([.ref (a 4), .int p0])).length) Slot.unset).toArray = ls at hl ⊢
  have hl : lv_has ls 2 [(0, .ref (a 4)), (1, .int p0)] := hl
  refine lv_aload_n hx hb dX3_stateOf_0 rfl (lv_at hl 0 rfl) ?_
  refine tw_get (D := (dC, dI)) (v := .ref (a 36)) (C := RX3) (T := TX3) (N := 12) hx hb hts (fun _ hh => (List.mem_cons_of_mem _ (List.mem_append_right _ (List.mem_append_left _ hh)))) hown hK hT (fx_4 hX) (by decide) cl_e14 rfl 9 (by decide) (hts (.fieldLink RX3 34 "TypingPool$Floor" "done" "[I") (List.mem_cons_of_mem _ (List.mem_append_left _ (List.mem_of_getElem? (i := 0) rfl)))) (fun _ h9 => h9) rfl dX3_stateOf_1 ?_
  refine lv_iload_n hx hb dX3_stateOf_4 rfl (lv_at hl 1 rfl) ?_
  refine tw_iald hx hb hK hT 0 (fx_36 hX) (by decide) cl_e46 rfl (z_in rfl (by omega) (by omega)) dX3_stateOf_5 ?_
  refine lv_iconst (v := (-1)) hx hb dX3_stateOf_6 (by decide) ?_
  refine lv_icmp_eq (tgt := 12) hx hb dX3_stateOf_7 (by decide) (fun c_1 => ?_) (fun c_1 => ?_)
  · have nc_1 := z_eq rfl (zk (x := (-1)) (-1) rfl) c_1
    refine lv_aload_n hx hb dX3_stateOf_12 rfl (lv_at hl 0 rfl) ?_
    refine tw_get (D := (dC, dI)) (v := .ref (a 35)) (C := RX3) (T := TX3) (N := 12) hx hb hts (fun _ hh => (List.mem_cons_of_mem _ (List.mem_append_right _ (List.mem_append_left _ hh)))) hown hK hT (fx_4 hX) (by decide) cl_e14 rfl 8 (by decide) (hts (.fieldLink RX3 31 "TypingPool$Floor" "taken" "[I") (List.mem_cons_of_mem _ (List.mem_append_left _ (List.mem_of_getElem? (i := 1) rfl)))) (fun _ h9 => h9) rfl dX3_stateOf_13 ?_
    refine lv_iload_n hx hb dX3_stateOf_16 rfl (lv_at hl 1 rfl) ?_
    refine tw_iald hx hb hK hT 0 (fx_35 hX) (by decide) cl_e45 rfl (z_in rfl (by omega) (by omega)) dX3_stateOf_17 ?_
    refine lv_iconst (v := (-1)) hx hb dX3_stateOf_18 (by decide) ?_
    refine lv_icmp_eq (tgt := 24) hx hb dX3_stateOf_19 (by decide) (fun c_2 => ?_) (fun c_2 => ?_)
    · have nc_2 := z_eq rfl (zk (x := (-1)) (-1) rfl) c_2
      refine lv_aload_n hx hb dX3_stateOf_24 rfl (lv_at hl 0 rfl) ?_
      refine tw_get (D := (dC, dI)) (v := .ref (a 1)) (C := RX3) (T := TX3) (N := 12) hx hb hts (fun _ hh => (List.mem_cons_of_mem _ (List.mem_append_right _ (List.mem_append_left _ hh)))) hown hK hT (fx_4 hX) (by decide) cl_e14 rfl 0 (by decide) (hts (.fieldLink RX3 43 "TypingPool$Floor" "book" "LTypingPool$Book;") (List.mem_cons_of_mem _ (List.mem_append_left _ (List.mem_of_getElem? (i := 2) rfl)))) (fun _ h9 => h9) rfl dX3_stateOf_25 ?_
      refine tw_get (D := (dC, dI)) (v := .ref (a 11)) (C := RX1) (T := TX1) (N := 8) hx hb hts (fun _ hh => (List.mem_cons_of_mem _ (List.mem_append_right _ (List.mem_append_right _ (List.mem_append_left _ hh))))) hown hK hT (fx_1 hX) (by decide) cl_e11 rfl 4 (by decide) (hts (.fieldLink RX3 103 "TypingPool$Book" "pieces" "[LTypingPool$Piece;") (List.mem_cons_of_mem _ (List.mem_append_left _ (List.mem_of_getElem? (i := 3) rfl)))) (fun _ h9 => h9) rfl dX3_stateOf_28 ?_
      refine lv_iload_n hx hb dX3_stateOf_31 rfl (lv_at hl 1 rfl) ?_
      refine tw_aald hx hb hK hT 4 (fx_11 hX) (by decide) cl_e21 rfl (z_in rfl (by omega) (by omega)) dX3_stateOf_32 ?_
      obtain ⟨q_3, hgq_3, htq_3⟩ := ic_l11 hI (x := p0) rfl (by omega) (by omega)
      refine lq_topr hgq_3 ?_
      refine tw_get (D := (dC, dI)) (v := .int (y q_3 5)) (C := RX6) (T := TX6) (N := 11) hx hb hts (fun _ hh => (List.mem_cons_of_mem _ (List.mem_append_right _ (List.mem_append_right _ (List.mem_append_right _ (List.mem_append_left _ hh)))))) hown hK hT htq_3 (by decide) cl_e2 rfl 5 (by decide) (hts (.fieldLink RX3 184 "TypingPool$Piece" "comes" "I") (List.mem_cons_of_mem _ (List.mem_append_left _ (List.mem_of_getElem? (i := 4) rfl)))) (fun _ h9 => h9) rfl dX3_stateOf_33 ?_
      refine lv_aload_n hx hb dX3_stateOf_36 rfl (lv_at hl 0 rfl) ?_
      refine tw_get (D := (dC, dI)) (v := .int (y (a 4) 2)) (C := RX3) (T := TX3) (N := 12) hx hb hts (fun _ hh => (List.mem_cons_of_mem _ (List.mem_append_right _ (List.mem_append_left _ hh)))) hown hK hT (fx_4 hX) (by decide) cl_e14 rfl 2 (by decide) (hts (.fieldLink RX3 9 "TypingPool$Floor" "now" "I") (List.mem_cons_of_mem _ (List.mem_append_left _ (List.mem_of_getElem? (i := 5) rfl)))) (fun _ h9 => h9) rfl dX3_stateOf_37 ?_
      refine lv_icmp_gt (tgt := 47) hx hb dX3_stateOf_40 (by decide) (fun c_4 => ?_) (fun c_4 => ?_)
      · have nc_4 := z_lt rfl rfl c_4
        refine lv_iconst (v := 0) hx hb dX3_stateOf_47 (by decide) ?_
        exact W.iret (v := 0) hx hb hr (fun t ht hW9 => ⟨⟨0, 0, rfl, rfl, (tw_at ht hT)⟩, hS.F ht⟩) hS.2.2 dX3_stateOf_48
      · have nc_4 := z_nlt rfl rfl c_4
        refine lv_iconst (v := 1) hx hb dX3_stateOf_43 (by decide) ?_
        refine lv_goto (tgt := 48) hx hb dX3_stateOf_44 (by decide) ?_
        exact W.iret (v := 1) hx hb hr (fun t ht hW9 => ⟨⟨1, 1, rfl, rfl, (tw_at ht hT)⟩, hS.F ht⟩) hS.2.2 dX3_stateOf_48
    · have nc_2 := z_ne rfl (zk (x := (-1)) (-1) rfl) c_2
      refine lv_iconst (v := 2) hx hb dX3_stateOf_22 (by decide) ?_
      exact W.iret (v := 2) hx hb hr (fun t ht hW9 => ⟨⟨2, 2, rfl, rfl, (tw_at ht hT)⟩, hS.F ht⟩) hS.2.2 dX3_stateOf_23
  · have nc_1 := z_ne rfl (zk (x := (-1)) (-1) rfl) c_1
    refine lv_iconst (v := 3) hx hb dX3_stateOf_10 (by decide) ?_
    exact W.iret (v := 3) hx hb hr (fun t ht hW9 => ⟨⟨3, 3, rfl, rfl, (tw_at ht hT)⟩, hS.F ht⟩) hS.2.2 dX3_stateOf_11
def wo_c_isDoneByt : List Cond := [.fieldLink RX3 34 "TypingPool$Floor" "done" "[I", .fieldLink RX3 28 "TypingPool$Floor" "by" "[I"]
def wm_c_isDoneByt : List Cond := .code yX3_isDoneBy cX3_isDoneBy 3 (some .boolean) :: (wo_c_isDoneByt ++ (wsX30 ++ ([] : List Cond)))
theorem gd_c_isDoneByt : ∀ w ∈ wm_c_isDoneByt, goodWord w = true := gd_c rfl (gd_a (by decide) (gd_a gd_wsX30 gd_nil))
set_option maxRecDepth 20000 in
theorem im_c_isDoneByt : ∀ w ∈ wm_c_isDoneByt, w ∈ lw_tbl := im_c (in_r [.code yX3_isDoneBy cX3_isDoneBy 3 (some .boolean)] [969] (by decide +kernel)) (in_app (in_r wo_c_isDoneByt [446, 442] (by decide +kernel)) (in_app im_wsX30 im_nil))
set_option maxHeartbeats 4000000 in
set_option maxRecDepth 100000 in
theorem c_isDoneByt (l : Launch) (dC : Nat → ClassId) (dI : Nat → Nat → Nat) (ad av : Nat → Nat) (sz : Nat) (a : Nat → Nat) (k : Nat → ClassId) (τ ln : Nat → Nat) (y : Nat → Nat → Int32) (g : Nat → Nat → Option Nat) (u : Nat → Int) (p0 : Int32) (p1 : Int32) (hI : IC a u τ ln y g) (hlp0 : 0 ≤ p0.toInt) (hup0 : p0.toInt < u 2) : Met l yX3_isDoneBy wm_c_isDoneByt ({ frames := 0, cells := 0, slots := 0, locals := 0 }) (pw_ ad av (dC, dI) sz [.ref (a 4), .int p0, .int p1] a k τ ln y g) (va_Qi (fun (r u : Int32) => u = r) (fun (r : Int32) (t : State) => (r = 1 ∧ tw (dC, dI) a k τ ln y g t.heap) ∨ (r = 0 ∧ tw (dC, dI) a k τ ln y g t.heap)) (fr τ sz)) 0 0 (fr τ sz) := by
  refine Met.ofW (cc := cX3_isDoneBy) (maxL := 3) (ret := (some .boolean)) (by decide) rfl ?_
  intro p e s m args below meth c s₁ B hml hv
  obtain ⟨rfl, hsz, hT, hK, hM⟩ := hv
  have hx := B.exec
  have hb := B.bytes
  have hr := B.returns
  have hts := atoms_spec (ws := wm_c_isDoneByt) B.pre
  have hown : s.vm.findClass RX3 = some m.cls := findClass_of_methodNamed B.named
  have hlocks := B.notSynchronized
  subst hsz
  generalize hAe : fr τ s.heap.size = A at hM ⊢
  have hA : ∀ q : Nat, s.heap.size ≤ q → A q := fun q h => by rw [← hAe]; exact Or.inr h
  have hF : ∀ q, τ q ≠ 0 → A q := fun q h => by rw [← hAe]; exact Or.inl h
  have hS : va_S A s.heap s.heap [] := va_S.rf
  have hX := hI.1
  have hR := ic_r hI
  have hl := lv_entry ([.ref (a 4), .int p0, .int p1]) (n := 3) (Nat.le_of_ble_eq_true rfl)
  rw [lg_entry_eq]
  generalize (lg_sl ([.ref (a 4), .int p0, .int p1]) ++ List.replicate (3 - (lg_sl ([.ref (a 4), .int p0, .int p1])).length) Slot.unset).toArray = ls at hl ⊢
  have hl : lv_has ls 3 [(0, .ref (a 4)), (1, .int p0), (2, .int p1)] := hl
  refine lv_aload_n hx hb dX3_isDoneBy_0 rfl (lv_at hl 0 rfl) ?_
  refine tw_get (D := (dC, dI)) (v := .ref (a 36)) (C := RX3) (T := TX3) (N := 12) hx hb hts (fun _ hh => (List.mem_cons_of_mem _ (List.mem_append_right _ (List.mem_append_left _ hh)))) hown hK hT (fx_4 hX) (by decide) cl_e14 rfl 9 (by decide) (hts (.fieldLink RX3 34 "TypingPool$Floor" "done" "[I") (List.mem_cons_of_mem _ (List.mem_append_left _ (List.mem_of_getElem? (i := 0) rfl)))) (fun _ h9 => h9) rfl dX3_isDoneBy_1 ?_
  refine lv_iload_n hx hb dX3_isDoneBy_4 rfl (lv_at hl 1 rfl) ?_
  refine tw_iald hx hb hK hT 0 (fx_36 hX) (by decide) cl_e46 rfl (z_in rfl (by omega) (by omega)) dX3_isDoneBy_5 ?_
  refine lv_iconst (v := (-1)) hx hb dX3_isDoneBy_6 (by decide) ?_
  refine lv_icmp_eq (tgt := 24) hx hb dX3_isDoneBy_7 (by decide) (fun c_1 => ?_) (fun c_1 => ?_)
  · have nc_1 := z_eq rfl (zk (x := (-1)) (-1) rfl) c_1
    refine lv_iconst (v := 0) hx hb dX3_isDoneBy_24 (by decide) ?_
    exact W.zret (v := 0) hx hb hr (by decide) (fun t ht hW9 => ⟨⟨0, 0, rfl, rfl, Or.inr (⟨rfl, tw_at ht hT⟩)⟩, hS.F ht⟩) hS.2.2 dX3_isDoneBy_25
  · have nc_1 := z_ne rfl (zk (x := (-1)) (-1) rfl) c_1
    refine lv_aload_n hx hb dX3_isDoneBy_10 rfl (lv_at hl 0 rfl) ?_
    refine tw_get (D := (dC, dI)) (v := .ref (a 34)) (C := RX3) (T := TX3) (N := 12) hx hb hts (fun _ hh => (List.mem_cons_of_mem _ (List.mem_append_right _ (List.mem_append_left _ hh)))) hown hK hT (fx_4 hX) (by decide) cl_e14 rfl 7 (by decide) (hts (.fieldLink RX3 28 "TypingPool$Floor" "by" "[I") (List.mem_cons_of_mem _ (List.mem_append_left _ (List.mem_of_getElem? (i := 1) rfl)))) (fun _ h9 => h9) rfl dX3_isDoneBy_11 ?_
    refine lv_iload_n hx hb dX3_isDoneBy_14 rfl (lv_at hl 1 rfl) ?_
    refine tw_iald hx hb hK hT 0 (fx_34 hX) (by decide) cl_e44 rfl (z_in rfl (by omega) (by omega)) dX3_isDoneBy_15 ?_
    refine lv_iload_n hx hb dX3_isDoneBy_16 rfl (lv_at hl 2 rfl) ?_
    refine lv_icmp_ne (tgt := 24) hx hb dX3_isDoneBy_17 (by decide) (fun c_2 => ?_) (fun c_2 => ?_)
    · have nc_2 := z_ne rfl rfl c_2
      refine lv_iconst (v := 0) hx hb dX3_isDoneBy_24 (by decide) ?_
      exact W.zret (v := 0) hx hb hr (by decide) (fun t ht hW9 => ⟨⟨0, 0, rfl, rfl, Or.inr (⟨rfl, tw_at ht hT⟩)⟩, hS.F ht⟩) hS.2.2 dX3_isDoneBy_25
    · have nc_2 := z_eq rfl rfl c_2
      refine lv_iconst (v := 1) hx hb dX3_isDoneBy_20 (by decide) ?_
      refine lv_goto (tgt := 25) hx hb dX3_isDoneBy_21 (by decide) ?_
      exact W.zret (v := 1) hx hb hr (by decide) (fun t ht hW9 => ⟨⟨1, 1, rfl, rfl, Or.inl ⟨rfl, tw_at ht hT⟩⟩, hS.F ht⟩) hS.2.2 dX3_isDoneBy_25
def wo_c_minutesLatet : List Cond := [.fieldLink RX3 34 "TypingPool$Floor" "done" "[I", .fieldLink RX3 43 "TypingPool$Floor" "book" "LTypingPool$Book;", .fieldLink RX3 103 "TypingPool$Book" "pieces" "[LTypingPool$Piece;", .fieldLink RX3 190 "TypingPool$Piece" "due" "I", .methodLink RX3 121 Lib.Math.max.name, .static Lib.Math.max.name, .initialized "java/lang/Math", .code Lib.Math.max.name Lib.Math.max.code 2 (some .int), .fieldLink RX3 9 "TypingPool$Floor" "now" "I"]
def wm_c_minutesLatet : List Cond := .code yX3_minutesLate cX3_minutesLate 3 (some .int) :: (wo_c_minutesLatet ++ (wsX30 ++ (wsX10 ++ (wsX60 ++ ([] : List Cond)))))
theorem gd_c_minutesLatet : ∀ w ∈ wm_c_minutesLatet, goodWord w = true := gd_c rfl (gd_a (by decide) (gd_a gd_wsX30 (gd_a gd_wsX10 (gd_a gd_wsX60 gd_nil))))
set_option maxRecDepth 20000 in
theorem im_c_minutesLatet : ∀ w ∈ wm_c_minutesLatet, w ∈ lw_tbl := im_c (in_r [.code yX3_minutesLate cX3_minutesLate 3 (some .int)] [868] (by decide +kernel)) (in_app (in_r wo_c_minutesLatet [446, 426, 130, 684, 823, 289, 78, 290, 428] (by decide +kernel)) (in_app im_wsX30 (in_app im_wsX10 (in_app im_wsX60 im_nil))))
set_option maxHeartbeats 4000000 in
set_option maxRecDepth 100000 in
theorem c_minutesLatet (l : Launch) (dC : Nat → ClassId) (dI : Nat → Nat → Nat) (ad av : Nat → Nat) (sz : Nat) (a : Nat → Nat) (k : Nat → ClassId) (τ ln : Nat → Nat) (y : Nat → Nat → Int32) (g : Nat → Nat → Option Nat) (u : Nat → Int) (p0 : Int32) (hI : IC a u τ ln y g) (hlp0 : 0 ≤ p0.toInt) (hup0 : p0.toInt < u 2) : Met l yX3_minutesLate wm_c_minutesLatet ({ frames := 2, cells := 0, slots := 0, locals := 80 }) (pw_ ad av (dC, dI) sz [.ref (a 4), .int p0] a k τ ln y g) (va_Qi (fun (r u : Int32) => u = r) (fun (r : Int32) (t : State) => (tw (dC, dI) a k τ ln y g t.heap)) (fr τ sz)) 0 0 (fr τ sz) := by
  refine Met.ofW (cc := cX3_minutesLate) (maxL := 3) (ret := (some .int)) (by decide) rfl ?_
  intro p e s m args below meth c s₁ B hml hv
  obtain ⟨rfl, hsz, hT, hK, hM⟩ := hv
  have hx := B.exec
  have hb := B.bytes
  have hr := B.returns
  have hts := atoms_spec (ws := wm_c_minutesLatet) B.pre
  have hown : s.vm.findClass RX3 = some m.cls := findClass_of_methodNamed B.named
  have hlocks := B.notSynchronized
  subst hsz
  generalize hAe : fr τ s.heap.size = A at hM ⊢
  have hA : ∀ q : Nat, s.heap.size ≤ q → A q := fun q h => by rw [← hAe]; exact Or.inr h
  have hF : ∀ q, τ q ≠ 0 → A q := fun q h => by rw [← hAe]; exact Or.inl h
  have hS : va_S A s.heap s.heap [] := va_S.rf
  have hX := hI.1
  have hR := ic_r hI
  have hl := lv_entry ([.ref (a 4), .int p0]) (n := 3) (Nat.le_of_ble_eq_true rfl)
  rw [lg_entry_eq]
  generalize (lg_sl ([.ref (a 4), .int p0]) ++ List.replicate (3 - (lg_sl ([.ref (a 4), .int p0])).length) Slot.unset).toArray = ls at hl ⊢
  have hl : lv_has ls 3 [(0, .ref (a 4)), (1, .int p0)] := hl
  refine lv_aload_n hx hb dX3_minutesLate_0 rfl (lv_at hl 0 rfl) ?_
  refine tw_get (D := (dC, dI)) (v := .ref (a 36)) (C := RX3) (T := TX3) (N := 12) hx hb hts (fun _ hh => (List.mem_cons_of_mem _ (List.mem_append_right _ (List.mem_append_left _ hh)))) hown hK hT (fx_4 hX) (by decide) cl_e14 rfl 9 (by decide) (hts (.fieldLink RX3 34 "TypingPool$Floor" "done" "[I") (List.mem_cons_of_mem _ (List.mem_append_left _ (List.mem_of_getElem? (i := 0) rfl)))) (fun _ h9 => h9) rfl dX3_minutesLate_1 ?_
  refine lv_iload_n hx hb dX3_minutesLate_4 rfl (lv_at hl 1 rfl) ?_
  refine tw_iald hx hb hK hT 0 (fx_36 hX) (by decide) cl_e46 rfl (z_in rfl (by omega) (by omega)) dX3_minutesLate_5 ?_
  refine lv_iconst (v := (-1)) hx hb dX3_minutesLate_6 (by decide) ?_
  refine lv_icmp_ne (tgt := 17) hx hb dX3_minutesLate_7 (by decide) (fun c_1 => ?_) (fun c_1 => ?_)
  · have nc_1 := z_ne rfl (zk (x := (-1)) (-1) rfl) c_1
    refine lv_aload_n hx hb dX3_minutesLate_17 rfl (lv_at hl 0 rfl) ?_
    refine tw_get (D := (dC, dI)) (v := .ref (a 36)) (C := RX3) (T := TX3) (N := 12) hx hb hts (fun _ hh => (List.mem_cons_of_mem _ (List.mem_append_right _ (List.mem_append_left _ hh)))) hown hK hT (fx_4 hX) (by decide) cl_e14 rfl 9 (by decide) (hts (.fieldLink RX3 34 "TypingPool$Floor" "done" "[I") (List.mem_cons_of_mem _ (List.mem_append_left _ (List.mem_of_getElem? (i := 0) rfl)))) (fun _ h9 => h9) rfl dX3_minutesLate_18 ?_
    refine lv_iload_n hx hb dX3_minutesLate_21 rfl (lv_at hl 1 rfl) ?_
    refine tw_iald hx hb hK hT 0 (fx_36 hX) (by decide) cl_e46 rfl (z_in rfl (by omega) (by omega)) dX3_minutesLate_22 ?_
    refine lv_istore_n (lv' := [(2, .int (y (a 36) p0.toNatClampNeg)), (0, .ref (a 4)), (1, .int p0)]) hx hb dX3_minutesLate_23 rfl hl (by decide) rfl (fun ls hl => ?_)
    refine lv_iconst (v := 0) hx hb dX3_minutesLate_24 (by decide) ?_
    refine lv_iload_n hx hb dX3_minutesLate_25 rfl (lv_at hl 0 rfl) ?_
    refine lv_aload_n hx hb dX3_minutesLate_26 rfl (lv_at hl 1 rfl) ?_
    refine tw_get (D := (dC, dI)) (v := .ref (a 1)) (C := RX3) (T := TX3) (N := 12) hx hb hts (fun _ hh => (List.mem_cons_of_mem _ (List.mem_append_right _ (List.mem_append_left _ hh)))) hown hK hT (fx_4 hX) (by decide) cl_e14 rfl 0 (by decide) (hts (.fieldLink RX3 43 "TypingPool$Floor" "book" "LTypingPool$Book;") (List.mem_cons_of_mem _ (List.mem_append_left _ (List.mem_of_getElem? (i := 1) rfl)))) (fun _ h9 => h9) rfl dX3_minutesLate_27 ?_
    refine tw_get (D := (dC, dI)) (v := .ref (a 11)) (C := RX1) (T := TX1) (N := 8) hx hb hts (fun _ hh => (List.mem_cons_of_mem _ (List.mem_append_right _ (List.mem_append_right _ (List.mem_append_left _ hh))))) hown hK hT (fx_1 hX) (by decide) cl_e11 rfl 4 (by decide) (hts (.fieldLink RX3 103 "TypingPool$Book" "pieces" "[LTypingPool$Piece;") (List.mem_cons_of_mem _ (List.mem_append_left _ (List.mem_of_getElem? (i := 2) rfl)))) (fun _ h9 => h9) rfl dX3_minutesLate_30 ?_
    refine lv_iload_n hx hb dX3_minutesLate_33 rfl (lv_at hl 2 rfl) ?_
    refine tw_aald hx hb hK hT 4 (fx_11 hX) (by decide) cl_e21 rfl (z_in rfl (by omega) (by omega)) dX3_minutesLate_34 ?_
    obtain ⟨q_2, hgq_2, htq_2⟩ := ic_l11 hI (x := p0) rfl (by omega) (by omega)
    refine lq_topr hgq_2 ?_
    refine tw_get (D := (dC, dI)) (v := .int (y q_2 6)) (C := RX6) (T := TX6) (N := 11) hx hb hts (fun _ hh => (List.mem_cons_of_mem _ (List.mem_append_right _ (List.mem_append_right _ (List.mem_append_right _ (List.mem_append_left _ hh)))))) hown hK hT htq_2 (by decide) cl_e2 rfl 6 (by decide) (hts (.fieldLink RX3 190 "TypingPool$Piece" "due" "I") (List.mem_cons_of_mem _ (List.mem_append_left _ (List.mem_of_getElem? (i := 3) rfl)))) (fun _ h9 => h9) rfl dX3_minutesLate_35 ?_
    refine lv_isub hx hb dX3_minutesLate_38 ?_
    refine lv_topi (fun x_3 ex_3 => ?_)
    refine va_mmax hx hb (by rw [hml]; exact hl.1.symm) hown (hts (.methodLink RX3 121 Lib.Math.max.name) (List.mem_cons_of_mem _ (List.mem_append_left _ (List.mem_of_getElem? (i := 4) rfl)))) (hts (.static Lib.Math.max.name) (List.mem_cons_of_mem _ (List.mem_append_left _ (List.mem_of_getElem? (i := 5) rfl)))) (hts (.initialized "java/lang/Math") (List.mem_cons_of_mem _ (List.mem_append_left _ (List.mem_of_getElem? (i := 6) rfl)))) (hts (.code Lib.Math.max.name Lib.Math.max.code 2 (some .int)) (List.mem_cons_of_mem _ (List.mem_append_left _ (List.mem_of_getElem? (i := 7) rfl)))) (Nat.le_of_ble_eq_true rfl) (Nat.le_of_ble_eq_true rfl) (Nat.le_of_ble_eq_true rfl) (Nat.le_of_ble_eq_true rfl) dX3_minutesLate_39 ?_
    refine lv_topi (fun x_4 ex_4 => ?_)
    have hx_4 := z_max ex_4 (zk (x := 0) 0 rfl) rfl
    exact W.iret (v := x_4) hx hb hr (fun t ht hW9 => ⟨⟨x_4, x_4, rfl, rfl, (tw_at ht hT)⟩, hS.F ht⟩) hS.2.2 dX3_minutesLate_42
  · have nc_1 := z_eq rfl (zk (x := (-1)) (-1) rfl) c_1
    refine lv_aload_n hx hb dX3_minutesLate_10 rfl (lv_at hl 0 rfl) ?_
    refine tw_get (D := (dC, dI)) (v := .int (y (a 4) 2)) (C := RX3) (T := TX3) (N := 12) hx hb hts (fun _ hh => (List.mem_cons_of_mem _ (List.mem_append_right _ (List.mem_append_left _ hh)))) hown hK hT (fx_4 hX) (by decide) cl_e14 rfl 2 (by decide) (hts (.fieldLink RX3 9 "TypingPool$Floor" "now" "I") (List.mem_cons_of_mem _ (List.mem_append_left _ (List.mem_of_getElem? (i := 8) rfl)))) (fun _ h9 => h9) rfl dX3_minutesLate_11 ?_
    refine lv_goto (tgt := 23) hx hb dX3_minutesLate_14 (by decide) ?_
    refine lv_istore_n (lv' := [(2, .int (y (a 4) 2)), (0, .ref (a 4)), (1, .int p0)]) hx hb dX3_minutesLate_23 rfl hl (by decide) rfl (fun ls hl => ?_)
    refine lv_iconst (v := 0) hx hb dX3_minutesLate_24 (by decide) ?_
    refine lv_iload_n hx hb dX3_minutesLate_25 rfl (lv_at hl 0 rfl) ?_
    refine lv_aload_n hx hb dX3_minutesLate_26 rfl (lv_at hl 1 rfl) ?_
    refine tw_get (D := (dC, dI)) (v := .ref (a 1)) (C := RX3) (T := TX3) (N := 12) hx hb hts (fun _ hh => (List.mem_cons_of_mem _ (List.mem_append_right _ (List.mem_append_left _ hh)))) hown hK hT (fx_4 hX) (by decide) cl_e14 rfl 0 (by decide) (hts (.fieldLink RX3 43 "TypingPool$Floor" "book" "LTypingPool$Book;") (List.mem_cons_of_mem _ (List.mem_append_left _ (List.mem_of_getElem? (i := 1) rfl)))) (fun _ h9 => h9) rfl dX3_minutesLate_27 ?_
    refine tw_get (D := (dC, dI)) (v := .ref (a 11)) (C := RX1) (T := TX1) (N := 8) hx hb hts (fun _ hh => (List.mem_cons_of_mem _ (List.mem_append_right _ (List.mem_append_right _ (List.mem_append_left _ hh))))) hown hK hT (fx_1 hX) (by decide) cl_e11 rfl 4 (by decide) (hts (.fieldLink RX3 103 "TypingPool$Book" "pieces" "[LTypingPool$Piece;") (List.mem_cons_of_mem _ (List.mem_append_left _ (List.mem_of_getElem? (i := 2) rfl)))) (fun _ h9 => h9) rfl dX3_minutesLate_30 ?_
    refine lv_iload_n hx hb dX3_minutesLate_33 rfl (lv_at hl 2 rfl) ?_
    refine tw_aald hx hb hK hT 4 (fx_11 hX) (by decide) cl_e21 rfl (z_in rfl (by omega) (by omega)) dX3_minutesLate_34 ?_
    obtain ⟨q_5, hgq_5, htq_5⟩ := ic_l11 hI (x := p0) rfl (by omega) (by omega)
    refine lq_topr hgq_5 ?_
    refine tw_get (D := (dC, dI)) (v := .int (y q_5 6)) (C := RX6) (T := TX6) (N := 11) hx hb hts (fun _ hh => (List.mem_cons_of_mem _ (List.mem_append_right _ (List.mem_append_right _ (List.mem_append_right _ (List.mem_append_left _ hh)))))) hown hK hT htq_5 (by decide) cl_e2 rfl 6 (by decide) (hts (.fieldLink RX3 190 "TypingPool$Piece" "due" "I") (List.mem_cons_of_mem _ (List.mem_append_left _ (List.mem_of_getElem? (i := 3) rfl)))) (fun _ h9 => h9) rfl dX3_minutesLate_35 ?_
    refine lv_isub hx hb dX3_minutesLate_38 ?_
    refine lv_topi (fun x_6 ex_6 => ?_)
    refine va_mmax hx hb (by rw [hml]; exact hl.1.symm) hown (hts (.methodLink RX3 121 Lib.Math.max.name) (List.mem_cons_of_mem _ (List.mem_append_left _ (List.mem_of_getElem? (i := 4) rfl)))) (hts (.static Lib.Math.max.name) (List.mem_cons_of_mem _ (List.mem_append_left _ (List.mem_of_getElem? (i := 5) rfl)))) (hts (.initialized "java/lang/Math") (List.mem_cons_of_mem _ (List.mem_append_left _ (List.mem_of_getElem? (i := 6) rfl)))) (hts (.code Lib.Math.max.name Lib.Math.max.code 2 (some .int)) (List.mem_cons_of_mem _ (List.mem_append_left _ (List.mem_of_getElem? (i := 7) rfl)))) (Nat.le_of_ble_eq_true rfl) (Nat.le_of_ble_eq_true rfl) (Nat.le_of_ble_eq_true rfl) (Nat.le_of_ble_eq_true rfl) dX3_minutesLate_39 ?_
    refine lv_topi (fun x_7 ex_7 => ?_)
    have hx_7 := z_max ex_7 (zk (x := 0) 0 rfl) rfl
    exact W.iret (v := x_7) hx hb hr (fun t ht hW9 => ⟨⟨x_7, x_7, rfl, rfl, (tw_at ht hT)⟩, hS.F ht⟩) hS.2.2 dX3_minutesLate_42
def wo_c_isLatet : List Cond := [.methodLink RX3 196 yX3_minutesLate, .instanceMethod yX3_minutesLate, .selects RX3 yX3_minutesLate yX3_minutesLate, .initialized RX3]
def wm_c_isLatet : List Cond := .code yX3_isLate cX3_isLate 2 (some .boolean) :: (wo_c_isLatet ++ (wm_c_minutesLatet ++ ([] : List Cond)))
theorem gd_c_isLatet : ∀ w ∈ wm_c_isLatet, goodWord w = true := gd_c rfl (gd_a (by decide) (gd_a gd_c_minutesLatet gd_nil))
set_option maxRecDepth 20000 in
theorem im_c_isLatet : ∀ w ∈ wm_c_isLatet, w ∈ lw_tbl := im_c (in_r [.code yX3_isLate cX3_isLate 2 (some .boolean)] [864] (by decide +kernel)) (in_app (in_r wo_c_isLatet [865, 866, 867, 83] (by decide +kernel)) (in_app im_c_minutesLatet im_nil))
set_option maxHeartbeats 4000000 in
set_option maxRecDepth 100000 in
theorem c_isLatet (l : Launch) (dC : Nat → ClassId) (dI : Nat → Nat → Nat) (ad av : Nat → Nat) (sz : Nat) (a : Nat → Nat) (k : Nat → ClassId) (τ ln : Nat → Nat) (y : Nat → Nat → Int32) (g : Nat → Nat → Option Nat) (u : Nat → Int) (p0 : Int32) (hI : IC a u τ ln y g) (hlp0 : 0 ≤ p0.toInt) (hup0 : p0.toInt < u 2) : Met l yX3_isLate wm_c_isLatet ({ frames := 3, cells := 0, slots := 0, locals := 140 }) (pw_ ad av (dC, dI) sz [.ref (a 4), .int p0] a k τ ln y g) (va_Qi (fun (r u : Int32) => u = r) (fun (r : Int32) (t : State) => (r = 1 ∧ tw (dC, dI) a k τ ln y g t.heap) ∨ (r = 0 ∧ tw (dC, dI) a k τ ln y g t.heap)) (fr τ sz)) 0 0 (fr τ sz) := by
  refine Met.ofW (cc := cX3_isLate) (maxL := 2) (ret := (some .boolean)) (by decide) rfl ?_
  intro p e s m args below meth c s₁ B hml hv
  obtain ⟨rfl, hsz, hT, hK, hM⟩ := hv
  have hx := B.exec
  have hb := B.bytes
  have hr := B.returns
  have hts := atoms_spec (ws := wm_c_isLatet) B.pre
  have hown : s.vm.findClass RX3 = some m.cls := findClass_of_methodNamed B.named
  have hlocks := B.notSynchronized
  subst hsz
  generalize hAe : fr τ s.heap.size = A at hM ⊢
  have hA : ∀ q : Nat, s.heap.size ≤ q → A q := fun q h => by rw [← hAe]; exact Or.inr h
  have hF : ∀ q, τ q ≠ 0 → A q := fun q h => by rw [← hAe]; exact Or.inl h
  have hS : va_S A s.heap s.heap [] := va_S.rf
  have hX := hI.1
  have hR := ic_r hI
  have hl := lv_entry ([.ref (a 4), .int p0]) (n := 2) (Nat.le_of_ble_eq_true rfl)
  rw [lg_entry_eq]
  generalize (lg_sl ([.ref (a 4), .int p0]) ++ List.replicate (2 - (lg_sl ([.ref (a 4), .int p0])).length) Slot.unset).toArray = ls at hl ⊢
  have hl : lv_has ls 2 [(0, .ref (a 4)), (1, .int p0)] := hl
  refine lv_aload_n hx hb dX3_isLate_0 rfl (lv_at hl 0 rfl) ?_
  refine lv_iload_n hx hb dX3_isLate_1 rfl (lv_at hl 1 rfl) ?_
  have hFc := tw_free hF hS hA
  refine va_calli (va_runV (As := [.int p0]) (rest := []) ⟨hx, hb, hml, hown, hts⟩ (c_minutesLatet l dC dI ad av s.heap.size a k τ ln y g u p0 hI (by omega) (by omega)) (cwV 1 hts (gi_4 (List.mem_cons_of_mem _ (List.mem_append_left _ (List.mem_of_getElem? (i := 0) rfl))) (List.mem_cons_of_mem _ (List.mem_append_left _ (List.mem_of_getElem? (i := 1) rfl))) (List.mem_cons_of_mem _ (List.mem_append_left _ (List.mem_of_getElem? (i := 2) rfl))) (List.mem_cons_of_mem _ (List.mem_append_left _ (List.mem_of_getElem? (i := 3) rfl))) (fun _ hh => (List.mem_cons_of_mem _ (List.mem_append_right _ (List.mem_append_left _ hh)))) gd_c_minutesLatet) rfl rfl rfl (by decide +kernel) ⟨Nat.le_of_ble_eq_true rfl, Nat.le_of_ble_eq_true rfl⟩) ⟨pw_blind, tw_recv hK hT (fx_4 hX) (by decide) cl_e14 rfl, pw_use hT hK hFc hS hM⟩ rfl rfl hl.1 rfl (lv_room (Nat.le_of_ble_eq_true rfl)) dX3_isLate_2 ⟨Nat.le_of_ble_eq_true rfl, Nat.le_of_ble_eq_true rfl⟩) hS (fun q _ h => hFc q h) hFc (fun r0 r_1 t H locs ht hvm hw hB hz1 hk1 hS => ?_)
  refine W.widen (k := 0) (n := 0) (Nat.le_of_ble_eq_true rfl) (Nat.le_of_ble_eq_true rfl) ?_
  clear hvm hz1 hk1
  subst hw
  have hT := hB
  rw [ht] at hT
  refine lv_if_le (tgt := 12) hx hb dX3_isLate_5 (by decide) (fun c_2 => ?_) (fun c_2 => ?_)
  · have nc_2 := z_le rfl (zk (x := 0) 0 rfl) c_2
    refine lv_iconst (v := 0) hx hb dX3_isLate_12 (by decide) ?_
    exact W.zret (v := 0) hx hb hr (by decide) (fun t ht hW9 => ⟨⟨0, 0, rfl, rfl, Or.inr (⟨rfl, tw_at ht hT⟩)⟩, hS.F ht⟩) hS.2.2 dX3_isLate_13
  · have nc_2 := z_nle rfl (zk (x := 0) 0 rfl) c_2
    refine lv_iconst (v := 1) hx hb dX3_isLate_8 (by decide) ?_
    refine lv_goto (tgt := 13) hx hb dX3_isLate_9 (by decide) ?_
    exact W.zret (v := 1) hx hb hr (by decide) (fun t ht hW9 => ⟨⟨1, 1, rfl, rfl, Or.inl ⟨rfl, tw_at ht hT⟩⟩, hS.F ht⟩) hS.2.2 dX3_isLate_13
def wo_c_inStatet : List Cond := [.fieldLink RX3 43 "TypingPool$Floor" "book" "LTypingPool$Book;", .fieldLink RX3 85 "TypingPool$Book" "pieceCount" "I", .methodLink RX3 88 yX3_stateOf, .instanceMethod yX3_stateOf, .selects RX3 yX3_stateOf yX3_stateOf, .initialized RX3]
def wm_c_inStatet : List Cond := .code yX3_inState cX3_inState 4 (some .int) :: (wo_c_inStatet ++ (wsX30 ++ (wsX10 ++ (wm_c_stateOft ++ ([] : List Cond)))))
theorem gd_c_inStatet : ∀ w ∈ wm_c_inStatet, goodWord w = true := gd_c rfl (gd_a (by decide) (gd_a gd_wsX30 (gd_a gd_wsX10 (gd_a gd_c_stateOft gd_nil))))
set_option maxRecDepth 20000 in
theorem im_c_inStatet : ∀ w ∈ wm_c_inStatet, w ∈ lw_tbl := im_c (in_r [.code yX3_inState cX3_inState 4 (some .int)] [890] (by decide +kernel)) (in_app (in_r wo_c_inStatet [426, 134, 767, 768, 769, 83] (by decide +kernel)) (in_app im_wsX30 (in_app im_wsX10 (in_app im_c_stateOft im_nil))))
set_option maxHeartbeats 4000000 in
set_option maxRecDepth 100000 in
theorem c_inStatet (l : Launch) (dC : Nat → ClassId) (dI : Nat → Nat → Nat) (ad av : Nat → Nat) (sz : Nat) (a : Nat → Nat) (k : Nat → ClassId) (τ ln : Nat → Nat) (y : Nat → Nat → Int32) (g : Nat → Nat → Option Nat) (u : Nat → Int) (p0 : Int32) (hI : IC a u τ ln y g) : Met l yX3_inState wm_c_inStatet ({ frames := 1, cells := 0, slots := 0, locals := 60 }) (pw_ ad av (dC, dI) sz [.ref (a 4), .int p0] a k τ ln y g) (va_Qi (fun (r u : Int32) => u = r) (fun (r : Int32) (t : State) => (tw (dC, dI) a k τ ln y g t.heap)) (fr τ sz)) 0 0 (fr τ sz) := by
  refine Met.ofW (cc := cX3_inState) (maxL := 4) (ret := (some .int)) (by decide) rfl ?_
  intro p e s m args below meth c s₁ B hml hv
  obtain ⟨rfl, hsz, hT, hK, hM⟩ := hv
  have hx := B.exec
  have hb := B.bytes
  have hr := B.returns
  have hts := atoms_spec (ws := wm_c_inStatet) B.pre
  have hown : s.vm.findClass RX3 = some m.cls := findClass_of_methodNamed B.named
  have hlocks := B.notSynchronized
  subst hsz
  generalize hAe : fr τ s.heap.size = A at hM ⊢
  have hA : ∀ q : Nat, s.heap.size ≤ q → A q := fun q h => by rw [← hAe]; exact Or.inr h
  have hF : ∀ q, τ q ≠ 0 → A q := fun q h => by rw [← hAe]; exact Or.inl h
  have hS : va_S A s.heap s.heap [] := va_S.rf
  have hX := hI.1
  have hR := ic_r hI
  have hl := lv_entry ([.ref (a 4), .int p0]) (n := 4) (Nat.le_of_ble_eq_true rfl)
  rw [lg_entry_eq]
  generalize (lg_sl ([.ref (a 4), .int p0]) ++ List.replicate (4 - (lg_sl ([.ref (a 4), .int p0])).length) Slot.unset).toArray = ls at hl ⊢
  have hl : lv_has ls 4 [(0, .ref (a 4)), (1, .int p0)] := hl
  refine lv_iconst (v := 0) hx hb dX3_inState_0 (by decide) ?_
  refine lv_istore_n (lv' := [(2, .int 0), (0, .ref (a 4)), (1, .int p0)]) hx hb dX3_inState_1 rfl hl (by decide) rfl (fun ls hl => ?_)
  refine lv_iconst (v := 0) hx hb dX3_inState_2 (by decide) ?_
  refine lv_istore_n (lv' := [(3, .int 0), (2, .int 0), (0, .ref (a 4)), (1, .int p0)]) hx hb dX3_inState_3 rfl hl (by decide) rfl (fun ls hl => ?_)
  have loop_4 : ∀ (n : Nat) (w2 : Int32) (i3 : Int32) (H : Heap) (locs : List Loc) (ls : Array Slot), (u 2 - i3.toInt).toNat < n → 0 ≤ i3.toInt → i3.toInt ≤ u 2 → tw (dC, dI) a k τ ln y g H → va_S A s.heap H locs → lv_has ls 4 [(0, .ref (a 4)), (1, .int p0), (2, .int w2), (3, .int i3)] → W p l e (headSpec wm_c_inStatet ({ frames := 1, cells := 0, slots := 0, locals := 60 })).room s m ([.ref (a 4), .int p0] : List Value).toArray below meth c H locs 0 0 (MQ below (va_Qi (fun (r u : Int32) => u = r) (fun (r : Int32) (t : State) => (tw (dC, dI) a k τ ln y g t.heap)) A) ([.ref (a 4), .int p0] : List Value).toArray s 0 0 A) (F0 m 4 ls []) := by
    intro n
    induction n with
    | zero => intro w2 i3 H locs ls hlt; exact absurd hlt (Nat.not_lt_zero _)
    | succ n ih_4 =>
      intro w2 i3 H locs ls hlt hi4_0 hi4_1 hT hS hl
      refine lv_iload_n hx hb dX3_inState_4 rfl (lv_at hl 3 rfl) ?_
      refine lv_aload_n hx hb dX3_inState_5 rfl (lv_at hl 0 rfl) ?_
      refine tw_get (D := (dC, dI)) (v := .ref (a 1)) (C := RX3) (T := TX3) (N := 12) hx hb hts (fun _ hh => (List.mem_cons_of_mem _ (List.mem_append_right _ (List.mem_append_left _ hh)))) hown hK hT (fx_4 hX) (by decide) cl_e14 rfl 0 (by decide) (hts (.fieldLink RX3 43 "TypingPool$Floor" "book" "LTypingPool$Book;") (List.mem_cons_of_mem _ (List.mem_append_left _ (List.mem_of_getElem? (i := 0) rfl)))) (fun _ h9 => h9) rfl dX3_inState_6 ?_
      refine tw_get (D := (dC, dI)) (v := .int (y (a 1) 5)) (C := RX1) (T := TX1) (N := 8) hx hb hts (fun _ hh => (List.mem_cons_of_mem _ (List.mem_append_right _ (List.mem_append_right _ (List.mem_append_left _ hh))))) hown hK hT (fx_1 hX) (by decide) cl_e11 rfl 5 (by decide) (hts (.fieldLink RX3 85 "TypingPool$Book" "pieceCount" "I") (List.mem_cons_of_mem _ (List.mem_append_left _ (List.mem_of_getElem? (i := 1) rfl)))) (fun _ h9 => h9) rfl dX3_inState_9 ?_
      have hc_1 := ic_2 hI
      refine lv_icmp_ge (tgt := 33) hx hb dX3_inState_12 (by decide) (fun c_2 => ?_) (fun c_2 => ?_)
      · have nc_2 := z_le hc_1 rfl c_2
        refine lv_iload_n hx hb dX3_inState_33 rfl (lv_at hl 2 rfl) ?_
        exact W.iret (v := w2) hx hb hr (fun t ht hW9 => ⟨⟨w2, w2, rfl, rfl, (tw_at ht hT)⟩, hS.F ht⟩) hS.2.2 dX3_inState_34
      · have nc_2 := z_nle hc_1 rfl c_2
        refine lv_aload_n hx hb dX3_inState_15 rfl (lv_at hl 0 rfl) ?_
        refine lv_iload_n hx hb dX3_inState_16 rfl (lv_at hl 3 rfl) ?_
        have hFc := tw_free hF hS hA
        refine va_calli (va_runV (As := [.int i3]) (rest := []) ⟨hx, hb, hml, hown, hts⟩ (c_stateOft l dC dI ad av H.size a k τ ln y g u i3 hI (by omega) (by omega)) (cwV 1 hts (gi_4 (List.mem_cons_of_mem _ (List.mem_append_left _ (List.mem_of_getElem? (i := 2) rfl))) (List.mem_cons_of_mem _ (List.mem_append_left _ (List.mem_of_getElem? (i := 3) rfl))) (List.mem_cons_of_mem _ (List.mem_append_left _ (List.mem_of_getElem? (i := 4) rfl))) (List.mem_cons_of_mem _ (List.mem_append_left _ (List.mem_of_getElem? (i := 5) rfl))) (fun _ hh => (List.mem_cons_of_mem _ (List.mem_append_right _ (List.mem_append_right _ (List.mem_append_right _ (List.mem_append_left _ hh)))))) gd_c_stateOft) rfl rfl rfl (by decide +kernel) ⟨Nat.le_of_ble_eq_true rfl, Nat.le_of_ble_eq_true rfl⟩) ⟨pw_blind, tw_recv hK hT (fx_4 hX) (by decide) cl_e14 rfl, pw_use hT hK hFc hS hM⟩ rfl rfl hl.1 rfl (lv_room (Nat.le_of_ble_eq_true rfl)) dX3_inState_17 ⟨Nat.le_of_ble_eq_true rfl, Nat.le_of_ble_eq_true rfl⟩) hS (fun q _ h => hFc q h) hFc (fun r0 r_3 t H locs ht hvm hw hB hz1 hk1 hS => ?_)
        refine W.widen (k := 0) (n := 0) (Nat.le_of_ble_eq_true rfl) (Nat.le_of_ble_eq_true rfl) ?_
        clear hvm hz1 hk1
        subst hw
        have hT := hB
        rw [ht] at hT
        refine lv_iload_n hx hb dX3_inState_20 rfl (lv_at hl 1 rfl) ?_
        refine lv_icmp_ne (tgt := 27) hx hb dX3_inState_21 (by decide) (fun c_4 => ?_) (fun c_4 => ?_)
        · have nc_4 := z_ne rfl rfl c_4
          obtain ⟨x_5, ex_5⟩ : ∃ y : Int32, y = i3 + Int32.ofInt 1 := ⟨_, rfl⟩
          have hx_5 := z_add ex_5 rfl (zk (x := Int32.ofInt 1) 1 rfl) (by omega) (by omega)
          refine lv_iinc (v := x_5) (lv' := [(3, .int x_5), (0, .ref (a 4)), (1, .int p0), (2, .int w2)]) hx hb dX3_inState_27 hl (k := 3) rfl ex_5.symm (by decide) rfl (fun ls hl => ?_)
          refine lv_goto (tgt := 4) hx hb dX3_inState_30 (by decide) ?_
          exact ih_4  w2 x_5 H _ ls (by omega) (by omega) (by omega) hT hS (lv_sub hl [1, 2, 3, 0] rfl)
        · have nc_4 := z_eq rfl rfl c_4
          obtain ⟨x_6, ex_6⟩ : ∃ y : Int32, y = w2 + Int32.ofInt 1 := ⟨_, rfl⟩
          refine lv_iinc (v := x_6) (lv' := [(2, .int x_6), (0, .ref (a 4)), (1, .int p0), (3, .int i3)]) hx hb dX3_inState_24 hl (k := 2) rfl ex_6.symm (by decide) rfl (fun ls hl => ?_)
          obtain ⟨x_7, ex_7⟩ : ∃ y : Int32, y = i3 + Int32.ofInt 1 := ⟨_, rfl⟩
          have hx_7 := z_add ex_7 rfl (zk (x := Int32.ofInt 1) 1 rfl) (by omega) (by omega)
          refine lv_iinc (v := x_7) (lv' := [(3, .int x_7), (2, .int x_6), (0, .ref (a 4)), (1, .int p0)]) hx hb dX3_inState_27 hl (k := 3) rfl ex_7.symm (by decide) rfl (fun ls hl => ?_)
          refine lv_goto (tgt := 4) hx hb dX3_inState_30 (by decide) ?_
          exact ih_4  x_6 x_7 H _ ls (by omega) (by omega) (by omega) hT hS (lv_sub hl [2, 3, 1, 0] rfl)
  have hp_8 : (0 : Int32).toInt = 0 := (zk (x := 0) 0 rfl)
  have hp_9 : (0 : Int32).toInt = 0 := (zk (x := 0) 0 rfl)
  exact loop_4 _ (0 : Int32) (0 : Int32) s.heap _ ls (Nat.lt_succ_self _) (by omega) (by omega) hT hS (lv_sub hl [2, 3, 1, 0] rfl)
def wo_c_lateOnest : List Cond := [.fieldLink RX3 43 "TypingPool$Floor" "book" "LTypingPool$Book;", .fieldLink RX3 85 "TypingPool$Book" "pieceCount" "I", .methodLink RX3 199 yX3_isLate, .instanceMethod yX3_isLate, .selects RX3 yX3_isLate yX3_isLate, .initialized RX3]
def wm_c_lateOnest : List Cond := .code yX3_lateOnes cX3_lateOnes 3 (some .int) :: (wo_c_lateOnest ++ (wsX30 ++ (wsX10 ++ (wm_c_isLatet ++ ([] : List Cond)))))
theorem gd_c_lateOnest : ∀ w ∈ wm_c_lateOnest, goodWord w = true := gd_c rfl (gd_a (by decide) (gd_a gd_wsX30 (gd_a gd_wsX10 (gd_a gd_c_isLatet gd_nil))))
set_option maxRecDepth 20000 in
theorem im_c_lateOnest : ∀ w ∈ wm_c_lateOnest, w ∈ lw_tbl := im_c (in_r [.code yX3_lateOnes cX3_lateOnes 3 (some .int)] [894] (by decide +kernel)) (in_app (in_r wo_c_lateOnest [426, 134, 895, 862, 863, 83] (by decide +kernel)) (in_app im_wsX30 (in_app im_wsX10 (in_app im_c_isLatet im_nil))))
set_option maxHeartbeats 4000000 in
set_option maxRecDepth 100000 in
theorem c_lateOnest (l : Launch) (dC : Nat → ClassId) (dI : Nat → Nat → Nat) (ad av : Nat → Nat) (sz : Nat) (a : Nat → Nat) (k : Nat → ClassId) (τ ln : Nat → Nat) (y : Nat → Nat → Int32) (g : Nat → Nat → Option Nat) (u : Nat → Int) (hI : IC a u τ ln y g) : Met l yX3_lateOnes wm_c_lateOnest ({ frames := 4, cells := 0, slots := 0, locals := 200 }) (pw_ ad av (dC, dI) sz [.ref (a 4)] a k τ ln y g) (va_Qi (fun (r u : Int32) => u = r) (fun (r : Int32) (t : State) => (tw (dC, dI) a k τ ln y g t.heap)) (fr τ sz)) 0 0 (fr τ sz) := by
  refine Met.ofW (cc := cX3_lateOnes) (maxL := 3) (ret := (some .int)) (by decide) rfl ?_
  intro p e s m args below meth c s₁ B hml hv
  obtain ⟨rfl, hsz, hT, hK, hM⟩ := hv
  have hx := B.exec
  have hb := B.bytes
  have hr := B.returns
  have hts := atoms_spec (ws := wm_c_lateOnest) B.pre
  have hown : s.vm.findClass RX3 = some m.cls := findClass_of_methodNamed B.named
  have hlocks := B.notSynchronized
  subst hsz
  generalize hAe : fr τ s.heap.size = A at hM ⊢
  have hA : ∀ q : Nat, s.heap.size ≤ q → A q := fun q h => by rw [← hAe]; exact Or.inr h
  have hF : ∀ q, τ q ≠ 0 → A q := fun q h => by rw [← hAe]; exact Or.inl h
  have hS : va_S A s.heap s.heap [] := va_S.rf
  have hX := hI.1
  have hR := ic_r hI
  have hl := lv_entry ([.ref (a 4)]) (n := 3) (Nat.le_of_ble_eq_true rfl)
  rw [lg_entry_eq]
  generalize (lg_sl ([.ref (a 4)]) ++ List.replicate (3 - (lg_sl ([.ref (a 4)])).length) Slot.unset).toArray = ls at hl ⊢
  have hl : lv_has ls 3 [(0, .ref (a 4))] := hl
  refine lv_iconst (v := 0) hx hb dX3_lateOnes_0 (by decide) ?_
  refine lv_istore_n (lv' := [(1, .int 0), (0, .ref (a 4))]) hx hb dX3_lateOnes_1 rfl hl (by decide) rfl (fun ls hl => ?_)
  refine lv_iconst (v := 0) hx hb dX3_lateOnes_2 (by decide) ?_
  refine lv_istore_n (lv' := [(2, .int 0), (1, .int 0), (0, .ref (a 4))]) hx hb dX3_lateOnes_3 rfl hl (by decide) rfl (fun ls hl => ?_)
  have loop_4 : ∀ (n : Nat) (w1 : Int32) (i2 : Int32) (H : Heap) (locs : List Loc) (ls : Array Slot), (u 2 - i2.toInt).toNat < n → 0 ≤ i2.toInt → i2.toInt ≤ u 2 → tw (dC, dI) a k τ ln y g H → va_S A s.heap H locs → lv_has ls 3 [(0, .ref (a 4)), (1, .int w1), (2, .int i2)] → W p l e (headSpec wm_c_lateOnest ({ frames := 4, cells := 0, slots := 0, locals := 200 })).room s m ([.ref (a 4)] : List Value).toArray below meth c H locs 0 0 (MQ below (va_Qi (fun (r u : Int32) => u = r) (fun (r : Int32) (t : State) => (tw (dC, dI) a k τ ln y g t.heap)) A) ([.ref (a 4)] : List Value).toArray s 0 0 A) (F0 m 4 ls []) := by
    intro n
    induction n with
    | zero => intro w1 i2 H locs ls hlt; exact absurd hlt (Nat.not_lt_zero _)
    | succ n ih_4 =>
      intro w1 i2 H locs ls hlt hi4_0 hi4_1 hT hS hl
      refine lv_iload_n hx hb dX3_lateOnes_4 rfl (lv_at hl 2 rfl) ?_
      refine lv_aload_n hx hb dX3_lateOnes_5 rfl (lv_at hl 0 rfl) ?_
      refine tw_get (D := (dC, dI)) (v := .ref (a 1)) (C := RX3) (T := TX3) (N := 12) hx hb hts (fun _ hh => (List.mem_cons_of_mem _ (List.mem_append_right _ (List.mem_append_left _ hh)))) hown hK hT (fx_4 hX) (by decide) cl_e14 rfl 0 (by decide) (hts (.fieldLink RX3 43 "TypingPool$Floor" "book" "LTypingPool$Book;") (List.mem_cons_of_mem _ (List.mem_append_left _ (List.mem_of_getElem? (i := 0) rfl)))) (fun _ h9 => h9) rfl dX3_lateOnes_6 ?_
      refine tw_get (D := (dC, dI)) (v := .int (y (a 1) 5)) (C := RX1) (T := TX1) (N := 8) hx hb hts (fun _ hh => (List.mem_cons_of_mem _ (List.mem_append_right _ (List.mem_append_right _ (List.mem_append_left _ hh))))) hown hK hT (fx_1 hX) (by decide) cl_e11 rfl 5 (by decide) (hts (.fieldLink RX3 85 "TypingPool$Book" "pieceCount" "I") (List.mem_cons_of_mem _ (List.mem_append_left _ (List.mem_of_getElem? (i := 1) rfl)))) (fun _ h9 => h9) rfl dX3_lateOnes_9 ?_
      have hc_1 := ic_2 hI
      refine lv_icmp_ge (tgt := 32) hx hb dX3_lateOnes_12 (by decide) (fun c_2 => ?_) (fun c_2 => ?_)
      · have nc_2 := z_le hc_1 rfl c_2
        refine lv_iload_n hx hb dX3_lateOnes_32 rfl (lv_at hl 1 rfl) ?_
        exact W.iret (v := w1) hx hb hr (fun t ht hW9 => ⟨⟨w1, w1, rfl, rfl, (tw_at ht hT)⟩, hS.F ht⟩) hS.2.2 dX3_lateOnes_33
      · have nc_2 := z_nle hc_1 rfl c_2
        refine lv_aload_n hx hb dX3_lateOnes_15 rfl (lv_at hl 0 rfl) ?_
        refine lv_iload_n hx hb dX3_lateOnes_16 rfl (lv_at hl 2 rfl) ?_
        have hFc := tw_free hF hS hA
        refine va_calli (va_runV (As := [.int i2]) (rest := []) ⟨hx, hb, hml, hown, hts⟩ (c_isLatet l dC dI ad av H.size a k τ ln y g u i2 hI (by omega) (by omega)) (cwV 1 hts (gi_4 (List.mem_cons_of_mem _ (List.mem_append_left _ (List.mem_of_getElem? (i := 2) rfl))) (List.mem_cons_of_mem _ (List.mem_append_left _ (List.mem_of_getElem? (i := 3) rfl))) (List.mem_cons_of_mem _ (List.mem_append_left _ (List.mem_of_getElem? (i := 4) rfl))) (List.mem_cons_of_mem _ (List.mem_append_left _ (List.mem_of_getElem? (i := 5) rfl))) (fun _ hh => (List.mem_cons_of_mem _ (List.mem_append_right _ (List.mem_append_right _ (List.mem_append_right _ (List.mem_append_left _ hh)))))) gd_c_isLatet) rfl rfl rfl (by decide +kernel) ⟨Nat.le_of_ble_eq_true rfl, Nat.le_of_ble_eq_true rfl⟩) ⟨pw_blind, tw_recv hK hT (fx_4 hX) (by decide) cl_e14 rfl, pw_use hT hK hFc hS hM⟩ rfl rfl hl.1 rfl (lv_room (Nat.le_of_ble_eq_true rfl)) dX3_lateOnes_17 ⟨Nat.le_of_ble_eq_true rfl, Nat.le_of_ble_eq_true rfl⟩) hS (fun q _ h => hFc q h) hFc (fun r0 r_3 t H locs ht hvm hw hB hz1 hk1 hS => ?_)
        refine W.widen (k := 0) (n := 0) (Nat.le_of_ble_eq_true rfl) (Nat.le_of_ble_eq_true rfl) ?_
        clear hvm hz1 hk1
        subst hw
        rcases hB with ⟨hre, hT⟩ | ⟨hre, hT⟩
        · refine lq_top (v := 1) hre ?_
          rw [ht] at hT
          refine lv_if_eq (tgt := 26) hx hb dX3_lateOnes_20 (by decide) (fun c_4 => absurd c_4 (by decide)) (fun c_4 => ?_)
          obtain ⟨x_5, ex_5⟩ : ∃ y : Int32, y = w1 + Int32.ofInt 1 := ⟨_, rfl⟩
          refine lv_iinc (v := x_5) (lv' := [(1, .int x_5), (0, .ref (a 4)), (2, .int i2)]) hx hb dX3_lateOnes_23 hl (k := 1) rfl ex_5.symm (by decide) rfl (fun ls hl => ?_)
          obtain ⟨x_6, ex_6⟩ : ∃ y : Int32, y = i2 + Int32.ofInt 1 := ⟨_, rfl⟩
          have hx_6 := z_add ex_6 rfl (zk (x := Int32.ofInt 1) 1 rfl) (by omega) (by omega)
          refine lv_iinc (v := x_6) (lv' := [(2, .int x_6), (1, .int x_5), (0, .ref (a 4))]) hx hb dX3_lateOnes_26 hl (k := 2) rfl ex_6.symm (by decide) rfl (fun ls hl => ?_)
          refine lv_goto (tgt := 4) hx hb dX3_lateOnes_29 (by decide) ?_
          exact ih_4  x_5 x_6 H _ ls (by omega) (by omega) (by omega) hT hS (lv_sub hl [2, 1, 0] rfl)
        · refine lq_top (v := 0) hre ?_
          rw [ht] at hT
          refine lv_if_eq (tgt := 26) hx hb dX3_lateOnes_20 (by decide) (fun c_7 => ?_) (fun c_7 => absurd c_7 (by decide))
          obtain ⟨x_8, ex_8⟩ : ∃ y : Int32, y = i2 + Int32.ofInt 1 := ⟨_, rfl⟩
          have hx_8 := z_add ex_8 rfl (zk (x := Int32.ofInt 1) 1 rfl) (by omega) (by omega)
          refine lv_iinc (v := x_8) (lv' := [(2, .int x_8), (0, .ref (a 4)), (1, .int w1)]) hx hb dX3_lateOnes_26 hl (k := 2) rfl ex_8.symm (by decide) rfl (fun ls hl => ?_)
          refine lv_goto (tgt := 4) hx hb dX3_lateOnes_29 (by decide) ?_
          exact ih_4  w1 x_8 H _ ls (by omega) (by omega) (by omega) hT hS (lv_sub hl [1, 2, 0] rfl)
  have hp_9 : (0 : Int32).toInt = 0 := (zk (x := 0) 0 rfl)
  have hp_10 : (0 : Int32).toInt = 0 := (zk (x := 0) 0 rfl)
  exact loop_4 _ (0 : Int32) (0 : Int32) s.heap _ ls (Nat.lt_succ_self _) (by omega) (by omega) hT hS (lv_sub hl [2, 1, 0] rfl)
def wo_c_linesDoneByt : List Cond := [.fieldLink RX3 43 "TypingPool$Floor" "book" "LTypingPool$Book;", .fieldLink RX3 85 "TypingPool$Book" "pieceCount" "I", .methodLink RX3 202 yX3_isDoneBy, .instanceMethod yX3_isDoneBy, .selects RX3 yX3_isDoneBy yX3_isDoneBy, .initialized RX3, .fieldLink RX3 103 "TypingPool$Book" "pieces" "[LTypingPool$Piece;", .fieldLink RX3 187 "TypingPool$Piece" "lines" "I"]
def wm_c_linesDoneByt : List Cond := .code yX3_linesDoneBy cX3_linesDoneBy 4 (some .int) :: (wo_c_linesDoneByt ++ (wsX30 ++ (wsX10 ++ (wm_c_isDoneByt ++ (wsX60 ++ ([] : List Cond))))))
theorem gd_c_linesDoneByt : ∀ w ∈ wm_c_linesDoneByt, goodWord w = true := gd_c rfl (gd_a (by decide) (gd_a gd_wsX30 (gd_a gd_wsX10 (gd_a gd_c_isDoneByt (gd_a gd_wsX60 gd_nil)))))
set_option maxRecDepth 20000 in
theorem im_c_linesDoneByt : ∀ w ∈ wm_c_linesDoneByt, w ∈ lw_tbl := im_c (in_r [.code yX3_linesDoneBy cX3_linesDoneBy 4 (some .int)] [996] (by decide +kernel)) (in_app (in_r wo_c_linesDoneByt [426, 134, 997, 967, 968, 83, 130, 673] (by decide +kernel)) (in_app im_wsX30 (in_app im_wsX10 (in_app im_c_isDoneByt (in_app im_wsX60 im_nil)))))
set_option maxHeartbeats 4000000 in
set_option maxRecDepth 100000 in
theorem c_linesDoneByt (l : Launch) (dC : Nat → ClassId) (dI : Nat → Nat → Nat) (ad av : Nat → Nat) (sz : Nat) (a : Nat → Nat) (k : Nat → ClassId) (τ ln : Nat → Nat) (y : Nat → Nat → Int32) (g : Nat → Nat → Option Nat) (u : Nat → Int) (p0 : Int32) (hI : IC a u τ ln y g) : Met l yX3_linesDoneBy wm_c_linesDoneByt ({ frames := 1, cells := 0, slots := 0, locals := 60 }) (pw_ ad av (dC, dI) sz [.ref (a 4), .int p0] a k τ ln y g) (va_Qi (fun (r u : Int32) => u = r) (fun (r : Int32) (t : State) => (tw (dC, dI) a k τ ln y g t.heap)) (fr τ sz)) 0 0 (fr τ sz) := by
  refine Met.ofW (cc := cX3_linesDoneBy) (maxL := 4) (ret := (some .int)) (by decide) rfl ?_
  intro p e s m args below meth c s₁ B hml hv
  obtain ⟨rfl, hsz, hT, hK, hM⟩ := hv
  have hx := B.exec
  have hb := B.bytes
  have hr := B.returns
  have hts := atoms_spec (ws := wm_c_linesDoneByt) B.pre
  have hown : s.vm.findClass RX3 = some m.cls := findClass_of_methodNamed B.named
  have hlocks := B.notSynchronized
  subst hsz
  generalize hAe : fr τ s.heap.size = A at hM ⊢
  have hA : ∀ q : Nat, s.heap.size ≤ q → A q := fun q h => by rw [← hAe]; exact Or.inr h
  have hF : ∀ q, τ q ≠ 0 → A q := fun q h => by rw [← hAe]; exact Or.inl h
  have hS : va_S A s.heap s.heap [] := va_S.rf
  have hX := hI.1
  have hR := ic_r hI
  have hl := lv_entry ([.ref (a 4), .int p0]) (n := 4) (Nat.le_of_ble_eq_true rfl)
  rw [lg_entry_eq]
  generalize (lg_sl ([.ref (a 4), .int p0]) ++ List.replicate (4 - (lg_sl ([.ref (a 4), .int p0])).length) Slot.unset).toArray = ls at hl ⊢
  have hl : lv_has ls 4 [(0, .ref (a 4)), (1, .int p0)] := hl
  refine lv_iconst (v := 0) hx hb dX3_linesDoneBy_0 (by decide) ?_
  refine lv_istore_n (lv' := [(2, .int 0), (0, .ref (a 4)), (1, .int p0)]) hx hb dX3_linesDoneBy_1 rfl hl (by decide) rfl (fun ls hl => ?_)
  refine lv_iconst (v := 0) hx hb dX3_linesDoneBy_2 (by decide) ?_
  refine lv_istore_n (lv' := [(3, .int 0), (2, .int 0), (0, .ref (a 4)), (1, .int p0)]) hx hb dX3_linesDoneBy_3 rfl hl (by decide) rfl (fun ls hl => ?_)
  have loop_4 : ∀ (n : Nat) (w2 : Int32) (i3 : Int32) (H : Heap) (locs : List Loc) (ls : Array Slot), (u 2 - i3.toInt).toNat < n → 0 ≤ i3.toInt → i3.toInt ≤ u 2 → tw (dC, dI) a k τ ln y g H → va_S A s.heap H locs → lv_has ls 4 [(0, .ref (a 4)), (1, .int p0), (2, .int w2), (3, .int i3)] → W p l e (headSpec wm_c_linesDoneByt ({ frames := 1, cells := 0, slots := 0, locals := 60 })).room s m ([.ref (a 4), .int p0] : List Value).toArray below meth c H locs 0 0 (MQ below (va_Qi (fun (r u : Int32) => u = r) (fun (r : Int32) (t : State) => (tw (dC, dI) a k τ ln y g t.heap)) A) ([.ref (a 4), .int p0] : List Value).toArray s 0 0 A) (F0 m 4 ls []) := by
    intro n
    induction n with
    | zero => intro w2 i3 H locs ls hlt; exact absurd hlt (Nat.not_lt_zero _)
    | succ n ih_4 =>
      intro w2 i3 H locs ls hlt hi4_0 hi4_1 hT hS hl
      refine lv_iload_n hx hb dX3_linesDoneBy_4 rfl (lv_at hl 3 rfl) ?_
      refine lv_aload_n hx hb dX3_linesDoneBy_5 rfl (lv_at hl 0 rfl) ?_
      refine tw_get (D := (dC, dI)) (v := .ref (a 1)) (C := RX3) (T := TX3) (N := 12) hx hb hts (fun _ hh => (List.mem_cons_of_mem _ (List.mem_append_right _ (List.mem_append_left _ hh)))) hown hK hT (fx_4 hX) (by decide) cl_e14 rfl 0 (by decide) (hts (.fieldLink RX3 43 "TypingPool$Floor" "book" "LTypingPool$Book;") (List.mem_cons_of_mem _ (List.mem_append_left _ (List.mem_of_getElem? (i := 0) rfl)))) (fun _ h9 => h9) rfl dX3_linesDoneBy_6 ?_
      refine tw_get (D := (dC, dI)) (v := .int (y (a 1) 5)) (C := RX1) (T := TX1) (N := 8) hx hb hts (fun _ hh => (List.mem_cons_of_mem _ (List.mem_append_right _ (List.mem_append_right _ (List.mem_append_left _ hh))))) hown hK hT (fx_1 hX) (by decide) cl_e11 rfl 5 (by decide) (hts (.fieldLink RX3 85 "TypingPool$Book" "pieceCount" "I") (List.mem_cons_of_mem _ (List.mem_append_left _ (List.mem_of_getElem? (i := 1) rfl)))) (fun _ h9 => h9) rfl dX3_linesDoneBy_9 ?_
      have hc_1 := ic_2 hI
      refine lv_icmp_ge (tgt := 45) hx hb dX3_linesDoneBy_12 (by decide) (fun c_2 => ?_) (fun c_2 => ?_)
      · have nc_2 := z_le hc_1 rfl c_2
        refine lv_iload_n hx hb dX3_linesDoneBy_45 rfl (lv_at hl 2 rfl) ?_
        exact W.iret (v := w2) hx hb hr (fun t ht hW9 => ⟨⟨w2, w2, rfl, rfl, (tw_at ht hT)⟩, hS.F ht⟩) hS.2.2 dX3_linesDoneBy_46
      · have nc_2 := z_nle hc_1 rfl c_2
        refine lv_aload_n hx hb dX3_linesDoneBy_15 rfl (lv_at hl 0 rfl) ?_
        refine lv_iload_n hx hb dX3_linesDoneBy_16 rfl (lv_at hl 3 rfl) ?_
        refine lv_iload_n hx hb dX3_linesDoneBy_17 rfl (lv_at hl 1 rfl) ?_
        have hFc := tw_free hF hS hA
        refine va_calli (va_runV (As := [.int i3, .int p0]) (rest := []) ⟨hx, hb, hml, hown, hts⟩ (c_isDoneByt l dC dI ad av H.size a k τ ln y g u i3 p0 hI (by omega) (by omega)) (cwV 2 hts (gi_4 (List.mem_cons_of_mem _ (List.mem_append_left _ (List.mem_of_getElem? (i := 2) rfl))) (List.mem_cons_of_mem _ (List.mem_append_left _ (List.mem_of_getElem? (i := 3) rfl))) (List.mem_cons_of_mem _ (List.mem_append_left _ (List.mem_of_getElem? (i := 4) rfl))) (List.mem_cons_of_mem _ (List.mem_append_left _ (List.mem_of_getElem? (i := 5) rfl))) (fun _ hh => (List.mem_cons_of_mem _ (List.mem_append_right _ (List.mem_append_right _ (List.mem_append_right _ (List.mem_append_left _ hh)))))) gd_c_isDoneByt) rfl rfl rfl (by decide +kernel) ⟨Nat.le_of_ble_eq_true rfl, Nat.le_of_ble_eq_true rfl⟩) ⟨pw_blind, tw_recv hK hT (fx_4 hX) (by decide) cl_e14 rfl, pw_use hT hK hFc hS hM⟩ rfl rfl hl.1 rfl (lv_room (Nat.le_of_ble_eq_true rfl)) dX3_linesDoneBy_18 ⟨Nat.le_of_ble_eq_true rfl, Nat.le_of_ble_eq_true rfl⟩) hS (fun q _ h => hFc q h) hFc (fun r0 r_3 t H locs ht hvm hw hB hz1 hk1 hS => ?_)
        refine W.widen (k := 0) (n := 0) (Nat.le_of_ble_eq_true rfl) (Nat.le_of_ble_eq_true rfl) ?_
        clear hvm hz1 hk1
        subst hw
        rcases hB with ⟨hre, hT⟩ | ⟨hre, hT⟩
        · refine lq_top (v := 1) hre ?_
          rw [ht] at hT
          refine lv_if_eq (tgt := 39) hx hb dX3_linesDoneBy_21 (by decide) (fun c_4 => absurd c_4 (by decide)) (fun c_4 => ?_)
          refine lv_iload_n hx hb dX3_linesDoneBy_24 rfl (lv_at hl 2 rfl) ?_
          refine lv_aload_n hx hb dX3_linesDoneBy_25 rfl (lv_at hl 0 rfl) ?_
          refine tw_get (D := (dC, dI)) (v := .ref (a 1)) (C := RX3) (T := TX3) (N := 12) hx hb hts (fun _ hh => (List.mem_cons_of_mem _ (List.mem_append_right _ (List.mem_append_left _ hh)))) hown hK hT (fx_4 hX) (by decide) cl_e14 rfl 0 (by decide) (hts (.fieldLink RX3 43 "TypingPool$Floor" "book" "LTypingPool$Book;") (List.mem_cons_of_mem _ (List.mem_append_left _ (List.mem_of_getElem? (i := 0) rfl)))) (fun _ h9 => h9) rfl dX3_linesDoneBy_26 ?_
          refine tw_get (D := (dC, dI)) (v := .ref (a 11)) (C := RX1) (T := TX1) (N := 8) hx hb hts (fun _ hh => (List.mem_cons_of_mem _ (List.mem_append_right _ (List.mem_append_right _ (List.mem_append_left _ hh))))) hown hK hT (fx_1 hX) (by decide) cl_e11 rfl 4 (by decide) (hts (.fieldLink RX3 103 "TypingPool$Book" "pieces" "[LTypingPool$Piece;") (List.mem_cons_of_mem _ (List.mem_append_left _ (List.mem_of_getElem? (i := 6) rfl)))) (fun _ h9 => h9) rfl dX3_linesDoneBy_29 ?_
          refine lv_iload_n hx hb dX3_linesDoneBy_32 rfl (lv_at hl 3 rfl) ?_
          refine tw_aald hx hb hK hT 4 (fx_11 hX) (by decide) cl_e21 rfl (z_in rfl (by omega) (by omega)) dX3_linesDoneBy_33 ?_
          obtain ⟨q_5, hgq_5, htq_5⟩ := ic_l11 hI (x := i3) rfl (by omega) (by omega)
          refine lq_topr hgq_5 ?_
          refine tw_get (D := (dC, dI)) (v := .int (y q_5 2)) (C := RX6) (T := TX6) (N := 11) hx hb hts (fun _ hh => (List.mem_cons_of_mem _ (List.mem_append_right _ (List.mem_append_right _ (List.mem_append_right _ (List.mem_append_right _ (List.mem_append_left _ hh))))))) hown hK hT htq_5 (by decide) cl_e2 rfl 2 (by decide) (hts (.fieldLink RX3 187 "TypingPool$Piece" "lines" "I") (List.mem_cons_of_mem _ (List.mem_append_left _ (List.mem_of_getElem? (i := 7) rfl)))) (fun _ h9 => h9) rfl dX3_linesDoneBy_34 ?_
          refine lv_iadd hx hb dX3_linesDoneBy_37 ?_
          refine lv_topi (fun x_6 ex_6 => ?_)
          refine lv_istore_n (lv' := [(2, .int x_6), (0, .ref (a 4)), (1, .int p0), (3, .int i3)]) hx hb dX3_linesDoneBy_38 rfl hl (by decide) rfl (fun ls hl => ?_)
          obtain ⟨x_7, ex_7⟩ : ∃ y : Int32, y = i3 + Int32.ofInt 1 := ⟨_, rfl⟩
          have hx_7 := z_add ex_7 rfl (zk (x := Int32.ofInt 1) 1 rfl) (by omega) (by omega)
          refine lv_iinc (v := x_7) (lv' := [(3, .int x_7), (2, .int x_6), (0, .ref (a 4)), (1, .int p0)]) hx hb dX3_linesDoneBy_39 hl (k := 3) rfl ex_7.symm (by decide) rfl (fun ls hl => ?_)
          refine lv_goto (tgt := 4) hx hb dX3_linesDoneBy_42 (by decide) ?_
          exact ih_4  x_6 x_7 H _ ls (by omega) (by omega) (by omega) hT hS (lv_sub hl [2, 3, 1, 0] rfl)
        · refine lq_top (v := 0) hre ?_
          rw [ht] at hT
          refine lv_if_eq (tgt := 39) hx hb dX3_linesDoneBy_21 (by decide) (fun c_8 => ?_) (fun c_8 => absurd c_8 (by decide))
          obtain ⟨x_9, ex_9⟩ : ∃ y : Int32, y = i3 + Int32.ofInt 1 := ⟨_, rfl⟩
          have hx_9 := z_add ex_9 rfl (zk (x := Int32.ofInt 1) 1 rfl) (by omega) (by omega)
          refine lv_iinc (v := x_9) (lv' := [(3, .int x_9), (0, .ref (a 4)), (1, .int p0), (2, .int w2)]) hx hb dX3_linesDoneBy_39 hl (k := 3) rfl ex_9.symm (by decide) rfl (fun ls hl => ?_)
          refine lv_goto (tgt := 4) hx hb dX3_linesDoneBy_42 (by decide) ?_
          exact ih_4  w2 x_9 H _ ls (by omega) (by omega) (by omega) hT hS (lv_sub hl [1, 2, 3, 0] rfl)
  have hp_10 : (0 : Int32).toInt = 0 := (zk (x := 0) 0 rfl)
  have hp_11 : (0 : Int32).toInt = 0 := (zk (x := 0) 0 rfl)
  exact loop_4 _ (0 : Int32) (0 : Int32) s.heap _ ls (Nat.lt_succ_self _) (by omega) (by omega) hT hS (lv_sub hl [2, 3, 1, 0] rfl)
def wo_c_piecesDoneByt : List Cond := [.fieldLink RX3 43 "TypingPool$Floor" "book" "LTypingPool$Book;", .fieldLink RX3 85 "TypingPool$Book" "pieceCount" "I", .methodLink RX3 202 yX3_isDoneBy, .instanceMethod yX3_isDoneBy, .selects RX3 yX3_isDoneBy yX3_isDoneBy, .initialized RX3]
def wm_c_piecesDoneByt : List Cond := .code yX3_piecesDoneBy cX3_piecesDoneBy 4 (some .int) :: (wo_c_piecesDoneByt ++ (wsX30 ++ (wsX10 ++ (wm_c_isDoneByt ++ ([] : List Cond)))))
theorem gd_c_piecesDoneByt : ∀ w ∈ wm_c_piecesDoneByt, goodWord w = true := gd_c rfl (gd_a (by decide) (gd_a gd_wsX30 (gd_a gd_wsX10 (gd_a gd_c_isDoneByt gd_nil))))
set_option maxRecDepth 20000 in
theorem im_c_piecesDoneByt : ∀ w ∈ wm_c_piecesDoneByt, w ∈ lw_tbl := im_c (in_r [.code yX3_piecesDoneBy cX3_piecesDoneBy 4 (some .int)] [1158] (by decide +kernel)) (in_app (in_r wo_c_piecesDoneByt [426, 134, 997, 967, 968, 83] (by decide +kernel)) (in_app im_wsX30 (in_app im_wsX10 (in_app im_c_isDoneByt im_nil))))
set_option maxHeartbeats 4000000 in
set_option maxRecDepth 100000 in
theorem c_piecesDoneByt (l : Launch) (dC : Nat → ClassId) (dI : Nat → Nat → Nat) (ad av : Nat → Nat) (sz : Nat) (a : Nat → Nat) (k : Nat → ClassId) (τ ln : Nat → Nat) (y : Nat → Nat → Int32) (g : Nat → Nat → Option Nat) (u : Nat → Int) (p0 : Int32) (hI : IC a u τ ln y g) : Met l yX3_piecesDoneBy wm_c_piecesDoneByt ({ frames := 1, cells := 0, slots := 0, locals := 60 }) (pw_ ad av (dC, dI) sz [.ref (a 4), .int p0] a k τ ln y g) (va_Qi (fun (r u : Int32) => u = r) (fun (r : Int32) (t : State) => (tw (dC, dI) a k τ ln y g t.heap)) (fr τ sz)) 0 0 (fr τ sz) := by
  refine Met.ofW (cc := cX3_piecesDoneBy) (maxL := 4) (ret := (some .int)) (by decide) rfl ?_
  intro p e s m args below meth c s₁ B hml hv
  obtain ⟨rfl, hsz, hT, hK, hM⟩ := hv
  have hx := B.exec
  have hb := B.bytes
  have hr := B.returns
  have hts := atoms_spec (ws := wm_c_piecesDoneByt) B.pre
  have hown : s.vm.findClass RX3 = some m.cls := findClass_of_methodNamed B.named
  have hlocks := B.notSynchronized
  subst hsz
  generalize hAe : fr τ s.heap.size = A at hM ⊢
  have hA : ∀ q : Nat, s.heap.size ≤ q → A q := fun q h => by rw [← hAe]; exact Or.inr h
  have hF : ∀ q, τ q ≠ 0 → A q := fun q h => by rw [← hAe]; exact Or.inl h
  have hS : va_S A s.heap s.heap [] := va_S.rf
  have hX := hI.1
  have hR := ic_r hI
  have hl := lv_entry ([.ref (a 4), .int p0]) (n := 4) (Nat.le_of_ble_eq_true rfl)
  rw [lg_entry_eq]
  generalize (lg_sl ([.ref (a 4), .int p0]) ++ List.replicate (4 - (lg_sl ([.ref (a 4), .int p0])).length) Slot.unset).toArray = ls at hl ⊢
  have hl : lv_has ls 4 [(0, .ref (a 4)), (1, .int p0)] := hl
  refine lv_iconst (v := 0) hx hb dX3_piecesDoneBy_0 (by decide) ?_
  refine lv_istore_n (lv' := [(2, .int 0), (0, .ref (a 4)), (1, .int p0)]) hx hb dX3_piecesDoneBy_1 rfl hl (by decide) rfl (fun ls hl => ?_)
  refine lv_iconst (v := 0) hx hb dX3_piecesDoneBy_2 (by decide) ?_
  refine lv_istore_n (lv' := [(3, .int 0), (2, .int 0), (0, .ref (a 4)), (1, .int p0)]) hx hb dX3_piecesDoneBy_3 rfl hl (by decide) rfl (fun ls hl => ?_)
  have loop_4 : ∀ (n : Nat) (w2 : Int32) (i3 : Int32) (H : Heap) (locs : List Loc) (ls : Array Slot), (u 2 - i3.toInt).toNat < n → 0 ≤ i3.toInt → i3.toInt ≤ u 2 → tw (dC, dI) a k τ ln y g H → va_S A s.heap H locs → lv_has ls 4 [(0, .ref (a 4)), (1, .int p0), (2, .int w2), (3, .int i3)] → W p l e (headSpec wm_c_piecesDoneByt ({ frames := 1, cells := 0, slots := 0, locals := 60 })).room s m ([.ref (a 4), .int p0] : List Value).toArray below meth c H locs 0 0 (MQ below (va_Qi (fun (r u : Int32) => u = r) (fun (r : Int32) (t : State) => (tw (dC, dI) a k τ ln y g t.heap)) A) ([.ref (a 4), .int p0] : List Value).toArray s 0 0 A) (F0 m 4 ls []) := by
    intro n
    induction n with
    | zero => intro w2 i3 H locs ls hlt; exact absurd hlt (Nat.not_lt_zero _)
    | succ n ih_4 =>
      intro w2 i3 H locs ls hlt hi4_0 hi4_1 hT hS hl
      refine lv_iload_n hx hb dX3_piecesDoneBy_4 rfl (lv_at hl 3 rfl) ?_
      refine lv_aload_n hx hb dX3_piecesDoneBy_5 rfl (lv_at hl 0 rfl) ?_
      refine tw_get (D := (dC, dI)) (v := .ref (a 1)) (C := RX3) (T := TX3) (N := 12) hx hb hts (fun _ hh => (List.mem_cons_of_mem _ (List.mem_append_right _ (List.mem_append_left _ hh)))) hown hK hT (fx_4 hX) (by decide) cl_e14 rfl 0 (by decide) (hts (.fieldLink RX3 43 "TypingPool$Floor" "book" "LTypingPool$Book;") (List.mem_cons_of_mem _ (List.mem_append_left _ (List.mem_of_getElem? (i := 0) rfl)))) (fun _ h9 => h9) rfl dX3_piecesDoneBy_6 ?_
      refine tw_get (D := (dC, dI)) (v := .int (y (a 1) 5)) (C := RX1) (T := TX1) (N := 8) hx hb hts (fun _ hh => (List.mem_cons_of_mem _ (List.mem_append_right _ (List.mem_append_right _ (List.mem_append_left _ hh))))) hown hK hT (fx_1 hX) (by decide) cl_e11 rfl 5 (by decide) (hts (.fieldLink RX3 85 "TypingPool$Book" "pieceCount" "I") (List.mem_cons_of_mem _ (List.mem_append_left _ (List.mem_of_getElem? (i := 1) rfl)))) (fun _ h9 => h9) rfl dX3_piecesDoneBy_9 ?_
      have hc_1 := ic_2 hI
      refine lv_icmp_ge (tgt := 33) hx hb dX3_piecesDoneBy_12 (by decide) (fun c_2 => ?_) (fun c_2 => ?_)
      · have nc_2 := z_le hc_1 rfl c_2
        refine lv_iload_n hx hb dX3_piecesDoneBy_33 rfl (lv_at hl 2 rfl) ?_
        exact W.iret (v := w2) hx hb hr (fun t ht hW9 => ⟨⟨w2, w2, rfl, rfl, (tw_at ht hT)⟩, hS.F ht⟩) hS.2.2 dX3_piecesDoneBy_34
      · have nc_2 := z_nle hc_1 rfl c_2
        refine lv_aload_n hx hb dX3_piecesDoneBy_15 rfl (lv_at hl 0 rfl) ?_
        refine lv_iload_n hx hb dX3_piecesDoneBy_16 rfl (lv_at hl 3 rfl) ?_
        refine lv_iload_n hx hb dX3_piecesDoneBy_17 rfl (lv_at hl 1 rfl) ?_
        have hFc := tw_free hF hS hA
        refine va_calli (va_runV (As := [.int i3, .int p0]) (rest := []) ⟨hx, hb, hml, hown, hts⟩ (c_isDoneByt l dC dI ad av H.size a k τ ln y g u i3 p0 hI (by omega) (by omega)) (cwV 2 hts (gi_4 (List.mem_cons_of_mem _ (List.mem_append_left _ (List.mem_of_getElem? (i := 2) rfl))) (List.mem_cons_of_mem _ (List.mem_append_left _ (List.mem_of_getElem? (i := 3) rfl))) (List.mem_cons_of_mem _ (List.mem_append_left _ (List.mem_of_getElem? (i := 4) rfl))) (List.mem_cons_of_mem _ (List.mem_append_left _ (List.mem_of_getElem? (i := 5) rfl))) (fun _ hh => (List.mem_cons_of_mem _ (List.mem_append_right _ (List.mem_append_right _ (List.mem_append_right _ (List.mem_append_left _ hh)))))) gd_c_isDoneByt) rfl rfl rfl (by decide +kernel) ⟨Nat.le_of_ble_eq_true rfl, Nat.le_of_ble_eq_true rfl⟩) ⟨pw_blind, tw_recv hK hT (fx_4 hX) (by decide) cl_e14 rfl, pw_use hT hK hFc hS hM⟩ rfl rfl hl.1 rfl (lv_room (Nat.le_of_ble_eq_true rfl)) dX3_piecesDoneBy_18 ⟨Nat.le_of_ble_eq_true rfl, Nat.le_of_ble_eq_true rfl⟩) hS (fun q _ h => hFc q h) hFc (fun r0 r_3 t H locs ht hvm hw hB hz1 hk1 hS => ?_)
        refine W.widen (k := 0) (n := 0) (Nat.le_of_ble_eq_true rfl) (Nat.le_of_ble_eq_true rfl) ?_
        clear hvm hz1 hk1
        subst hw
        rcases hB with ⟨hre, hT⟩ | ⟨hre, hT⟩
        · refine lq_top (v := 1) hre ?_
          rw [ht] at hT
          refine lv_if_eq (tgt := 27) hx hb dX3_piecesDoneBy_21 (by decide) (fun c_4 => absurd c_4 (by decide)) (fun c_4 => ?_)
          obtain ⟨x_5, ex_5⟩ : ∃ y : Int32, y = w2 + Int32.ofInt 1 := ⟨_, rfl⟩
          refine lv_iinc (v := x_5) (lv' := [(2, .int x_5), (0, .ref (a 4)), (1, .int p0), (3, .int i3)]) hx hb dX3_piecesDoneBy_24 hl (k := 2) rfl ex_5.symm (by decide) rfl (fun ls hl => ?_)
          obtain ⟨x_6, ex_6⟩ : ∃ y : Int32, y = i3 + Int32.ofInt 1 := ⟨_, rfl⟩
          have hx_6 := z_add ex_6 rfl (zk (x := Int32.ofInt 1) 1 rfl) (by omega) (by omega)
          refine lv_iinc (v := x_6) (lv' := [(3, .int x_6), (2, .int x_5), (0, .ref (a 4)), (1, .int p0)]) hx hb dX3_piecesDoneBy_27 hl (k := 3) rfl ex_6.symm (by decide) rfl (fun ls hl => ?_)
          refine lv_goto (tgt := 4) hx hb dX3_piecesDoneBy_30 (by decide) ?_
          exact ih_4  x_5 x_6 H _ ls (by omega) (by omega) (by omega) hT hS (lv_sub hl [2, 3, 1, 0] rfl)
        · refine lq_top (v := 0) hre ?_
          rw [ht] at hT
          refine lv_if_eq (tgt := 27) hx hb dX3_piecesDoneBy_21 (by decide) (fun c_7 => ?_) (fun c_7 => absurd c_7 (by decide))
          obtain ⟨x_8, ex_8⟩ : ∃ y : Int32, y = i3 + Int32.ofInt 1 := ⟨_, rfl⟩
          have hx_8 := z_add ex_8 rfl (zk (x := Int32.ofInt 1) 1 rfl) (by omega) (by omega)
          refine lv_iinc (v := x_8) (lv' := [(3, .int x_8), (0, .ref (a 4)), (1, .int p0), (2, .int w2)]) hx hb dX3_piecesDoneBy_27 hl (k := 3) rfl ex_8.symm (by decide) rfl (fun ls hl => ?_)
          refine lv_goto (tgt := 4) hx hb dX3_piecesDoneBy_30 (by decide) ?_
          exact ih_4  w2 x_8 H _ ls (by omega) (by omega) (by omega) hT hS (lv_sub hl [1, 2, 3, 0] rfl)
  have hp_9 : (0 : Int32).toInt = 0 := (zk (x := 0) 0 rfl)
  have hp_10 : (0 : Int32).toInt = 0 := (zk (x := 0) 0 rfl)
  exact loop_4 _ (0 : Int32) (0 : Int32) s.heap _ ls (Nat.lt_succ_self _) (by omega) (by omega) hT hS (lv_sub hl [2, 3, 1, 0] rfl)
