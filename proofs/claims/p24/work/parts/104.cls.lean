theorem dX11_hand_0 : decode cX11_hand 0 = .ok (.iload_n 1, 1) := by decide +kernel
theorem dX11_hand_1 : decode cX11_hand 1 = .ok (.bipush 10, 2) := by decide +kernel
theorem dX11_hand_100 : decode cX11_hand 100 = .ok (.getfield 10, 3) := by decide +kernel
theorem dX11_hand_103 : decode cX11_hand 103 = .ok (.dup, 1) := by decide +kernel
theorem dX11_hand_104 : decode cX11_hand 104 = .ok (.getfield 79, 3) := by decide +kernel
theorem dX11_hand_107 : decode cX11_hand 107 = .ok (.iconst 1, 1) := by decide +kernel
theorem dX11_hand_108 : decode cX11_hand 108 = .ok (.iadd, 1) := by decide +kernel
theorem dX11_hand_109 : decode cX11_hand 109 = .ok (.putfield 79, 3) := by decide +kernel
theorem dX11_hand_112 : decode cX11_hand 112 = .ok (.aload_n 0, 1) := by decide +kernel
theorem dX11_hand_113 : decode cX11_hand 113 = .ok (.getfield 28, 3) := by decide +kernel
theorem dX11_hand_116 : decode cX11_hand 116 = .ok (.iload 6, 2) := by decide +kernel
theorem dX11_hand_118 : decode cX11_hand 118 = .ok (.iload_n 3, 1) := by decide +kernel
theorem dX11_hand_119 : decode cX11_hand 119 = .ok (.invokevirtual 91, 3) := by decide +kernel
theorem dX11_hand_12 : decode cX11_hand 12 = .ok (.iload_n 2, 1) := by decide +kernel
theorem dX11_hand_122 : decode cX11_hand 122 = .ok (.iload 6, 2) := by decide +kernel
theorem dX11_hand_124 : decode cX11_hand 124 = .ok (.ireturn, 1) := by decide +kernel
theorem dX11_hand_13 : decode cX11_hand 13 = .ok (.iconst 0, 1) := by decide +kernel
theorem dX11_hand_14 : decode cX11_hand 14 = .ok (.sipush 255, 3) := by decide +kernel
theorem dX11_hand_17 : decode cX11_hand 17 = .ok (.invokestatic 68, 3) := by decide +kernel
theorem dX11_hand_20 : decode cX11_hand 20 = .ok (.ifCond .eq 27, 3) := by decide +kernel
theorem dX11_hand_23 : decode cX11_hand 23 = .ok (.iload_n 3, 1) := by decide +kernel
theorem dX11_hand_24 : decode cX11_hand 24 = .ok (.iconst 0, 1) := by decide +kernel
theorem dX11_hand_25 : decode cX11_hand 25 = .ok (.ldc 78, 2) := by decide +kernel
theorem dX11_hand_27 : decode cX11_hand 27 = .ok (.invokestatic 68, 3) := by decide +kernel
theorem dX11_hand_3 : decode cX11_hand 3 = .ok (.sipush 200, 3) := by decide +kernel
theorem dX11_hand_30 : decode cX11_hand 30 = .ok (.ifCond .eq 17, 3) := by decide +kernel
theorem dX11_hand_33 : decode cX11_hand 33 = .ok (.iload 4, 2) := by decide +kernel
theorem dX11_hand_35 : decode cX11_hand 35 = .ok (.iconst 0, 1) := by decide +kernel
theorem dX11_hand_36 : decode cX11_hand 36 = .ok (.iconst 3, 1) := by decide +kernel
theorem dX11_hand_37 : decode cX11_hand 37 = .ok (.invokestatic 68, 3) := by decide +kernel
theorem dX11_hand_40 : decode cX11_hand 40 = .ok (.ifCond .eq 7, 3) := by decide +kernel
theorem dX11_hand_43 : decode cX11_hand 43 = .ok (.iconst 1, 1) := by decide +kernel
theorem dX11_hand_44 : decode cX11_hand 44 = .ok (.goto 4, 3) := by decide +kernel
theorem dX11_hand_47 : decode cX11_hand 47 = .ok (.iconst 0, 1) := by decide +kernel
theorem dX11_hand_48 : decode cX11_hand 48 = .ok (.istore 5, 2) := by decide +kernel
theorem dX11_hand_50 : decode cX11_hand 50 = .ok (.iload 5, 2) := by decide +kernel
theorem dX11_hand_52 : decode cX11_hand 52 = .ok (.ifCond .eq 15, 3) := by decide +kernel
theorem dX11_hand_55 : decode cX11_hand 55 = .ok (.aload_n 0, 1) := by decide +kernel
theorem dX11_hand_56 : decode cX11_hand 56 = .ok (.getfield 10, 3) := by decide +kernel
theorem dX11_hand_59 : decode cX11_hand 59 = .ok (.getfield 79, 3) := by decide +kernel
theorem dX11_hand_6 : decode cX11_hand 6 = .ok (.invokestatic 68, 3) := by decide +kernel
theorem dX11_hand_62 : decode cX11_hand 62 = .ok (.bipush 8, 2) := by decide +kernel
theorem dX11_hand_64 : decode cX11_hand 64 = .ok (.if_icmp .lt 5, 3) := by decide +kernel
theorem dX11_hand_67 : decode cX11_hand 67 = .ok (.iconst (-1), 1) := by decide +kernel
theorem dX11_hand_68 : decode cX11_hand 68 = .ok (.ireturn, 1) := by decide +kernel
theorem dX11_hand_69 : decode cX11_hand 69 = .ok (.aload_n 0, 1) := by decide +kernel
theorem dX11_hand_70 : decode cX11_hand 70 = .ok (.getfield 10, 3) := by decide +kernel
theorem dX11_hand_73 : decode cX11_hand 73 = .ok (.getfield 79, 3) := by decide +kernel
theorem dX11_hand_76 : decode cX11_hand 76 = .ok (.istore 6, 2) := by decide +kernel
theorem dX11_hand_78 : decode cX11_hand 78 = .ok (.aload_n 0, 1) := by decide +kernel
theorem dX11_hand_79 : decode cX11_hand 79 = .ok (.getfield 10, 3) := by decide +kernel
theorem dX11_hand_82 : decode cX11_hand 82 = .ok (.getfield 82, 3) := by decide +kernel
theorem dX11_hand_85 : decode cX11_hand 85 = .ok (.iload 6, 2) := by decide +kernel
theorem dX11_hand_87 : decode cX11_hand 87 = .ok (.new 86, 3) := by decide +kernel
theorem dX11_hand_9 : decode cX11_hand 9 = .ok (.ifCond .eq 38, 3) := by decide +kernel
theorem dX11_hand_90 : decode cX11_hand 90 = .ok (.dup, 1) := by decide +kernel
theorem dX11_hand_91 : decode cX11_hand 91 = .ok (.iload_n 1, 1) := by decide +kernel
theorem dX11_hand_92 : decode cX11_hand 92 = .ok (.iload_n 2, 1) := by decide +kernel
theorem dX11_hand_93 : decode cX11_hand 93 = .ok (.iload 4, 2) := by decide +kernel
theorem dX11_hand_95 : decode cX11_hand 95 = .ok (.invokespecial 88, 3) := by decide +kernel
theorem dX11_hand_98 : decode cX11_hand 98 = .ok (.aastore, 1) := by decide +kernel
theorem dX11_hand_99 : decode cX11_hand 99 = .ok (.aload_n 0, 1) := by decide +kernel
theorem dX11_left_0 : decode cX11_left 0 = .ok (.aload_n 0, 1) := by decide +kernel
theorem dX11_left_1 : decode cX11_left 1 = .ok (.getfield 10, 3) := by decide +kernel
theorem dX11_left_11 : decode cX11_left 11 = .ok (.iconst (-1), 1) := by decide +kernel
theorem dX11_left_12 : decode cX11_left 12 = .ok (.ireturn, 1) := by decide +kernel
theorem dX11_left_13 : decode cX11_left 13 = .ok (.aload_n 0, 1) := by decide +kernel
theorem dX11_left_14 : decode cX11_left 14 = .ok (.getfield 10, 3) := by decide +kernel
theorem dX11_left_17 : decode cX11_left 17 = .ok (.getfield 145, 3) := by decide +kernel
theorem dX11_left_20 : decode cX11_left 20 = .ok (.iload_n 1, 1) := by decide +kernel
theorem dX11_left_21 : decode cX11_left 21 = .ok (.aaload, 1) := by decide +kernel
theorem dX11_left_22 : decode cX11_left 22 = .ok (.astore_n 3, 1) := by decide +kernel
theorem dX11_left_23 : decode cX11_left 23 = .ok (.iload_n 2, 1) := by decide +kernel
theorem dX11_left_24 : decode cX11_left 24 = .ok (.tableswitch 59 0 2 #[28, 33, 46], 28) := by decide +kernel
theorem dX11_left_4 : decode cX11_left 4 = .ok (.iload_n 1, 1) := by decide +kernel
theorem dX11_left_5 : decode cX11_left 5 = .ok (.invokevirtual 201, 3) := by decide +kernel
theorem dX11_left_52 : decode cX11_left 52 = .ok (.aload_n 3, 1) := by decide +kernel
theorem dX11_left_53 : decode cX11_left 53 = .ok (.invokevirtual 289, 3) := by decide +kernel
theorem dX11_left_56 : decode cX11_left 56 = .ok (.ireturn, 1) := by decide +kernel
theorem dX11_left_57 : decode cX11_left 57 = .ok (.aload_n 3, 1) := by decide +kernel
theorem dX11_left_58 : decode cX11_left 58 = .ok (.getfield 283, 3) := by decide +kernel
theorem dX11_left_61 : decode cX11_left 61 = .ok (.aload_n 3, 1) := by decide +kernel
theorem dX11_left_62 : decode cX11_left 62 = .ok (.getfield 286, 3) := by decide +kernel
theorem dX11_left_65 : decode cX11_left 65 = .ok (.ior, 1) := by decide +kernel
theorem dX11_left_66 : decode cX11_left 66 = .ok (.invokestatic 292, 3) := by decide +kernel
theorem dX11_left_69 : decode cX11_left 69 = .ok (.ireturn, 1) := by decide +kernel
theorem dX11_left_70 : decode cX11_left 70 = .ok (.aload_n 3, 1) := by decide +kernel
theorem dX11_left_71 : decode cX11_left 71 = .ok (.getfield 283, 3) := by decide +kernel
theorem dX11_left_74 : decode cX11_left 74 = .ok (.aload_n 3, 1) := by decide +kernel
theorem dX11_left_75 : decode cX11_left 75 = .ok (.getfield 286, 3) := by decide +kernel
theorem dX11_left_78 : decode cX11_left 78 = .ok (.iand, 1) := by decide +kernel
theorem dX11_left_79 : decode cX11_left 79 = .ok (.invokestatic 292, 3) := by decide +kernel
theorem dX11_left_8 : decode cX11_left 8 = .ok (.ifCond .ne 5, 3) := by decide +kernel
theorem dX11_left_82 : decode cX11_left 82 = .ok (.ireturn, 1) := by decide +kernel
theorem dX11_left_83 : decode cX11_left 83 = .ok (.iconst (-1), 1) := by decide +kernel
theorem dX11_left_84 : decode cX11_left 84 = .ok (.ireturn, 1) := by decide +kernel
theorem dX11_piece_0 : decode cX11_piece 0 = .ok (.iload_n 1, 1) := by decide +kernel
theorem dX11_piece_1 : decode cX11_piece 1 = .ok (.iconst 0, 1) := by decide +kernel
theorem dX11_piece_10 : decode cX11_piece 10 = .ok (.iload_n 2, 1) := by decide +kernel
theorem dX11_piece_102 : decode cX11_piece 102 = .ok (.ifCond .eq 7, 3) := by decide +kernel
theorem dX11_piece_105 : decode cX11_piece 105 = .ok (.iconst 1, 1) := by decide +kernel
theorem dX11_piece_106 : decode cX11_piece 106 = .ok (.goto 4, 3) := by decide +kernel
theorem dX11_piece_109 : decode cX11_piece 109 = .ok (.iconst 0, 1) := by decide +kernel
theorem dX11_piece_11 : decode cX11_piece 11 = .ok (.iconst 0, 1) := by decide +kernel
theorem dX11_piece_110 : decode cX11_piece 110 = .ok (.istore 10, 2) := by decide +kernel
theorem dX11_piece_112 : decode cX11_piece 112 = .ok (.iload 10, 2) := by decide +kernel
theorem dX11_piece_114 : decode cX11_piece 114 = .ok (.ifCond .eq 15, 3) := by decide +kernel
theorem dX11_piece_117 : decode cX11_piece 117 = .ok (.aload_n 0, 1) := by decide +kernel
theorem dX11_piece_118 : decode cX11_piece 118 = .ok (.getfield 10, 3) := by decide +kernel
theorem dX11_piece_12 : decode cX11_piece 12 = .ok (.bipush 7, 2) := by decide +kernel
theorem dX11_piece_121 : decode cX11_piece 121 = .ok (.getfield 112, 3) := by decide +kernel
theorem dX11_piece_124 : decode cX11_piece 124 = .ok (.bipush 30, 2) := by decide +kernel
theorem dX11_piece_126 : decode cX11_piece 126 = .ok (.if_icmp .lt 5, 3) := by decide +kernel
theorem dX11_piece_129 : decode cX11_piece 129 = .ok (.iconst (-1), 1) := by decide +kernel
theorem dX11_piece_130 : decode cX11_piece 130 = .ok (.ireturn, 1) := by decide +kernel
theorem dX11_piece_131 : decode cX11_piece 131 = .ok (.new 115, 3) := by decide +kernel
theorem dX11_piece_134 : decode cX11_piece 134 = .ok (.dup, 1) := by decide +kernel
theorem dX11_piece_135 : decode cX11_piece 135 = .ok (.invokespecial 117, 3) := by decide +kernel
theorem dX11_piece_138 : decode cX11_piece 138 = .ok (.astore 11, 2) := by decide +kernel
theorem dX11_piece_14 : decode cX11_piece 14 = .ok (.invokestatic 68, 3) := by decide +kernel
theorem dX11_piece_140 : decode cX11_piece 140 = .ok (.aload 11, 2) := by decide +kernel
theorem dX11_piece_142 : decode cX11_piece 142 = .ok (.iload_n 1, 1) := by decide +kernel
theorem dX11_piece_143 : decode cX11_piece 143 = .ok (.putfield 118, 3) := by decide +kernel
theorem dX11_piece_146 : decode cX11_piece 146 = .ok (.aload 11, 2) := by decide +kernel
theorem dX11_piece_148 : decode cX11_piece 148 = .ok (.iload_n 2, 1) := by decide +kernel
theorem dX11_piece_149 : decode cX11_piece 149 = .ok (.putfield 121, 3) := by decide +kernel
theorem dX11_piece_152 : decode cX11_piece 152 = .ok (.aload 11, 2) := by decide +kernel
theorem dX11_piece_154 : decode cX11_piece 154 = .ok (.iload_n 3, 1) := by decide +kernel
theorem dX11_piece_155 : decode cX11_piece 155 = .ok (.putfield 124, 3) := by decide +kernel
theorem dX11_piece_158 : decode cX11_piece 158 = .ok (.aload 11, 2) := by decide +kernel
theorem dX11_piece_160 : decode cX11_piece 160 = .ok (.iload 4, 2) := by decide +kernel
theorem dX11_piece_162 : decode cX11_piece 162 = .ok (.putfield 127, 3) := by decide +kernel
theorem dX11_piece_165 : decode cX11_piece 165 = .ok (.aload 11, 2) := by decide +kernel
theorem dX11_piece_167 : decode cX11_piece 167 = .ok (.iload 5, 2) := by decide +kernel
theorem dX11_piece_169 : decode cX11_piece 169 = .ok (.putfield 130, 3) := by decide +kernel
theorem dX11_piece_17 : decode cX11_piece 17 = .ok (.ifCond .eq 92, 3) := by decide +kernel
theorem dX11_piece_172 : decode cX11_piece 172 = .ok (.aload 11, 2) := by decide +kernel
theorem dX11_piece_174 : decode cX11_piece 174 = .ok (.iload 6, 2) := by decide +kernel
theorem dX11_piece_176 : decode cX11_piece 176 = .ok (.putfield 133, 3) := by decide +kernel
theorem dX11_piece_179 : decode cX11_piece 179 = .ok (.aload 11, 2) := by decide +kernel
theorem dX11_piece_181 : decode cX11_piece 181 = .ok (.iload 7, 2) := by decide +kernel
theorem dX11_piece_183 : decode cX11_piece 183 = .ok (.putfield 136, 3) := by decide +kernel
theorem dX11_piece_186 : decode cX11_piece 186 = .ok (.aload 11, 2) := by decide +kernel
theorem dX11_piece_188 : decode cX11_piece 188 = .ok (.iload 8, 2) := by decide +kernel
theorem dX11_piece_190 : decode cX11_piece 190 = .ok (.putfield 139, 3) := by decide +kernel
theorem dX11_piece_193 : decode cX11_piece 193 = .ok (.aload 11, 2) := by decide +kernel
theorem dX11_piece_195 : decode cX11_piece 195 = .ok (.iload 9, 2) := by decide +kernel
theorem dX11_piece_197 : decode cX11_piece 197 = .ok (.putfield 142, 3) := by decide +kernel
theorem dX11_piece_2 : decode cX11_piece 2 = .ok (.bipush 7, 2) := by decide +kernel
theorem dX11_piece_20 : decode cX11_piece 20 = .ok (.iload_n 3, 1) := by decide +kernel
theorem dX11_piece_200 : decode cX11_piece 200 = .ok (.aload_n 0, 1) := by decide +kernel
theorem dX11_piece_201 : decode cX11_piece 201 = .ok (.getfield 10, 3) := by decide +kernel
theorem dX11_piece_204 : decode cX11_piece 204 = .ok (.getfield 112, 3) := by decide +kernel
theorem dX11_piece_207 : decode cX11_piece 207 = .ok (.istore 12, 2) := by decide +kernel
theorem dX11_piece_209 : decode cX11_piece 209 = .ok (.aload_n 0, 1) := by decide +kernel
theorem dX11_piece_21 : decode cX11_piece 21 = .ok (.iconst 1, 1) := by decide +kernel
theorem dX11_piece_210 : decode cX11_piece 210 = .ok (.getfield 10, 3) := by decide +kernel
theorem dX11_piece_213 : decode cX11_piece 213 = .ok (.getfield 145, 3) := by decide +kernel
theorem dX11_piece_216 : decode cX11_piece 216 = .ok (.iload 12, 2) := by decide +kernel
theorem dX11_piece_218 : decode cX11_piece 218 = .ok (.aload 11, 2) := by decide +kernel
theorem dX11_piece_22 : decode cX11_piece 22 = .ok (.sipush 400, 3) := by decide +kernel
theorem dX11_piece_220 : decode cX11_piece 220 = .ok (.aastore, 1) := by decide +kernel
theorem dX11_piece_221 : decode cX11_piece 221 = .ok (.aload_n 0, 1) := by decide +kernel
theorem dX11_piece_222 : decode cX11_piece 222 = .ok (.getfield 10, 3) := by decide +kernel
theorem dX11_piece_225 : decode cX11_piece 225 = .ok (.dup, 1) := by decide +kernel
theorem dX11_piece_226 : decode cX11_piece 226 = .ok (.getfield 112, 3) := by decide +kernel
theorem dX11_piece_229 : decode cX11_piece 229 = .ok (.iconst 1, 1) := by decide +kernel
theorem dX11_piece_230 : decode cX11_piece 230 = .ok (.iadd, 1) := by decide +kernel
theorem dX11_piece_231 : decode cX11_piece 231 = .ok (.putfield 112, 3) := by decide +kernel
theorem dX11_piece_234 : decode cX11_piece 234 = .ok (.aload_n 0, 1) := by decide +kernel
theorem dX11_piece_235 : decode cX11_piece 235 = .ok (.getfield 28, 3) := by decide +kernel
theorem dX11_piece_238 : decode cX11_piece 238 = .ok (.iload 12, 2) := by decide +kernel
theorem dX11_piece_240 : decode cX11_piece 240 = .ok (.aload 11, 2) := by decide +kernel
theorem dX11_piece_242 : decode cX11_piece 242 = .ok (.invokevirtual 149, 3) := by decide +kernel
theorem dX11_piece_245 : decode cX11_piece 245 = .ok (.invokevirtual 153, 3) := by decide +kernel
theorem dX11_piece_248 : decode cX11_piece 248 = .ok (.iload 12, 2) := by decide +kernel
theorem dX11_piece_25 : decode cX11_piece 25 = .ok (.invokestatic 68, 3) := by decide +kernel
theorem dX11_piece_250 : decode cX11_piece 250 = .ok (.ireturn, 1) := by decide +kernel
theorem dX11_piece_28 : decode cX11_piece 28 = .ok (.ifCond .eq 81, 3) := by decide +kernel
theorem dX11_piece_31 : decode cX11_piece 31 = .ok (.iload 4, 2) := by decide +kernel
theorem dX11_piece_33 : decode cX11_piece 33 = .ok (.iconst 0, 1) := by decide +kernel
theorem dX11_piece_34 : decode cX11_piece 34 = .ok (.iconst 3, 1) := by decide +kernel
theorem dX11_piece_35 : decode cX11_piece 35 = .ok (.invokestatic 68, 3) := by decide +kernel
theorem dX11_piece_38 : decode cX11_piece 38 = .ok (.ifCond .eq 71, 3) := by decide +kernel
theorem dX11_piece_4 : decode cX11_piece 4 = .ok (.invokestatic 68, 3) := by decide +kernel
theorem dX11_piece_41 : decode cX11_piece 41 = .ok (.iload 5, 2) := by decide +kernel
theorem dX11_piece_43 : decode cX11_piece 43 = .ok (.iconst 0, 1) := by decide +kernel
theorem dX11_piece_44 : decode cX11_piece 44 = .ok (.bipush 9, 2) := by decide +kernel
theorem dX11_piece_46 : decode cX11_piece 46 = .ok (.invokestatic 68, 3) := by decide +kernel
theorem dX11_piece_49 : decode cX11_piece 49 = .ok (.ifCond .eq 60, 3) := by decide +kernel
theorem dX11_piece_52 : decode cX11_piece 52 = .ok (.iload 6, 2) := by decide +kernel
theorem dX11_piece_54 : decode cX11_piece 54 = .ok (.aload_n 0, 1) := by decide +kernel
theorem dX11_piece_55 : decode cX11_piece 55 = .ok (.getfield 28, 3) := by decide +kernel
theorem dX11_piece_58 : decode cX11_piece 58 = .ok (.getfield 99, 3) := by decide +kernel
theorem dX11_piece_61 : decode cX11_piece 61 = .ok (.sipush 4800, 3) := by decide +kernel
theorem dX11_piece_64 : decode cX11_piece 64 = .ok (.invokestatic 68, 3) := by decide +kernel
theorem dX11_piece_67 : decode cX11_piece 67 = .ok (.ifCond .eq 42, 3) := by decide +kernel
theorem dX11_piece_7 : decode cX11_piece 7 = .ok (.ifCond .eq 102, 3) := by decide +kernel
theorem dX11_piece_70 : decode cX11_piece 70 = .ok (.iload 7, 2) := by decide +kernel
theorem dX11_piece_72 : decode cX11_piece 72 = .ok (.iload 6, 2) := by decide +kernel
theorem dX11_piece_74 : decode cX11_piece 74 = .ok (.sipush 4800, 3) := by decide +kernel
theorem dX11_piece_77 : decode cX11_piece 77 = .ok (.invokestatic 68, 3) := by decide +kernel
theorem dX11_piece_80 : decode cX11_piece 80 = .ok (.ifCond .eq 29, 3) := by decide +kernel
theorem dX11_piece_83 : decode cX11_piece 83 = .ok (.iload 8, 2) := by decide +kernel
theorem dX11_piece_85 : decode cX11_piece 85 = .ok (.iconst 0, 1) := by decide +kernel
theorem dX11_piece_86 : decode cX11_piece 86 = .ok (.ldc 78, 2) := by decide +kernel
theorem dX11_piece_88 : decode cX11_piece 88 = .ok (.invokestatic 68, 3) := by decide +kernel
theorem dX11_piece_91 : decode cX11_piece 91 = .ok (.ifCond .eq 18, 3) := by decide +kernel
theorem dX11_piece_94 : decode cX11_piece 94 = .ok (.iload 9, 2) := by decide +kernel
theorem dX11_piece_96 : decode cX11_piece 96 = .ok (.iconst 0, 1) := by decide +kernel
theorem dX11_piece_97 : decode cX11_piece 97 = .ok (.bipush 6, 2) := by decide +kernel
theorem dX11_piece_99 : decode cX11_piece 99 = .ok (.invokestatic 68, 3) := by decide +kernel
theorem dX11_slips_0 : decode cX11_slips 0 = .ok (.aload_n 0, 1) := by decide +kernel
theorem dX11_slips_1 : decode cX11_slips 1 = .ok (.getfield 10, 3) := by decide +kernel
theorem dX11_slips_11 : decode cX11_slips 11 = .ok (.iload_n 2, 1) := by decide +kernel
theorem dX11_slips_12 : decode cX11_slips 12 = .ok (.iconst 0, 1) := by decide +kernel
theorem dX11_slips_13 : decode cX11_slips 13 = .ok (.iconst 1, 1) := by decide +kernel
theorem dX11_slips_14 : decode cX11_slips 14 = .ok (.invokestatic 68, 3) := by decide +kernel
theorem dX11_slips_17 : decode cX11_slips 17 = .ok (.ifCond .eq 13, 3) := by decide +kernel
theorem dX11_slips_20 : decode cX11_slips 20 = .ok (.iload_n 3, 1) := by decide +kernel
theorem dX11_slips_21 : decode cX11_slips 21 = .ok (.iconst 0, 1) := by decide +kernel
theorem dX11_slips_22 : decode cX11_slips 22 = .ok (.ldc 78, 2) := by decide +kernel
theorem dX11_slips_24 : decode cX11_slips 24 = .ok (.invokestatic 68, 3) := by decide +kernel
theorem dX11_slips_27 : decode cX11_slips 27 = .ok (.ifCond .ne 5, 3) := by decide +kernel
theorem dX11_slips_30 : decode cX11_slips 30 = .ok (.iconst 0, 1) := by decide +kernel
theorem dX11_slips_31 : decode cX11_slips 31 = .ok (.ireturn, 1) := by decide +kernel
theorem dX11_slips_32 : decode cX11_slips 32 = .ok (.iload_n 2, 1) := by decide +kernel
theorem dX11_slips_33 : decode cX11_slips 33 = .ok (.ifCond .ne 19, 3) := by decide +kernel
theorem dX11_slips_36 : decode cX11_slips 36 = .ok (.aload_n 0, 1) := by decide +kernel
theorem dX11_slips_37 : decode cX11_slips 37 = .ok (.getfield 10, 3) := by decide +kernel
theorem dX11_slips_4 : decode cX11_slips 4 = .ok (.iload_n 1, 1) := by decide +kernel
theorem dX11_slips_40 : decode cX11_slips 40 = .ok (.getfield 145, 3) := by decide +kernel
theorem dX11_slips_43 : decode cX11_slips 43 = .ok (.iload_n 1, 1) := by decide +kernel
theorem dX11_slips_44 : decode cX11_slips 44 = .ok (.aaload, 1) := by decide +kernel
theorem dX11_slips_45 : decode cX11_slips 45 = .ok (.iload_n 3, 1) := by decide +kernel
theorem dX11_slips_46 : decode cX11_slips 46 = .ok (.putfield 283, 3) := by decide +kernel
theorem dX11_slips_49 : decode cX11_slips 49 = .ok (.goto 16, 3) := by decide +kernel
theorem dX11_slips_5 : decode cX11_slips 5 = .ok (.invokevirtual 201, 3) := by decide +kernel
theorem dX11_slips_52 : decode cX11_slips 52 = .ok (.aload_n 0, 1) := by decide +kernel
theorem dX11_slips_53 : decode cX11_slips 53 = .ok (.getfield 10, 3) := by decide +kernel
theorem dX11_slips_56 : decode cX11_slips 56 = .ok (.getfield 145, 3) := by decide +kernel
theorem dX11_slips_59 : decode cX11_slips 59 = .ok (.iload_n 1, 1) := by decide +kernel
theorem dX11_slips_60 : decode cX11_slips 60 = .ok (.aaload, 1) := by decide +kernel
theorem dX11_slips_61 : decode cX11_slips 61 = .ok (.iload_n 3, 1) := by decide +kernel
theorem dX11_slips_62 : decode cX11_slips 62 = .ok (.putfield 286, 3) := by decide +kernel
theorem dX11_slips_65 : decode cX11_slips 65 = .ok (.iconst 1, 1) := by decide +kernel
theorem dX11_slips_66 : decode cX11_slips 66 = .ok (.ireturn, 1) := by decide +kernel
theorem dX11_slips_8 : decode cX11_slips 8 = .ok (.ifCond .eq 22, 3) := by decide +kernel
theorem dX11_step_0 : decode cX11_step 0 = .ok (.aload_n 0, 1) := by decide +kernel
theorem dX11_step_1 : decode cX11_step 1 = .ok (.iload_n 1, 1) := by decide +kernel
theorem dX11_step_10 : decode cX11_step 10 = .ok (.ireturn, 1) := by decide +kernel
theorem dX11_step_11 : decode cX11_step 11 = .ok (.aload_n 0, 1) := by decide +kernel
theorem dX11_step_12 : decode cX11_step 12 = .ok (.getfield 28, 3) := by decide +kernel
theorem dX11_step_15 : decode cX11_step 15 = .ok (.iload_n 1, 1) := by decide +kernel
theorem dX11_step_16 : decode cX11_step 16 = .ok (.aconst_null, 1) := by decide +kernel
theorem dX11_step_17 : decode cX11_step 17 = .ok (.iconst (-1), 1) := by decide +kernel
theorem dX11_step_18 : decode cX11_step 18 = .ok (.invokevirtual 167, 3) := by decide +kernel
theorem dX11_step_2 : decode cX11_step 2 = .ok (.iconst 0, 1) := by decide +kernel
theorem dX11_step_21 : decode cX11_step 21 = .ok (.aload_n 0, 1) := by decide +kernel
theorem dX11_step_22 : decode cX11_step 22 = .ok (.getfield 28, 3) := by decide +kernel
theorem dX11_step_25 : decode cX11_step 25 = .ok (.getfield 99, 3) := by decide +kernel
theorem dX11_step_28 : decode cX11_step 28 = .ok (.ireturn, 1) := by decide +kernel
theorem dX11_step_3 : decode cX11_step 3 = .ok (.invokevirtual 163, 3) := by decide +kernel
theorem dX11_step_6 : decode cX11_step 6 = .ok (.ifCond .ne 5, 3) := by decide +kernel
theorem dX11_step_9 : decode cX11_step 9 = .ok (.iconst (-1), 1) := by decide +kernel
def wo_c_canGoOnF : List Cond := [.methodLink RX11 68 yX11_within, .static yX11_within, .initialized RX11, .fieldLink RX11 28 "TypingPool" "floor" "LTypingPool$Floor;", .fieldLink RX11 99 "TypingPool$Floor" "now" "I"]
def wm_c_canGoOnF : List Cond := .code yX11_canGoOn cX11_canGoOn 3 (some .boolean) :: (wo_c_canGoOnF ++ (wm_c_within ++ (wsX110 ++ (wsX30 ++ ([] : List Cond)))))
theorem gd_c_canGoOnF : ∀ w ∈ wm_c_canGoOnF, goodWord w = true := gd_c rfl (gd_a (by decide) (gd_a gd_c_within (gd_a gd_wsX110 (gd_a gd_wsX30 gd_nil))))
set_option maxRecDepth 20000 in
theorem im_c_canGoOnF : ∀ w ∈ wm_c_canGoOnF, w ∈ lw_tbl := im_c (in_r [.code yX11_canGoOn cX11_canGoOn 3 (some .boolean)] [750] (by decide +kernel)) (in_app (in_r wo_c_canGoOnF [594, 595, 70, 561, 429] (by decide +kernel)) (in_app im_c_within (in_app im_wsX110 (in_app im_wsX30 im_nil))))
set_option maxHeartbeats 4000000 in
set_option maxRecDepth 100000 in
theorem c_canGoOnF (l : Launch) (dC : Nat → ClassId) (dI : Nat → Nat → Nat) (ad av : Nat → Nat) (sz : Nat) (a : Nat → Nat) (k : Nat → ClassId) (τ ln : Nat → Nat) (y : Nat → Nat → Int32) (g : Nat → Nat → Option Nat) (u : Nat → Int) (p0 : Int32) (p1 : Int32) (hI : IC a u τ ln y g) (hn0 : 0 ≤ (y (a 3) 2).toInt) (hn1 : (y (a 3) 2).toInt ≤ 4800) (hl1 : 0 ≤ p1.toInt) : Met l yX11_canGoOn wm_c_canGoOnF ({ frames := 1, cells := 0, slots := 0, locals := 60 }) (pw_ ad av (dC, dI) sz [.ref (a 0), .int p0, .int p1] a k τ ln y g) (va_Qi (fun (r u : Int32) => u = r) (fun (r : Int32) (t : State) => (r = 1 ∧ p1.toInt ≤ p0.toInt ∧ p0.toInt ≤ 960 ∧ (y (a 3) 2).toInt + p0.toInt ≤ 4800 ∧ tw (dC, dI) a k τ ln y g t.heap) ∨ (r = 0 ∧ (p0.toInt < p1.toInt ∨ 960 < p0.toInt ∨ 4800 < (y (a 3) 2).toInt + p0.toInt) ∧ tw (dC, dI) a k τ ln y g t.heap)) (fr τ sz)) 0 0 (fr τ sz) := by
  refine Met.ofW (cc := cX11_canGoOn) (maxL := 3) (ret := (some .boolean)) (by decide) rfl ?_
  intro p e s m args below meth c s₁ B hml hv
  obtain ⟨rfl, hsz, hT, hK, hM⟩ := hv
  have hx := B.exec
  have hb := B.bytes
  have hr := B.returns
  have hts := atoms_spec (ws := wm_c_canGoOnF) B.pre
  have hown : s.vm.findClass RX11 = some m.cls := findClass_of_methodNamed B.named
  have hlocks := B.notSynchronized
  subst hsz
  generalize hAe : fr τ s.heap.size = A at hM ⊢
  have hA : ∀ q : Nat, s.heap.size ≤ q → A q := fun q h => by rw [← hAe]; exact Or.inr h
  have hF : ∀ q, τ q ≠ 0 → A q := fun q h => by rw [← hAe]; exact Or.inl h
  have hS : va_S A s.heap s.heap [] := va_S.rf
  have hX := hI.1
  have hR := ic_r hI
  have hl := lv_entry ([.ref (a 0), .int p0, .int p1]) (n := 3) (Nat.le_of_ble_eq_true rfl)
  rw [lg_entry_eq]
  generalize (lg_sl ([.ref (a 0), .int p0, .int p1]) ++ List.replicate (3 - (lg_sl ([.ref (a 0), .int p0, .int p1])).length) Slot.unset).toArray = ls at hl ⊢
  have hl : lv_has ls 3 [(0, .ref (a 0)), (1, .int p0), (2, .int p1)] := hl
  refine lv_iload_n hx hb dX11_canGoOn_0 rfl (lv_at hl 1 rfl) ?_
  refine lv_iload_n hx hb dX11_canGoOn_1 rfl (lv_at hl 2 rfl) ?_
  refine lv_sipush (v := 960) hx hb dX11_canGoOn_2 (by decide) ?_
  have hFc := tw_free hF hS hA
  have hp_1 : (960 : Int32).toInt = 960 := (zk (x := 960) 960 rfl)
  refine va_calli (va_runS (As := [.int p0, .int p1, .int 960]) (rest := []) ⟨hx, hb, hml, hown, hts⟩ (c_within l dC dI ad av s.heap.size a k τ ln y g u p0 p1 (960 : Int32)  ) (va_cwS 3 hts (gi_3 (List.mem_cons_of_mem _ (List.mem_append_left _ (List.mem_of_getElem? (i := 0) rfl))) (List.mem_cons_of_mem _ (List.mem_append_left _ (List.mem_of_getElem? (i := 1) rfl))) (List.mem_cons_of_mem _ (List.mem_append_left _ (List.mem_of_getElem? (i := 2) rfl))) (fun _ hh => (List.mem_cons_of_mem _ (List.mem_append_right _ (List.mem_append_left _ hh)))) gd_c_within) rfl rfl rfl (by decide +kernel) ⟨Nat.le_of_ble_eq_true rfl, Nat.le_of_ble_eq_true rfl⟩) ⟨pw_blind, pw_use hT hK hFc hS hM⟩ rfl rfl hl.1 rfl (lv_room (Nat.le_of_ble_eq_true rfl)) dX11_canGoOn_5 ⟨Nat.le_of_ble_eq_true rfl, Nat.le_of_ble_eq_true rfl⟩) hS (fun q _ h => hFc q h) hFc (fun r0 r_2 t H locs ht hvm hw hB hz1 hk1 hS => ?_)
  refine W.widen (k := 0) (n := 0) (Nat.le_of_ble_eq_true rfl) (Nat.le_of_ble_eq_true rfl) ?_
  clear hvm hz1 hk1
  subst hw
  rcases hB with ⟨hre, hf_3, hf_4, hT⟩ | ⟨hre, hf_5, hT⟩
  · refine lq_top (v := 1) hre ?_
    rw [ht] at hT
    try simp only [hp_1] at hf_3 hf_4
    clear hp_1
    refine lv_if_eq (tgt := 30) hx hb dX11_canGoOn_8 (by decide) (fun c_6 => absurd c_6 (by decide)) (fun c_6 => ?_)
    refine lv_aload_n hx hb dX11_canGoOn_11 rfl (lv_at hl 0 rfl) ?_
    refine tw_get (D := (dC, dI)) (v := .ref (a 3)) (C := RX11) (T := TX11) (N := 10) hx hb hts (fun _ hh => (List.mem_cons_of_mem _ (List.mem_append_right _ (List.mem_append_right _ (List.mem_append_left _ hh))))) hown hK hT (fx_0 hX) (by decide) cl_e10 rfl 2 (by decide) (hts (.fieldLink RX11 28 "TypingPool" "floor" "LTypingPool$Floor;") (List.mem_cons_of_mem _ (List.mem_append_left _ (List.mem_of_getElem? (i := 3) rfl)))) (fun _ h9 => h9) rfl dX11_canGoOn_12 ?_
    refine tw_get (D := (dC, dI)) (v := .int (y (a 3) 2)) (C := RX3) (T := TX3) (N := 12) hx hb hts (fun _ hh => (List.mem_cons_of_mem _ (List.mem_append_right _ (List.mem_append_right _ (List.mem_append_right _ (List.mem_append_left _ hh)))))) hown hK hT (fx_3 hX) (by decide) cl_e13 rfl 2 (by decide) (hts (.fieldLink RX11 99 "TypingPool$Floor" "now" "I") (List.mem_cons_of_mem _ (List.mem_append_left _ (List.mem_of_getElem? (i := 4) rfl)))) (fun _ h9 => h9) rfl dX11_canGoOn_15 ?_
    refine lv_iload_n hx hb dX11_canGoOn_18 rfl (lv_at hl 1 rfl) ?_
    refine lv_iadd hx hb dX11_canGoOn_19 ?_
    refine lv_topi (fun x_7 ex_7 => ?_)
    have hx_7 := z_add ex_7 rfl rfl (by omega) (by omega)
    refine lv_sipush (v := 4800) hx hb dX11_canGoOn_20 (by decide) ?_
    refine lv_icmp_gt (tgt := 30) hx hb dX11_canGoOn_23 (by decide) (fun c_8 => ?_) (fun c_8 => ?_)
    · have nc_8 := z_lt (zk (x := 4800) 4800 rfl) rfl c_8
      refine lv_iconst (v := 0) hx hb dX11_canGoOn_30 (by decide) ?_
      have hrv : (0 : Int32).toInt = 0 := (zk (x := 0) 0 rfl)
      exact W.zret (v := 0) hx hb hr (by decide) (fun t ht hW9 => ⟨⟨0, 0, rfl, rfl, Or.inr (⟨rfl, by omega, tw_at ht hT⟩)⟩, hS.F ht⟩) hS.2.2 dX11_canGoOn_31
    · have nc_8 := z_nlt (zk (x := 4800) 4800 rfl) rfl c_8
      refine lv_iconst (v := 1) hx hb dX11_canGoOn_26 (by decide) ?_
      refine lv_goto (tgt := 31) hx hb dX11_canGoOn_27 (by decide) ?_
      have hrv : (1 : Int32).toInt = 1 := (zk (x := 1) 1 rfl)
      exact W.zret (v := 1) hx hb hr (by decide) (fun t ht hW9 => ⟨⟨1, 1, rfl, rfl, Or.inl ⟨rfl, by omega, by omega, by omega, tw_at ht hT⟩⟩, hS.F ht⟩) hS.2.2 dX11_canGoOn_31
  · refine lq_top (v := 0) hre ?_
    rw [ht] at hT
    try simp only [hp_1] at hf_5
    clear hp_1
    refine lv_if_eq (tgt := 30) hx hb dX11_canGoOn_8 (by decide) (fun c_9 => ?_) (fun c_9 => absurd c_9 (by decide))
    refine lv_iconst (v := 0) hx hb dX11_canGoOn_30 (by decide) ?_
    have hrv : (0 : Int32).toInt = 0 := (zk (x := 0) 0 rfl)
    exact W.zret (v := 0) hx hb hr (by decide) (fun t ht hW9 => ⟨⟨0, 0, rfl, rfl, Or.inr (⟨rfl, by omega, tw_at ht hT⟩)⟩, hS.F ht⟩) hS.2.2 dX11_canGoOn_31
def wo_c_openHandF : List Cond := [.fieldLink RX3 15 "TypingPool$Floor" "has" "[I", .fieldLink RX3 19 "TypingPool$Floor" "rate" "[I", .fieldLink RX3 22 "TypingPool$Floor" "words" "[I", .fieldLink RX3 25 "TypingPool$Floor" "worked" "[I"]
def wm_c_openHandF : List Cond := .code yX3_openHand cX3_openHand 3 none :: (wo_c_openHandF ++ (wsX30 ++ ([] : List Cond)))
theorem gd_c_openHandF : ∀ w ∈ wm_c_openHandF, goodWord w = true := gd_c rfl (gd_a (by decide) (gd_a gd_wsX30 gd_nil))
set_option maxRecDepth 20000 in
theorem im_c_openHandF : ∀ w ∈ wm_c_openHandF, w ∈ lw_tbl := im_c (in_r [.code yX3_openHand cX3_openHand 3 none] [624] (by decide +kernel)) (in_app (in_r wo_c_openHandF [431, 434, 437, 440] (by decide +kernel)) (in_app im_wsX30 im_nil))
set_option maxHeartbeats 4000000 in
set_option maxRecDepth 100000 in
theorem c_openHandF (l : Launch) (dC : Nat → ClassId) (dI : Nat → Nat → Nat) (ad av : Nat → Nat) (sz : Nat) (a : Nat → Nat) (k : Nat → ClassId) (τ ln : Nat → Nat) (y : Nat → Nat → Int32) (g : Nat → Nat → Option Nat) (u : Nat → Int) (p0 : Int32) (p1 : Int32) (hI : IC a u τ ln y g) (hlp0 : 0 ≤ p0.toInt) (hup0 : p0.toInt < 8) : Met l yX3_openHand wm_c_openHandF ({ frames := 0, cells := 0, slots := 0, locals := 0 }) (pw_ ad av (dC, dI) sz [.ref (a 3), .int p0, .int p1] a k τ ln y g) (va_Qv (fun (_ : Unit) => True) (fun (_ : Unit) (t : State) => (∃ (y' : Nat → Nat → Int32), ag τ [30, 31, 32, 33] y y' ∧ y' (a 20) = upd (y (a 20)) p0.toNatClampNeg (-1) ∧ y' (a 21) = upd (y (a 21)) p0.toNatClampNeg (-1) ∧ tw (dC, dI) a k τ ln y' g t.heap)) (fr τ sz)) 0 0 (fr τ sz) := by
  refine Met.ofW (cc := cX3_openHand) (maxL := 3) (ret := none) (by decide) rfl ?_
  intro p e s m args below meth c s₁ B hml hv
  obtain ⟨rfl, hsz, hT, hK, hM⟩ := hv
  have hx := B.exec
  have hb := B.bytes
  have hr := B.returns
  have hts := atoms_spec (ws := wm_c_openHandF) B.pre
  have hown : s.vm.findClass RX3 = some m.cls := findClass_of_methodNamed B.named
  have hlocks := B.notSynchronized
  subst hsz
  generalize hAe : fr τ s.heap.size = A at hM ⊢
  have hA : ∀ q : Nat, s.heap.size ≤ q → A q := fun q h => by rw [← hAe]; exact Or.inr h
  have hF : ∀ q, τ q ≠ 0 → A q := fun q h => by rw [← hAe]; exact Or.inl h
  have hS : va_S A s.heap s.heap [] := va_S.rf
  have hX := hI.1
  have hR := ic_r hI
  have hG : ag τ [30, 31, 32, 33] y y := ag.rf
  have hl := lv_entry ([.ref (a 3), .int p0, .int p1]) (n := 3) (Nat.le_of_ble_eq_true rfl)
  rw [lg_entry_eq]
  generalize (lg_sl ([.ref (a 3), .int p0, .int p1]) ++ List.replicate (3 - (lg_sl ([.ref (a 3), .int p0, .int p1])).length) Slot.unset).toArray = ls at hl ⊢
  have hl : lv_has ls 3 [(0, .ref (a 3)), (1, .int p0), (2, .int p1)] := hl
  refine lv_aload_n hx hb dX3_openHand_0 rfl (lv_at hl 0 rfl) ?_
  refine tw_get (D := (dC, dI)) (v := .ref (a 20)) (C := RX3) (T := TX3) (N := 12) hx hb hts (fun _ hh => (List.mem_cons_of_mem _ (List.mem_append_right _ (List.mem_append_left _ hh)))) hown hK hT (fx_3 hX) (by decide) cl_e13 rfl 3 (by decide) (hts (.fieldLink RX3 15 "TypingPool$Floor" "has" "[I") (List.mem_cons_of_mem _ (List.mem_append_left _ (List.mem_of_getElem? (i := 0) rfl)))) (fun _ h9 => h9) rfl dX3_openHand_1 ?_
  refine lv_iload_n hx hb dX3_openHand_4 rfl (lv_at hl 1 rfl) ?_
  refine lv_iconst (v := (-1)) hx hb dX3_openHand_5 (by decide) ?_
  refine tw_iast hx hb hK hT hF hS 0 (fx_20 hX) (by decide) (fun _ => cl_e30) rfl (z_in rfl (by omega) (by omega)) dX3_openHand_6 (fun H locs hT hS => ?_)
  obtain ⟨y_1, hy_1, hT⟩ : ∃ z : Nat → Nat → Int32, z = up2 y (a 20) p0.toNatClampNeg (-1 : Int32) ∧ tw (dC, dI) a k τ ln z g H := ⟨_, rfl, hT⟩
  have hG : ag τ [30, 31, 32, 33] y y_1 := by rw [hy_1]; exact hG.up (fx_20 hX) (by decide)
  have hI := hI.ag (S := [30]) (y' := y_1) (by rw [hy_1]; exact ag.one (fx_20 hX)) (by decide)
  refine lv_aload_n hx hb dX3_openHand_7 rfl (lv_at hl 0 rfl) ?_
  refine tw_get (D := (dC, dI)) (v := .ref (a 21)) (C := RX3) (T := TX3) (N := 12) hx hb hts (fun _ hh => (List.mem_cons_of_mem _ (List.mem_append_right _ (List.mem_append_left _ hh)))) hown hK hT (fx_3 hX) (by decide) cl_e13 rfl 4 (by decide) (hts (.fieldLink RX3 19 "TypingPool$Floor" "rate" "[I") (List.mem_cons_of_mem _ (List.mem_append_left _ (List.mem_of_getElem? (i := 1) rfl)))) (fun _ h9 => h9) rfl dX3_openHand_8 ?_
  refine lv_iload_n hx hb dX3_openHand_11 rfl (lv_at hl 1 rfl) ?_
  refine lv_iconst (v := (-1)) hx hb dX3_openHand_12 (by decide) ?_
  refine tw_iast hx hb hK hT hF hS 0 (fx_21 hX) (by decide) (fun _ => cl_e31) rfl (z_in rfl (by omega) (by omega)) dX3_openHand_13 (fun H locs hT hS => ?_)
  obtain ⟨y_2, hy_2, hT⟩ : ∃ z : Nat → Nat → Int32, z = up2 y_1 (a 21) p0.toNatClampNeg (-1 : Int32) ∧ tw (dC, dI) a k τ ln z g H := ⟨_, rfl, hT⟩
  have hG : ag τ [30, 31, 32, 33] y y_2 := by rw [hy_2]; exact hG.up (fx_21 hX) (by decide)
  have hI := hI.ag (S := [31]) (y' := y_2) (by rw [hy_2]; exact ag.one (fx_21 hX)) (by decide)
  refine lv_aload_n hx hb dX3_openHand_14 rfl (lv_at hl 0 rfl) ?_
  refine tw_get (D := (dC, dI)) (v := .ref (a 22)) (C := RX3) (T := TX3) (N := 12) hx hb hts (fun _ hh => (List.mem_cons_of_mem _ (List.mem_append_right _ (List.mem_append_left _ hh)))) hown hK hT (fx_3 hX) (by decide) cl_e13 rfl 5 (by decide) (hts (.fieldLink RX3 22 "TypingPool$Floor" "words" "[I") (List.mem_cons_of_mem _ (List.mem_append_left _ (List.mem_of_getElem? (i := 2) rfl)))) (fun _ h9 => h9) rfl dX3_openHand_15 ?_
  refine lv_iload_n hx hb dX3_openHand_18 rfl (lv_at hl 1 rfl) ?_
  refine lv_iload_n hx hb dX3_openHand_19 rfl (lv_at hl 2 rfl) ?_
  refine tw_iast hx hb hK hT hF hS 0 (fx_22 hX) (by decide) (fun _ => cl_e32) rfl (z_in rfl (by omega) (by omega)) dX3_openHand_20 (fun H locs hT hS => ?_)
  obtain ⟨y_3, hy_3, hT⟩ : ∃ z : Nat → Nat → Int32, z = up2 y_2 (a 22) p0.toNatClampNeg p1 ∧ tw (dC, dI) a k τ ln z g H := ⟨_, rfl, hT⟩
  have hG : ag τ [30, 31, 32, 33] y y_3 := by rw [hy_3]; exact hG.up (fx_22 hX) (by decide)
  have hI := hI.ag (S := [32]) (y' := y_3) (by rw [hy_3]; exact ag.one (fx_22 hX)) (by decide)
  refine lv_aload_n hx hb dX3_openHand_21 rfl (lv_at hl 0 rfl) ?_
  refine tw_get (D := (dC, dI)) (v := .ref (a 23)) (C := RX3) (T := TX3) (N := 12) hx hb hts (fun _ hh => (List.mem_cons_of_mem _ (List.mem_append_right _ (List.mem_append_left _ hh)))) hown hK hT (fx_3 hX) (by decide) cl_e13 rfl 6 (by decide) (hts (.fieldLink RX3 25 "TypingPool$Floor" "worked" "[I") (List.mem_cons_of_mem _ (List.mem_append_left _ (List.mem_of_getElem? (i := 3) rfl)))) (fun _ h9 => h9) rfl dX3_openHand_22 ?_
  refine lv_iload_n hx hb dX3_openHand_25 rfl (lv_at hl 1 rfl) ?_
  refine lv_iconst (v := 0) hx hb dX3_openHand_26 (by decide) ?_
  refine tw_iast hx hb hK hT hF hS 0 (fx_23 hX) (by decide) (fun _ => cl_e33) rfl (z_in rfl (by omega) (by omega)) dX3_openHand_27 (fun H locs hT hS => ?_)
  obtain ⟨y_4, hy_4, hT⟩ : ∃ z : Nat → Nat → Int32, z = up2 y_3 (a 23) p0.toNatClampNeg (0 : Int32) ∧ tw (dC, dI) a k τ ln z g H := ⟨_, rfl, hT⟩
  have hG : ag τ [30, 31, 32, 33] y y_4 := by rw [hy_4]; exact hG.up (fx_23 hX) (by decide)
  have hI := hI.ag (S := [33]) (y' := y_4) (by rw [hy_4]; exact ag.one (fx_23 hX)) (by decide)
  exact W.vret hx hb hr (fun t ht hW9 => ⟨⟨(), rfl, trivial, ⟨y_4, hG, (by rw [hy_4, up2_o (kd_ne (fx_20 hX) (fx_23 hX) (by decide)), hy_3, up2_o (kd_ne (fx_20 hX) (fx_22 hX) (by decide)), hy_2, up2_o (kd_ne (fx_20 hX) (fx_21 hX) (by decide)), hy_1, up2_q]), (by rw [hy_4, up2_o (kd_ne (fx_21 hX) (fx_23 hX) (by decide)), hy_3, up2_o (kd_ne (fx_21 hX) (fx_22 hX) (by decide)), hy_2, up2_q, hy_1, up2_o (kd_ne (fx_21 hX) (fx_20 hX) (by decide))]), tw_at ht hT⟩⟩, hS.F ht⟩) hS.2.2 dX3_openHand_28
def wo_c_openPieceF : List Cond := [.fieldLink RX3 28 "TypingPool$Floor" "by" "[I", .fieldLink RX3 31 "TypingPool$Floor" "taken" "[I", .fieldLink RX3 34 "TypingPool$Floor" "done" "[I", .fieldLink RX3 37 "TypingPool$Floor" "workLeft" "[I", .fieldLink RX3 40 "TypingPool$Floor" "knew" "[I"]
def wm_c_openPieceF : List Cond := .code yX3_openPiece cX3_openPiece 3 none :: (wo_c_openPieceF ++ (wsX30 ++ ([] : List Cond)))
theorem gd_c_openPieceF : ∀ w ∈ wm_c_openPieceF, goodWord w = true := gd_c rfl (gd_a (by decide) (gd_a gd_wsX30 gd_nil))
set_option maxRecDepth 20000 in
theorem im_c_openPieceF : ∀ w ∈ wm_c_openPieceF, w ∈ lw_tbl := im_c (in_r [.code yX3_openPiece cX3_openPiece 3 none] [726] (by decide +kernel)) (in_app (in_r wo_c_openPieceF [442, 444, 446, 449, 452] (by decide +kernel)) (in_app im_wsX30 im_nil))
set_option maxHeartbeats 4000000 in
set_option maxRecDepth 100000 in
theorem c_openPieceF (l : Launch) (dC : Nat → ClassId) (dI : Nat → Nat → Nat) (ad av : Nat → Nat) (sz : Nat) (a : Nat → Nat) (k : Nat → ClassId) (τ ln : Nat → Nat) (y : Nat → Nat → Int32) (g : Nat → Nat → Option Nat) (u : Nat → Int) (p0 : Int32) (p1 : Int32) (hI : IC a u τ ln y g) (hlp0 : 0 ≤ p0.toInt) (hup0 : p0.toInt < 30) : Met l yX3_openPiece wm_c_openPieceF ({ frames := 0, cells := 0, slots := 0, locals := 0 }) (pw_ ad av (dC, dI) sz [.ref (a 3), .int p0, .int p1] a k τ ln y g) (va_Qv (fun (_ : Unit) => True) (fun (_ : Unit) (t : State) => (∃ (y' : Nat → Nat → Int32), ag τ [34, 35, 36, 37, 38] y y' ∧ y' (a 24) = upd (y (a 24)) p0.toNatClampNeg (-1) ∧ y' (a 25) = upd (y (a 25)) p0.toNatClampNeg (-1) ∧ y' (a 27) = upd (y (a 27)) p0.toNatClampNeg p1 ∧ tw (dC, dI) a k τ ln y' g t.heap)) (fr τ sz)) 0 0 (fr τ sz) := by
  refine Met.ofW (cc := cX3_openPiece) (maxL := 3) (ret := none) (by decide) rfl ?_
  intro p e s m args below meth c s₁ B hml hv
  obtain ⟨rfl, hsz, hT, hK, hM⟩ := hv
  have hx := B.exec
  have hb := B.bytes
  have hr := B.returns
  have hts := atoms_spec (ws := wm_c_openPieceF) B.pre
  have hown : s.vm.findClass RX3 = some m.cls := findClass_of_methodNamed B.named
  have hlocks := B.notSynchronized
  subst hsz
  generalize hAe : fr τ s.heap.size = A at hM ⊢
  have hA : ∀ q : Nat, s.heap.size ≤ q → A q := fun q h => by rw [← hAe]; exact Or.inr h
  have hF : ∀ q, τ q ≠ 0 → A q := fun q h => by rw [← hAe]; exact Or.inl h
  have hS : va_S A s.heap s.heap [] := va_S.rf
  have hX := hI.1
  have hR := ic_r hI
  have hG : ag τ [34, 35, 36, 37, 38] y y := ag.rf
  have hl := lv_entry ([.ref (a 3), .int p0, .int p1]) (n := 3) (Nat.le_of_ble_eq_true rfl)
  rw [lg_entry_eq]
  generalize (lg_sl ([.ref (a 3), .int p0, .int p1]) ++ List.replicate (3 - (lg_sl ([.ref (a 3), .int p0, .int p1])).length) Slot.unset).toArray = ls at hl ⊢
  have hl : lv_has ls 3 [(0, .ref (a 3)), (1, .int p0), (2, .int p1)] := hl
  refine lv_aload_n hx hb dX3_openPiece_0 rfl (lv_at hl 0 rfl) ?_
  refine tw_get (D := (dC, dI)) (v := .ref (a 24)) (C := RX3) (T := TX3) (N := 12) hx hb hts (fun _ hh => (List.mem_cons_of_mem _ (List.mem_append_right _ (List.mem_append_left _ hh)))) hown hK hT (fx_3 hX) (by decide) cl_e13 rfl 7 (by decide) (hts (.fieldLink RX3 28 "TypingPool$Floor" "by" "[I") (List.mem_cons_of_mem _ (List.mem_append_left _ (List.mem_of_getElem? (i := 0) rfl)))) (fun _ h9 => h9) rfl dX3_openPiece_1 ?_
  refine lv_iload_n hx hb dX3_openPiece_4 rfl (lv_at hl 1 rfl) ?_
  refine lv_iconst (v := (-1)) hx hb dX3_openPiece_5 (by decide) ?_
  refine tw_iast hx hb hK hT hF hS 0 (fx_24 hX) (by decide) (fun _ => cl_e34) rfl (z_in rfl (by omega) (by omega)) dX3_openPiece_6 (fun H locs hT hS => ?_)
  obtain ⟨y_1, hy_1, hT⟩ : ∃ z : Nat → Nat → Int32, z = up2 y (a 24) p0.toNatClampNeg (-1 : Int32) ∧ tw (dC, dI) a k τ ln z g H := ⟨_, rfl, hT⟩
  have hG : ag τ [34, 35, 36, 37, 38] y y_1 := by rw [hy_1]; exact hG.up (fx_24 hX) (by decide)
  have hI := hI.ag (S := [34]) (y' := y_1) (by rw [hy_1]; exact ag.one (fx_24 hX)) (by decide)
  refine lv_aload_n hx hb dX3_openPiece_7 rfl (lv_at hl 0 rfl) ?_
  refine tw_get (D := (dC, dI)) (v := .ref (a 25)) (C := RX3) (T := TX3) (N := 12) hx hb hts (fun _ hh => (List.mem_cons_of_mem _ (List.mem_append_right _ (List.mem_append_left _ hh)))) hown hK hT (fx_3 hX) (by decide) cl_e13 rfl 8 (by decide) (hts (.fieldLink RX3 31 "TypingPool$Floor" "taken" "[I") (List.mem_cons_of_mem _ (List.mem_append_left _ (List.mem_of_getElem? (i := 1) rfl)))) (fun _ h9 => h9) rfl dX3_openPiece_8 ?_
  refine lv_iload_n hx hb dX3_openPiece_11 rfl (lv_at hl 1 rfl) ?_
  refine lv_iconst (v := (-1)) hx hb dX3_openPiece_12 (by decide) ?_
  refine tw_iast hx hb hK hT hF hS 0 (fx_25 hX) (by decide) (fun _ => cl_e35) rfl (z_in rfl (by omega) (by omega)) dX3_openPiece_13 (fun H locs hT hS => ?_)
  obtain ⟨y_2, hy_2, hT⟩ : ∃ z : Nat → Nat → Int32, z = up2 y_1 (a 25) p0.toNatClampNeg (-1 : Int32) ∧ tw (dC, dI) a k τ ln z g H := ⟨_, rfl, hT⟩
  have hG : ag τ [34, 35, 36, 37, 38] y y_2 := by rw [hy_2]; exact hG.up (fx_25 hX) (by decide)
  have hI := hI.ag (S := [35]) (y' := y_2) (by rw [hy_2]; exact ag.one (fx_25 hX)) (by decide)
  refine lv_aload_n hx hb dX3_openPiece_14 rfl (lv_at hl 0 rfl) ?_
  refine tw_get (D := (dC, dI)) (v := .ref (a 26)) (C := RX3) (T := TX3) (N := 12) hx hb hts (fun _ hh => (List.mem_cons_of_mem _ (List.mem_append_right _ (List.mem_append_left _ hh)))) hown hK hT (fx_3 hX) (by decide) cl_e13 rfl 9 (by decide) (hts (.fieldLink RX3 34 "TypingPool$Floor" "done" "[I") (List.mem_cons_of_mem _ (List.mem_append_left _ (List.mem_of_getElem? (i := 2) rfl)))) (fun _ h9 => h9) rfl dX3_openPiece_15 ?_
  refine lv_iload_n hx hb dX3_openPiece_18 rfl (lv_at hl 1 rfl) ?_
  refine lv_iconst (v := (-1)) hx hb dX3_openPiece_19 (by decide) ?_
  refine tw_iast hx hb hK hT hF hS 0 (fx_26 hX) (by decide) (fun _ => cl_e36) rfl (z_in rfl (by omega) (by omega)) dX3_openPiece_20 (fun H locs hT hS => ?_)
  obtain ⟨y_3, hy_3, hT⟩ : ∃ z : Nat → Nat → Int32, z = up2 y_2 (a 26) p0.toNatClampNeg (-1 : Int32) ∧ tw (dC, dI) a k τ ln z g H := ⟨_, rfl, hT⟩
  have hG : ag τ [34, 35, 36, 37, 38] y y_3 := by rw [hy_3]; exact hG.up (fx_26 hX) (by decide)
  have hI := hI.ag (S := [36]) (y' := y_3) (by rw [hy_3]; exact ag.one (fx_26 hX)) (by decide)
  refine lv_aload_n hx hb dX3_openPiece_21 rfl (lv_at hl 0 rfl) ?_
  refine tw_get (D := (dC, dI)) (v := .ref (a 27)) (C := RX3) (T := TX3) (N := 12) hx hb hts (fun _ hh => (List.mem_cons_of_mem _ (List.mem_append_right _ (List.mem_append_left _ hh)))) hown hK hT (fx_3 hX) (by decide) cl_e13 rfl 10 (by decide) (hts (.fieldLink RX3 37 "TypingPool$Floor" "workLeft" "[I") (List.mem_cons_of_mem _ (List.mem_append_left _ (List.mem_of_getElem? (i := 3) rfl)))) (fun _ h9 => h9) rfl dX3_openPiece_22 ?_
  refine lv_iload_n hx hb dX3_openPiece_25 rfl (lv_at hl 1 rfl) ?_
  refine lv_iload_n hx hb dX3_openPiece_26 rfl (lv_at hl 2 rfl) ?_
  refine tw_iast hx hb hK hT hF hS 0 (fx_27 hX) (by decide) (fun _ => cl_e37) rfl (z_in rfl (by omega) (by omega)) dX3_openPiece_27 (fun H locs hT hS => ?_)
  obtain ⟨y_4, hy_4, hT⟩ : ∃ z : Nat → Nat → Int32, z = up2 y_3 (a 27) p0.toNatClampNeg p1 ∧ tw (dC, dI) a k τ ln z g H := ⟨_, rfl, hT⟩
  have hG : ag τ [34, 35, 36, 37, 38] y y_4 := by rw [hy_4]; exact hG.up (fx_27 hX) (by decide)
  have hI := hI.ag (S := [37]) (y' := y_4) (by rw [hy_4]; exact ag.one (fx_27 hX)) (by decide)
  refine lv_aload_n hx hb dX3_openPiece_28 rfl (lv_at hl 0 rfl) ?_
  refine tw_get (D := (dC, dI)) (v := .ref (a 28)) (C := RX3) (T := TX3) (N := 12) hx hb hts (fun _ hh => (List.mem_cons_of_mem _ (List.mem_append_right _ (List.mem_append_left _ hh)))) hown hK hT (fx_3 hX) (by decide) cl_e13 rfl 11 (by decide) (hts (.fieldLink RX3 40 "TypingPool$Floor" "knew" "[I") (List.mem_cons_of_mem _ (List.mem_append_left _ (List.mem_of_getElem? (i := 4) rfl)))) (fun _ h9 => h9) rfl dX3_openPiece_29 ?_
  refine lv_iload_n hx hb dX3_openPiece_32 rfl (lv_at hl 1 rfl) ?_
  refine lv_iconst (v := 0) hx hb dX3_openPiece_33 (by decide) ?_
  refine tw_iast hx hb hK hT hF hS 0 (fx_28 hX) (by decide) (fun _ => cl_e38) rfl (z_in rfl (by omega) (by omega)) dX3_openPiece_34 (fun H locs hT hS => ?_)
  obtain ⟨y_5, hy_5, hT⟩ : ∃ z : Nat → Nat → Int32, z = up2 y_4 (a 28) p0.toNatClampNeg (0 : Int32) ∧ tw (dC, dI) a k τ ln z g H := ⟨_, rfl, hT⟩
  have hG : ag τ [34, 35, 36, 37, 38] y y_5 := by rw [hy_5]; exact hG.up (fx_28 hX) (by decide)
  have hI := hI.ag (S := [38]) (y' := y_5) (by rw [hy_5]; exact ag.one (fx_28 hX)) (by decide)
  exact W.vret hx hb hr (fun t ht hW9 => ⟨⟨(), rfl, trivial, ⟨y_5, hG, (by rw [hy_5, up2_o (kd_ne (fx_24 hX) (fx_28 hX) (by decide)), hy_4, up2_o (kd_ne (fx_24 hX) (fx_27 hX) (by decide)), hy_3, up2_o (kd_ne (fx_24 hX) (fx_26 hX) (by decide)), hy_2, up2_o (kd_ne (fx_24 hX) (fx_25 hX) (by decide)), hy_1, up2_q]), (by rw [hy_5, up2_o (kd_ne (fx_25 hX) (fx_28 hX) (by decide)), hy_4, up2_o (kd_ne (fx_25 hX) (fx_27 hX) (by decide)), hy_3, up2_o (kd_ne (fx_25 hX) (fx_26 hX) (by decide)), hy_2, up2_q, hy_1, up2_o (kd_ne (fx_25 hX) (fx_24 hX) (by decide))]), (by rw [hy_5, up2_o (kd_ne (fx_27 hX) (fx_28 hX) (by decide)), hy_4, up2_q, hy_3, up2_o (kd_ne (fx_27 hX) (fx_26 hX) (by decide)), hy_2, up2_o (kd_ne (fx_27 hX) (fx_25 hX) (by decide)), hy_1, up2_o (kd_ne (fx_27 hX) (fx_24 hX) (by decide))]), tw_at ht hT⟩⟩, hS.F ht⟩) hS.2.2 dX3_openPiece_35
def wo_c_Hand_initF : List Cond := [.methodLink RX4 1 objectInit, .instanceMethod objectInit, .code objectInit ⟨#[0xb1]⟩ 1 none, .fieldLink RX4 7 "TypingPool$Hand" "speed" "I", .fieldLink RX4 13 "TypingPool$Hand" "styles" "I", .fieldLink RX4 16 "TypingPool$Hand" "leave" "I"]
def wm_c_Hand_initF : List Cond := .code yX4_init cX4_init 4 none :: (wo_c_Hand_initF ++ (wsX40 ++ ([] : List Cond)))
theorem gd_c_Hand_initF : ∀ w ∈ wm_c_Hand_initF, goodWord w = true := gd_c rfl (gd_a (by decide) (gd_a gd_wsX40 gd_nil))
set_option maxRecDepth 20000 in
theorem im_c_Hand_initF : ∀ w ∈ wm_c_Hand_initF, w ∈ lw_tbl := im_c (in_r [.code yX4_init cX4_init 4 none] [606] (by decide +kernel)) (in_app (in_r wo_c_Hand_initF [607, 102, 103, 608, 610, 612] (by decide +kernel)) (in_app im_wsX40 im_nil))
set_option maxHeartbeats 4000000 in
set_option maxRecDepth 100000 in
theorem c_Hand_initF (l : Launch) (dC : Nat → ClassId) (dI : Nat → Nat → Nat) (ad av : Nat → Nat) (sz : Nat) (a : Nat → Nat) (k : Nat → ClassId) (τ ln : Nat → Nat) (y : Nat → Nat → Int32) (g : Nat → Nat → Option Nat) (u : Nat → Int) (b0 : Nat) (p0 : Int32) (p1 : Int32) (p2 : Int32) (hI : IC a u τ ln y g) (h_b0 : τ b0 = 1) : Met l yX4_init wm_c_Hand_initF ({ frames := 2, cells := 0, slots := 0, locals := 80 }) (pw_ ad av (dC, dI) sz [.ref b0, .int p0, .int p1, .int p2] a k τ ln y g) (va_Qv (fun (_ : Unit) => True) (fun (_ : Unit) (t : State) => (∃ (y' : Nat → Nat → Int32), ag τ [1] y y' ∧ (y' b0 0).toInt = p0.toInt ∧ ((∀ z : Nat, z ≠ b0 → y' z = y z)) ∧ tw (dC, dI) a k τ ln y' g t.heap)) (fr τ sz)) 0 0 (fr τ sz) := by
  refine Met.ofW (cc := cX4_init) (maxL := 4) (ret := none) (by decide) rfl ?_
  intro p e s m args below meth c s₁ B hml hv
  obtain ⟨rfl, hsz, hT, hK, hM⟩ := hv
  have hx := B.exec
  have hb := B.bytes
  have hr := B.returns
  have hts := atoms_spec (ws := wm_c_Hand_initF) B.pre
  have hown : s.vm.findClass RX4 = some m.cls := findClass_of_methodNamed B.named
  have hlocks := B.notSynchronized
  have hin : meth.name = "<init>" := (name_of_methodNamed B.named B.method).1
  subst hsz
  generalize hAe : fr τ s.heap.size = A at hM ⊢
  have hA : ∀ q : Nat, s.heap.size ≤ q → A q := fun q h => by rw [← hAe]; exact Or.inr h
  have hF : ∀ q, τ q ≠ 0 → A q := fun q h => by rw [← hAe]; exact Or.inl h
  have hS : va_S A s.heap s.heap [] := va_S.rf
  have hX := hI.1
  have hR := ic_r hI
  have hG : ag τ [1] y y := ag.rf
  have hl := lv_entry ([.ref b0, .int p0, .int p1, .int p2]) (n := 4) (Nat.le_of_ble_eq_true rfl)
  rw [lg_entry_eq]
  generalize (lg_sl ([.ref b0, .int p0, .int p1, .int p2]) ++ List.replicate (4 - (lg_sl ([.ref b0, .int p0, .int p1, .int p2])).length) Slot.unset).toArray = ls at hl ⊢
  have hl : lv_has ls 4 [(0, .ref b0), (1, .int p0), (2, .int p1), (3, .int p2)] := hl
  refine lv_aload_n hx hb dX4_init_0 rfl (lv_at hl 0 rfl) ?_
  refine W.objInit hx hb hown (hts (.methodLink RX4 1 objectInit) (List.mem_cons_of_mem _ (List.mem_append_left _ (List.mem_of_getElem? (i := 0) rfl)))) (hts (.instanceMethod objectInit) (List.mem_cons_of_mem _ (List.mem_append_left _ (List.mem_of_getElem? (i := 1) rfl)))) (hts (.code objectInit ⟨#[0xb1]⟩ 1 none) (List.mem_cons_of_mem _ (List.mem_append_left _ (List.mem_of_getElem? (i := 2) rfl)))) rfl (by rw [hml]; exact hl.1) rfl dX4_init_1 (Nat.le_of_ble_eq_true rfl) (Nat.le_of_ble_eq_true rfl) ?_
  refine W.eq (g2 := F0 m 4 ls []) rfl ?_
  refine lv_aload_n hx hb dX4_init_4 rfl (lv_at hl 0 rfl) ?_
  refine lv_iload_n hx hb dX4_init_5 rfl (lv_at hl 1 rfl) ?_
  refine tw_putF (D := (dC, dI)) (x := p0) (ty := .int) (C := RX4) (T := TX4) (N := 3) hx hb hts (fun _ hh => (List.mem_cons_of_mem _ (List.mem_append_right _ (List.mem_append_left _ hh)))) tyX4 tyX4_ok nmX4 hown hK hT hF hS h_b0 (by decide) cl_e1 rfl 0 (by decide) (hts (.fieldLink RX4 7 "TypingPool$Hand" "speed" "I") (List.mem_cons_of_mem _ (List.mem_append_left _ (List.mem_of_getElem? (i := 3) rfl)))) (fun _ h9 => h9) rfl hin rfl (tyX4_ok 0 (by decide)) rfl rfl (Nat.le_of_ble_eq_true rfl) rfl dX4_init_6 (fun H locs hT hS => ?_)
  obtain ⟨y_1, hy_1, hT⟩ : ∃ z : Nat → Nat → Int32, z = up2 y b0 0 p0 ∧ tw (dC, dI) a k τ ln z g H := ⟨_, rfl, hT⟩
  have hG : ag τ [1] y y_1 := by rw [hy_1]; exact hG.up h_b0 (by decide)
  have : (y_1 b0 0).toInt = p0.toInt := (congrArg Int32.toInt (show y_1 b0 0 = p0 from by rw [hy_1]; exact up2_i)).trans rfl
  have hI := hI.ag (S := [1]) (y' := y_1) (by rw [hy_1]; exact ag.one h_b0) (by decide)
  refine lv_aload_n hx hb dX4_init_9 rfl (lv_at hl 0 rfl) ?_
  refine lv_iload_n hx hb dX4_init_10 rfl (lv_at hl 2 rfl) ?_
  refine tw_putF (D := (dC, dI)) (x := p1) (ty := .int) (C := RX4) (T := TX4) (N := 3) hx hb hts (fun _ hh => (List.mem_cons_of_mem _ (List.mem_append_right _ (List.mem_append_left _ hh)))) tyX4 tyX4_ok nmX4 hown hK hT hF hS h_b0 (by decide) cl_e1 rfl 1 (by decide) (hts (.fieldLink RX4 13 "TypingPool$Hand" "styles" "I") (List.mem_cons_of_mem _ (List.mem_append_left _ (List.mem_of_getElem? (i := 4) rfl)))) (fun _ h9 => h9) rfl hin rfl (tyX4_ok 1 (by decide)) rfl rfl (Nat.le_of_ble_eq_true rfl) rfl dX4_init_11 (fun H locs hT hS => ?_)
  obtain ⟨y_2, hy_2, hT⟩ : ∃ z : Nat → Nat → Int32, z = up2 y_1 b0 1 p1 ∧ tw (dC, dI) a k τ ln z g H := ⟨_, rfl, hT⟩
  have hG : ag τ [1] y y_2 := by rw [hy_2]; exact hG.up h_b0 (by decide)
  have : (y_2 b0 0).toInt = (y_1 b0 0).toInt := by rw [hy_2, up2_e (by decide)]
  have hI := hI.ag (S := [1]) (y' := y_2) (by rw [hy_2]; exact ag.one h_b0) (by decide)
  refine lv_aload_n hx hb dX4_init_14 rfl (lv_at hl 0 rfl) ?_
  refine lv_iload_n hx hb dX4_init_15 rfl (lv_at hl 3 rfl) ?_
  refine tw_putF (D := (dC, dI)) (x := p2) (ty := .int) (C := RX4) (T := TX4) (N := 3) hx hb hts (fun _ hh => (List.mem_cons_of_mem _ (List.mem_append_right _ (List.mem_append_left _ hh)))) tyX4 tyX4_ok nmX4 hown hK hT hF hS h_b0 (by decide) cl_e1 rfl 2 (by decide) (hts (.fieldLink RX4 16 "TypingPool$Hand" "leave" "I") (List.mem_cons_of_mem _ (List.mem_append_left _ (List.mem_of_getElem? (i := 5) rfl)))) (fun _ h9 => h9) rfl hin rfl (tyX4_ok 2 (by decide)) rfl rfl (Nat.le_of_ble_eq_true rfl) rfl dX4_init_16 (fun H locs hT hS => ?_)
  obtain ⟨y_3, hy_3, hT⟩ : ∃ z : Nat → Nat → Int32, z = up2 y_2 b0 2 p2 ∧ tw (dC, dI) a k τ ln z g H := ⟨_, rfl, hT⟩
  have hG : ag τ [1] y y_3 := by rw [hy_3]; exact hG.up h_b0 (by decide)
  have : (y_3 b0 0).toInt = (y_2 b0 0).toInt := by rw [hy_3, up2_e (by decide)]
  have hI := hI.ag (S := [1]) (y' := y_3) (by rw [hy_3]; exact ag.one h_b0) (by decide)
  exact W.vret hx hb hr (fun t ht hW9 => ⟨⟨(), rfl, trivial, ⟨y_3, hG, by omega, (fun z hz => by rw [hy_3, up2_o hz, hy_2, up2_o hz, hy_1, up2_o hz]), tw_at ht hT⟩⟩, hS.F ht⟩) hS.2.2 dX4_init_19
def wo_c_allWorkF : List Cond := [.fieldLink RX6 9 "TypingPool$Piece" "lines" "I", .fieldLink RX6 15 "TypingPool$Piece" "copies" "I"]
def wm_c_allWorkF : List Cond := .code yX6_allWork cX6_allWork 1 (some .int) :: (wo_c_allWorkF ++ (wsX60 ++ ([] : List Cond)))
theorem gd_c_allWorkF : ∀ w ∈ wm_c_allWorkF, goodWord w = true := gd_c rfl (gd_a (by decide) (gd_a gd_wsX60 gd_nil))
set_option maxRecDepth 20000 in
theorem im_c_allWorkF : ∀ w ∈ wm_c_allWorkF, w ∈ lw_tbl := im_c (in_r [.code yX6_allWork cX6_allWork 1 (some .int)] [722] (by decide +kernel)) (in_app (in_r wo_c_allWorkF [670, 689] (by decide +kernel)) (in_app im_wsX60 im_nil))
set_option maxHeartbeats 4000000 in
set_option maxRecDepth 100000 in
theorem c_allWorkF (l : Launch) (dC : Nat → ClassId) (dI : Nat → Nat → Nat) (ad av : Nat → Nat) (sz : Nat) (a : Nat → Nat) (k : Nat → ClassId) (τ ln : Nat → Nat) (y : Nat → Nat → Int32) (g : Nat → Nat → Option Nat) (u : Nat → Int) (b0 : Nat) (hI : IC a u τ ln y g) (h_b0 : τ b0 = 2) (hli : 1 ≤ (y b0 2).toInt ∧ (y b0 2).toInt ≤ 400) (hco : 0 ≤ (y b0 8).toInt ∧ (y b0 8).toInt ≤ 6) : Met l yX6_allWork wm_c_allWorkF ({ frames := 0, cells := 0, slots := 0, locals := 0 }) (pw_ ad av (dC, dI) sz [.ref b0] a k τ ln y g) (va_Qi (fun (r u : Int32) => u = r) (fun (r : Int32) (t : State) => (60 ≤ r.toInt ∧ r.toInt ≤ 28800 ∧ tw (dC, dI) a k τ ln y g t.heap)) (fr τ sz)) 0 0 (fr τ sz) := by
  refine Met.ofW (cc := cX6_allWork) (maxL := 1) (ret := (some .int)) (by decide) rfl ?_
  intro p e s m args below meth c s₁ B hml hv
  obtain ⟨rfl, hsz, hT, hK, hM⟩ := hv
  have hx := B.exec
  have hb := B.bytes
  have hr := B.returns
  have hts := atoms_spec (ws := wm_c_allWorkF) B.pre
  have hown : s.vm.findClass RX6 = some m.cls := findClass_of_methodNamed B.named
  have hlocks := B.notSynchronized
  subst hsz
  generalize hAe : fr τ s.heap.size = A at hM ⊢
  have hA : ∀ q : Nat, s.heap.size ≤ q → A q := fun q h => by rw [← hAe]; exact Or.inr h
  have hF : ∀ q, τ q ≠ 0 → A q := fun q h => by rw [← hAe]; exact Or.inl h
  have hS : va_S A s.heap s.heap [] := va_S.rf
  have hX := hI.1
  have hR := ic_r hI
  have hl := lv_entry ([.ref b0]) (n := 1) (Nat.le_of_ble_eq_true rfl)
  rw [lg_entry_eq]
  generalize (lg_sl ([.ref b0]) ++ List.replicate (1 - (lg_sl ([.ref b0])).length) Slot.unset).toArray = ls at hl ⊢
  have hl : lv_has ls 1 [(0, .ref b0)] := hl
  refine lv_bipush (v := 60) hx hb dX6_allWork_0 (by decide) ?_
  refine lv_aload_n hx hb dX6_allWork_2 rfl (lv_at hl 0 rfl) ?_
  refine tw_get (D := (dC, dI)) (v := .int (y b0 2)) (C := RX6) (T := TX6) (N := 11) hx hb hts (fun _ hh => (List.mem_cons_of_mem _ (List.mem_append_right _ (List.mem_append_left _ hh)))) hown hK hT h_b0 (by decide) cl_e2 rfl 2 (by decide) (hts (.fieldLink RX6 9 "TypingPool$Piece" "lines" "I") (List.mem_cons_of_mem _ (List.mem_append_left _ (List.mem_of_getElem? (i := 0) rfl)))) (fun _ h9 => h9) rfl dX6_allWork_3 ?_
  refine lv_imul hx hb dX6_allWork_6 ?_
  refine lv_topi (fun x_1 ex_1 => ?_)
  have hx_1 := z_mul ex_1 (zk (x := 60) 60 rfl) rfl (by omega) (by omega)
  refine lv_iconst (v := 2) hx hb dX6_allWork_7 (by decide) ?_
  refine lv_aload_n hx hb dX6_allWork_8 rfl (lv_at hl 0 rfl) ?_
  refine tw_get (D := (dC, dI)) (v := .int (y b0 2)) (C := RX6) (T := TX6) (N := 11) hx hb hts (fun _ hh => (List.mem_cons_of_mem _ (List.mem_append_right _ (List.mem_append_left _ hh)))) hown hK hT h_b0 (by decide) cl_e2 rfl 2 (by decide) (hts (.fieldLink RX6 9 "TypingPool$Piece" "lines" "I") (List.mem_cons_of_mem _ (List.mem_append_left _ (List.mem_of_getElem? (i := 0) rfl)))) (fun _ h9 => h9) rfl dX6_allWork_9 ?_
  refine lv_imul hx hb dX6_allWork_12 ?_
  refine lv_topi (fun x_2 ex_2 => ?_)
  have hx_2 := z_mul ex_2 (zk (x := 2) 2 rfl) rfl (by omega) (by omega)
  refine lv_aload_n hx hb dX6_allWork_13 rfl (lv_at hl 0 rfl) ?_
  refine tw_get (D := (dC, dI)) (v := .int (y b0 8)) (C := RX6) (T := TX6) (N := 11) hx hb hts (fun _ hh => (List.mem_cons_of_mem _ (List.mem_append_right _ (List.mem_append_left _ hh)))) hown hK hT h_b0 (by decide) cl_e2 rfl 8 (by decide) (hts (.fieldLink RX6 15 "TypingPool$Piece" "copies" "I") (List.mem_cons_of_mem _ (List.mem_append_left _ (List.mem_of_getElem? (i := 1) rfl)))) (fun _ h9 => h9) rfl dX6_allWork_14 ?_
  refine lv_imul hx hb dX6_allWork_17 ?_
  refine lv_topi (fun x_3 ex_3 => ?_)
  have hx_3 := z_mulb 800 6 ex_3 rfl rfl (by omega) (by omega) (by omega) (by omega) (by decide)
  refine lv_iadd hx hb dX6_allWork_18 ?_
  refine lv_topi (fun x_4 ex_4 => ?_)
  have hx_4 := z_add ex_4 rfl rfl (by omega) (by omega)
  have hrv : x_4.toInt = x_4.toInt := rfl
  exact W.iret (v := x_4) hx hb hr (fun t ht hW9 => ⟨⟨x_4, x_4, rfl, rfl, ⟨by omega, by omega, tw_at ht hT⟩⟩, hS.F ht⟩) hS.2.2 dX6_allWork_19
def wo_c_stepF : List Cond := [.methodLink RX11 163 yX11_canGoOn, .instanceMethod yX11_canGoOn, .selects RX11 yX11_canGoOn yX11_canGoOn, .initialized RX11, .fieldLink RX11 28 "TypingPool" "floor" "LTypingPool$Floor;", .methodLink RX11 167 yX3_runOn, .instanceMethod yX3_runOn, .selects RX3 yX3_runOn yX3_runOn, .initialized RX3, .fieldLink RX11 99 "TypingPool$Floor" "now" "I"]
def wm_c_stepF : List Cond := .code yX11_step cX11_step 2 (some .int) :: (wo_c_stepF ++ (wm_c_canGoOnF ++ (wsX110 ++ (wm_c_runOnF ++ (wsX30 ++ ([] : List Cond))))))
theorem gd_c_stepF : ∀ w ∈ wm_c_stepF, goodWord w = true := gd_c rfl (gd_a (by decide) (gd_a gd_c_canGoOnF (gd_a gd_wsX110 (gd_a gd_c_runOnF (gd_a gd_wsX30 gd_nil)))))
set_option maxRecDepth 20000 in
theorem im_c_stepF : ∀ w ∈ wm_c_stepF, w ∈ lw_tbl := im_c (in_r [.code yX11_step cX11_step 2 (some .int)] [746] (by decide +kernel)) (in_app (in_r wo_c_stepF [747, 749, 7, 70, 561, 751, 752, 753, 83, 429] (by decide +kernel)) (in_app im_c_canGoOnF (in_app im_wsX110 (in_app im_c_runOnF (in_app im_wsX30 im_nil)))))
set_option maxHeartbeats 4000000 in
set_option maxRecDepth 100000 in
theorem c_stepF (l : Launch) (dC : Nat → ClassId) (dI : Nat → Nat → Nat) (ad av : Nat → Nat) (sz : Nat) (a : Nat → Nat) (k : Nat → ClassId) (τ ln : Nat → Nat) (y : Nat → Nat → Int32) (g : Nat → Nat → Option Nat) (u : Nat → Int) (p0 : Int32) (hI : IC a u τ ln y g) (hFo : FLo a u g y) (hSl : SLf a (u 2) g y (y (a 83))) : Met l yX11_step wm_c_stepF ({ frames := 7, cells := 0, slots := 0, locals := 420 }) (pw_ ad av (dC, dI) sz [.ref (a 0), .int p0] a k τ ln y g) (va_Qi (fun (r u : Int32) => u = r) (fun (r : Int32) (t : State) => (∃ (u' : Nat → Int), r = (-1) ∧ (∀ i, i ∉ ([] : List Nat) → u' i = u i) ∧ (p0.toInt < 0 ∨ 960 < p0.toInt ∨ 4800 < u 9 + p0.toInt) ∧ pq0 (dC, dI) a k τ y g u' (y (a 83)) sz t.heap) ∨ (∃ (u' : Nat → Int), (∀ i, i ∉ ([9] : List Nat) → u' i = u i) ∧ (0 ≤ p0.toInt ∧ p0.toInt ≤ 960 ∧ u 9 + p0.toInt ≤ 4800) ∧ r.toInt = u 9 + p0.toInt ∧ u' 9 = u 9 + p0.toInt ∧ pq0 (dC, dI) a k τ y g u' (y (a 83)) sz t.heap)) (fr τ sz)) 0 0 (fr τ sz) := by
  refine Met.ofW (cc := cX11_step) (maxL := 2) (ret := (some .int)) (by decide) rfl ?_
  intro p e s m args below meth c s₁ B hml hv
  obtain ⟨rfl, hsz, hT, hK, hM⟩ := hv
  have hx := B.exec
  have hb := B.bytes
  have hr := B.returns
  have hts := atoms_spec (ws := wm_c_stepF) B.pre
  have hown : s.vm.findClass RX11 = some m.cls := findClass_of_methodNamed B.named
  have hlocks := B.notSynchronized
  subst hsz
  generalize hAe : fr τ s.heap.size = A at hM ⊢
  have hA : ∀ q : Nat, s.heap.size ≤ q → A q := fun q h => by rw [← hAe]; exact Or.inr h
  have hF : ∀ q, τ q ≠ 0 → A q := fun q h => by rw [← hAe]; exact Or.inl h
  have hS : va_S A s.heap s.heap [] := va_S.rf
  have hX := hI.1
  have hR := ic_r hI
  have hMo : mono τ τ s.heap.size := mono.rf
  have hKM : kpM0 τ y g y g := kpM0.rf
  have hl := lv_entry ([.ref (a 0), .int p0]) (n := 2) (Nat.le_of_ble_eq_true rfl)
  rw [lg_entry_eq]
  generalize (lg_sl ([.ref (a 0), .int p0]) ++ List.replicate (2 - (lg_sl ([.ref (a 0), .int p0])).length) Slot.unset).toArray = ls at hl ⊢
  have hl : lv_has ls 2 [(0, .ref (a 0)), (1, .int p0)] := hl
  have hF9 := hFo.1
  have hF8 := hFo.2.1
  refine lv_aload_n hx hb dX11_step_0 rfl (lv_at hl 0 rfl) ?_
  refine lv_iload_n hx hb dX11_step_1 rfl (lv_at hl 1 rfl) ?_
  refine lv_iconst (v := 0) hx hb dX11_step_2 (by decide) ?_
  have hFc := tw_free hF hS hA
  have hp_1 : (0 : Int32).toInt = 0 := (zk (x := 0) 0 rfl)
  refine va_calli (va_runV (As := [.int p0, .int 0]) (rest := []) ⟨hx, hb, hml, hown, hts⟩ (c_canGoOnF l dC dI ad av s.heap.size a k τ ln y g u p0 (0 : Int32) hI (by have := hFo.1; have := hFo.2.1; omega) (by have := hFo.1; have := hFo.2.1; omega) (by decide)) (cwV 2 hts (gi_4 (List.mem_cons_of_mem _ (List.mem_append_left _ (List.mem_of_getElem? (i := 0) rfl))) (List.mem_cons_of_mem _ (List.mem_append_left _ (List.mem_of_getElem? (i := 1) rfl))) (List.mem_cons_of_mem _ (List.mem_append_left _ (List.mem_of_getElem? (i := 2) rfl))) (List.mem_cons_of_mem _ (List.mem_append_left _ (List.mem_of_getElem? (i := 3) rfl))) (fun _ hh => (List.mem_cons_of_mem _ (List.mem_append_right _ (List.mem_append_left _ hh)))) gd_c_canGoOnF) rfl rfl rfl (by decide +kernel) ⟨Nat.le_of_ble_eq_true rfl, Nat.le_of_ble_eq_true rfl⟩) ⟨pw_blind, tw_recv hK hT (fx_0 hX) (by decide) cl_e10 rfl, pw_use hT hK hFc hS hM⟩ rfl rfl hl.1 rfl (lv_room (Nat.le_of_ble_eq_true rfl)) dX11_step_3 ⟨Nat.le_of_ble_eq_true rfl, Nat.le_of_ble_eq_true rfl⟩) hS (fun q _ h => hFc q h) hFc (fun r0 r_2 t H locs ht hvm hw hB hz1 hk1 hS => ?_)
  refine W.widen (k := 0) (n := 0) (Nat.le_of_ble_eq_true rfl) (Nat.le_of_ble_eq_true rfl) ?_
  clear hvm hz1 hk1
  subst hw
  rcases hB with ⟨hre, hf_3, hf_4, hf_5, hT⟩ | ⟨hre, hf_6, hT⟩
  · refine lq_top (v := 1) hre ?_
    rw [ht] at hT
    try simp only [hp_1] at hf_3 hf_4 hf_5
    clear hp_1
    refine lv_if_ne (tgt := 11) hx hb dX11_step_6 (by decide) (fun c_7 => ?_) (fun c_7 => absurd c_7 (by decide))
    refine lv_aload_n hx hb dX11_step_11 rfl (lv_at hl 0 rfl) ?_
    refine tw_get (D := (dC, dI)) (v := .ref (a 3)) (C := RX11) (T := TX11) (N := 10) hx hb hts (fun _ hh => (List.mem_cons_of_mem _ (List.mem_append_right _ (List.mem_append_right _ (List.mem_append_left _ hh))))) hown hK hT (fx_0 hX) (by decide) cl_e10 rfl 2 (by decide) (hts (.fieldLink RX11 28 "TypingPool" "floor" "LTypingPool$Floor;") (List.mem_cons_of_mem _ (List.mem_append_left _ (List.mem_of_getElem? (i := 4) rfl)))) (fun _ h9 => h9) rfl dX11_step_12 ?_
    refine lv_iload_n hx hb dX11_step_15 rfl (lv_at hl 1 rfl) ?_
    refine lv_null hx hb dX11_step_16 ?_
    refine lv_iconst (v := (-1)) hx hb dX11_step_17 (by decide) ?_
    have hFc := tw_free hF hS hA
    have hp_8 : (-1 : Int32).toInt = (-1) := (zk (x := (-1)) (-1) rfl)
    refine va_callv (va_runV (As := [.int p0, .null, .int (-1)]) (rest := []) ⟨hx, hb, hml, hown, hts⟩ (c_runOnF l dC dI ad av H.size a k τ ln y g u p0 (-1 : Int32) hI (by omega) (by omega) (by have := hFo.1; have := hFo.2.1; omega) (by have := hFo.1; have := hFo.2.1; omega) (by omega) hFo.2.2.1 hFo.2.2.2) (cwV 3 hts (gi_4 (List.mem_cons_of_mem _ (List.mem_append_left _ (List.mem_of_getElem? (i := 5) rfl))) (List.mem_cons_of_mem _ (List.mem_append_left _ (List.mem_of_getElem? (i := 6) rfl))) (List.mem_cons_of_mem _ (List.mem_append_left _ (List.mem_of_getElem? (i := 7) rfl))) (List.mem_cons_of_mem _ (List.mem_append_left _ (List.mem_of_getElem? (i := 8) rfl))) (fun _ hh => (List.mem_cons_of_mem _ (List.mem_append_right _ (List.mem_append_right _ (List.mem_append_right _ (List.mem_append_left _ hh)))))) gd_c_runOnF) rfl rfl rfl (by decide +kernel) ⟨Nat.le_of_ble_eq_true rfl, Nat.le_of_ble_eq_true rfl⟩) ⟨pw_blind, tw_recv hK hT (fx_3 hX) (by decide) cl_e13 rfl, pw_use hT hK hFc hS hM⟩ rfl rfl hl.1 rfl (lv_room (Nat.le_of_ble_eq_true rfl)) dX11_step_18 ⟨Nat.le_of_ble_eq_true rfl, Nat.le_of_ble_eq_true rfl⟩) hS (fun q _ h => hFc q h) hFc (fun u0 t H locs ht hvm hw hB hz1 hk1 hS => ?_)
    refine W.widen (k := 0) (n := 0) (Nat.le_of_ble_eq_true rfl) (Nat.le_of_ble_eq_true rfl) ?_
    clear hvm hz1 hk1
    obtain ⟨y_10, hgy_10, hf_11, hf_12, hT⟩ := hB
    rw [ht] at hT
    have hKM := hKM.ag hMo hgy_10 (by decide)
    have hI := hI.ag hgy_10 (by decide)
    try simp only [hp_8] at hf_11 hf_12
    clear hp_8
    refine lv_aload_n hx hb dX11_step_21 rfl (lv_at hl 0 rfl) ?_
    refine tw_get (D := (dC, dI)) (v := .ref (a 3)) (C := RX11) (T := TX11) (N := 10) hx hb hts (fun _ hh => (List.mem_cons_of_mem _ (List.mem_append_right _ (List.mem_append_right _ (List.mem_append_left _ hh))))) hown hK hT (fx_0 hX) (by decide) cl_e10 rfl 2 (by decide) (hts (.fieldLink RX11 28 "TypingPool" "floor" "LTypingPool$Floor;") (List.mem_cons_of_mem _ (List.mem_append_left _ (List.mem_of_getElem? (i := 4) rfl)))) (fun _ h9 => h9) rfl dX11_step_22 ?_
    refine tw_get (D := (dC, dI)) (v := .int (y_10 (a 3) 2)) (C := RX3) (T := TX3) (N := 12) hx hb hts (fun _ hh => (List.mem_cons_of_mem _ (List.mem_append_right _ (List.mem_append_right _ (List.mem_append_right _ (List.mem_append_right _ (List.mem_append_left _ hh))))))) hown hK hT (fx_3 hX) (by decide) cl_e13 rfl 2 (by decide) (hts (.fieldLink RX11 99 "TypingPool$Floor" "now" "I") (List.mem_cons_of_mem _ (List.mem_append_left _ (List.mem_of_getElem? (i := 9) rfl)))) (fun _ h9 => h9) rfl dX11_step_25 ?_
    have hrv : (y_10 (a 3) 2).toInt = (y_10 (a 3) 2).toInt := rfl
    have hI0 := hI
    have hI := hI.now9 (v := u 9 + p0.toInt)
    have hFo : FLo a (upc u 9 (u 9 + p0.toInt)) g y_10 := ⟨by rw [upc_i]; omega, by rw [upc_i]; omega, hf_12, hFo.2.2.2.ag hI0 hgy_10 (by decide)⟩
    have hSl : SLf a ((upc u 9 (u 9 + p0.toInt)) 2) g y_10 (y (a 83)) := by rw [upc_o (by decide)]; exact hSl.gk hI0 rfl (fun z hz => hgy_10.at hz (by decide))
    exact W.iret (v := y_10 (a 3) 2) hx hb hr (fun t ht hW9 => ⟨⟨y_10 (a 3) 2, y_10 (a 3) 2, rfl, rfl, Or.inr (⟨(upc u 9 (u 9 + p0.toInt)), (by intro i hi; simp only [List.mem_cons, List.not_mem_nil, or_false, not_or] at hi; unfold upc; repeat rw [if_neg (by omega)]), by omega, by omega, upc_i, ⟨τ, ln, y_10, g, hMo, hKM, hI, hFo, hSl, tw_at ht hT⟩⟩)⟩, hS.F ht⟩) hS.2.2 dX11_step_28
  · refine lq_top (v := 0) hre ?_
    rw [ht] at hT
    try simp only [hp_1] at hf_6
    clear hp_1
    refine lv_if_ne (tgt := 11) hx hb dX11_step_6 (by decide) (fun c_13 => absurd c_13 (by decide)) (fun c_13 => ?_)
    refine lv_iconst (v := (-1)) hx hb dX11_step_9 (by decide) ?_
    have hrv : (-1 : Int32).toInt = (-1) := (zk (x := (-1)) (-1) rfl)
    exact W.iret (v := (-1)) hx hb hr (fun t ht hW9 => ⟨⟨(-1), (-1), rfl, rfl, Or.inl ⟨u, rfl, fun _ _ => rfl, by omega, ⟨τ, ln, y, g, hMo, hKM, hI, hFo, hSl, tw_at ht hT⟩⟩⟩, hS.F ht⟩) hS.2.2 dX11_step_10
def wo_c_handF : List Cond := [.methodLink RX11 68 yX11_within, .static yX11_within, .initialized RX11, .constant RX11 78 (65535), .fieldLink RX11 10 "TypingPool" "book" "LTypingPool$Book;", .fieldLink RX11 79 "TypingPool$Book" "handCount" "I", .fieldLink RX11 82 "TypingPool$Book" "hands" "[LTypingPool$Hand;", .classLink RX11 86 RX4, .instantiable RX4 3, .initialized RX4, .instanceMethod yX4_init, .methodLink RX11 88 yX4_init, .fieldLink RX11 28 "TypingPool" "floor" "LTypingPool$Floor;", .methodLink RX11 91 yX3_openHand, .instanceMethod yX3_openHand, .selects RX3 yX3_openHand yX3_openHand, .initialized RX3]
def wm_c_handF : List Cond := .code yX11_hand cX11_hand 7 (some .int) :: (wo_c_handF ++ (wm_c_within ++ (wsX110 ++ (wsX10 ++ (wsX40 ++ (wm_c_Hand_initF ++ (wm_c_openHandF ++ ([] : List Cond))))))))
theorem gd_c_handF : ∀ w ∈ wm_c_handF, goodWord w = true := gd_c rfl (gd_a (by decide) (gd_a gd_c_within (gd_a gd_wsX110 (gd_a gd_wsX10 (gd_a gd_wsX40 (gd_a gd_c_Hand_initF (gd_a gd_c_openHandF gd_nil)))))))
set_option maxRecDepth 20000 in
theorem im_c_handF : ∀ w ∈ wm_c_handF, w ∈ lw_tbl := im_c (in_r [.code yX11_hand cX11_hand 7 (some .int)] [600] (by decide +kernel)) (in_app (in_r wo_c_handF [594, 595, 70, 601, 559, 124, 121, 602, 603, 87, 605, 604, 561, 621, 622, 623, 83] (by decide +kernel)) (in_app im_c_within (in_app im_wsX110 (in_app im_wsX10 (in_app im_wsX40 (in_app im_c_Hand_initF (in_app im_c_openHandF im_nil)))))))
set_option maxHeartbeats 4000000 in
set_option maxRecDepth 100000 in
theorem c_handF (l : Launch) (dC : Nat → ClassId) (dI : Nat → Nat → Nat) (ad av : Nat → Nat) (sz : Nat) (a : Nat → Nat) (k : Nat → ClassId) (τ ln : Nat → Nat) (y : Nat → Nat → Int32) (g : Nat → Nat → Option Nat) (u : Nat → Int) (p0 : Int32) (p1 : Int32) (p2 : Int32) (p3 : Int32) (hI : IC a u τ ln y g) (hFo : FLo a u g y) (hSl : SLf a (u 2) g y (y (a 83))) : Met l yX11_hand wm_c_handF ({ frames := 3, cells := 1, slots := 3, locals := 140 }) (pw_ ad av (dC, dI) sz [.ref (a 0), .int p0, .int p1, .int p2, .int p3] a k τ ln y g) (va_Qi (fun (r u : Int32) => u = r) (fun (r : Int32) (t : State) => (∃ (u' : Nat → Int), r = (-1) ∧ (∀ i, i ∉ ([] : List Nat) → u' i = u i) ∧ (¬ (10 ≤ p0.toInt ∧ p0.toInt ≤ 200 ∧ 0 ≤ p1.toInt ∧ p1.toInt ≤ 255 ∧ 0 ≤ p2.toInt ∧ p2.toInt ≤ 65535 ∧ 0 ≤ p3.toInt ∧ p3.toInt ≤ 3 ∧ u 1 < 8)) ∧ pq0 (dC, dI) a k τ y g u' (y (a 83)) sz t.heap) ∨ (∃ (u' : Nat → Int), (∀ i, i ∉ ([1] : List Nat) → u' i = u i) ∧ ((10 ≤ p0.toInt ∧ p0.toInt ≤ 200 ∧ 0 ≤ p1.toInt ∧ p1.toInt ≤ 255 ∧ 0 ≤ p2.toInt ∧ p2.toInt ≤ 65535 ∧ 0 ≤ p3.toInt ∧ p3.toInt ≤ 3 ∧ u 1 < 8)) ∧ r.toInt = u 1 ∧ u' 1 = u 1 + 1 ∧ pq0 (dC, dI) a k τ y g u' (y (a 83)) sz t.heap)) (fr τ sz)) 1 3 (fr τ sz) := by
  refine Met.ofW (cc := cX11_hand) (maxL := 7) (ret := (some .int)) (by decide) rfl ?_
  intro p e s m args below meth c s₁ B hml hv
  obtain ⟨rfl, hsz, hT, hK, hM⟩ := hv
  have hx := B.exec
  have hb := B.bytes
  have hr := B.returns
  have hts := atoms_spec (ws := wm_c_handF) B.pre
  have hown : s.vm.findClass RX11 = some m.cls := findClass_of_methodNamed B.named
  have hlocks := B.notSynchronized
  subst hsz
  generalize hAe : fr τ s.heap.size = A at hM ⊢
  have hA : ∀ q : Nat, s.heap.size ≤ q → A q := fun q h => by rw [← hAe]; exact Or.inr h
  have hF : ∀ q, τ q ≠ 0 → A q := fun q h => by rw [← hAe]; exact Or.inl h
  have hS : va_S A s.heap s.heap [] := va_S.rf
  have hX := hI.1
  have hR := ic_r hI
  have hMo : mono τ τ s.heap.size := mono.rf
  have hKM : kpM0 τ y g y g := kpM0.rf
  have hl := lv_entry ([.ref (a 0), .int p0, .int p1, .int p2, .int p3]) (n := 7) (Nat.le_of_ble_eq_true rfl)
  rw [lg_entry_eq]
  generalize (lg_sl ([.ref (a 0), .int p0, .int p1, .int p2, .int p3]) ++ List.replicate (7 - (lg_sl ([.ref (a 0), .int p0, .int p1, .int p2, .int p3])).length) Slot.unset).toArray = ls at hl ⊢
  have hl : lv_has ls 7 [(0, .ref (a 0)), (1, .int p0), (2, .int p1), (3, .int p2), (4, .int p3)] := hl
  have hF9 := hFo.1
  have hF8 := hFo.2.1
  have hX0 := hX
  have hIz := hI
  refine lv_iload_n hx hb dX11_hand_0 rfl (lv_at hl 1 rfl) ?_
  refine lv_bipush (v := 10) hx hb dX11_hand_1 (by decide) ?_
  refine lv_sipush (v := 200) hx hb dX11_hand_3 (by decide) ?_
  have hFc := tw_free hF hS hA
  have hp_1 : (10 : Int32).toInt = 10 := (zk (x := 10) 10 rfl)
  have hp_2 : (200 : Int32).toInt = 200 := (zk (x := 200) 200 rfl)
  refine va_calli (va_runS (As := [.int p0, .int 10, .int 200]) (rest := []) ⟨hx, hb, hml, hown, hts⟩ (c_within l dC dI ad av s.heap.size a k τ ln y g u p0 (10 : Int32) (200 : Int32)  ) (va_cwS 3 hts (gi_3 (List.mem_cons_of_mem _ (List.mem_append_left _ (List.mem_of_getElem? (i := 0) rfl))) (List.mem_cons_of_mem _ (List.mem_append_left _ (List.mem_of_getElem? (i := 1) rfl))) (List.mem_cons_of_mem _ (List.mem_append_left _ (List.mem_of_getElem? (i := 2) rfl))) (fun _ hh => (List.mem_cons_of_mem _ (List.mem_append_right _ (List.mem_append_left _ hh)))) gd_c_within) rfl rfl rfl (by decide +kernel) ⟨Nat.le_of_ble_eq_true rfl, Nat.le_of_ble_eq_true rfl⟩) ⟨pw_blind, pw_use hT hK hFc hS hM⟩ rfl rfl hl.1 rfl (lv_room (Nat.le_of_ble_eq_true rfl)) dX11_hand_6 ⟨Nat.le_of_ble_eq_true rfl, Nat.le_of_ble_eq_true rfl⟩) hS (fun q _ h => hFc q h) hFc (fun r0 r_3 t H locs ht hvm hw hB hz1 hk1 hS => ?_)
  refine W.widen (k := 0) (n := 0) (Nat.le_of_ble_eq_true rfl) (Nat.le_of_ble_eq_true rfl) ?_
  clear hvm hz1 hk1
  subst hw
  rcases hB with ⟨hre, hf_4, hf_5, hT⟩ | ⟨hre, hf_6, hT⟩
  · refine lq_top (v := 1) hre ?_
    rw [ht] at hT
    try simp only [hp_1, hp_2] at hf_4 hf_5
    clear hp_1 hp_2
    refine lv_if_eq (tgt := 47) hx hb dX11_hand_9 (by decide) (fun c_7 => absurd c_7 (by decide)) (fun c_7 => ?_)
    refine lv_iload_n hx hb dX11_hand_12 rfl (lv_at hl 2 rfl) ?_
    refine lv_iconst (v := 0) hx hb dX11_hand_13 (by decide) ?_
    refine lv_sipush (v := 255) hx hb dX11_hand_14 (by decide) ?_
    have hFc := tw_free hF hS hA
    have hp_8 : (0 : Int32).toInt = 0 := (zk (x := 0) 0 rfl)
    have hp_9 : (255 : Int32).toInt = 255 := (zk (x := 255) 255 rfl)
    refine va_calli (va_runS (As := [.int p1, .int 0, .int 255]) (rest := []) ⟨hx, hb, hml, hown, hts⟩ (c_within l dC dI ad av H.size a k τ ln y g u p1 (0 : Int32) (255 : Int32)  ) (va_cwS 3 hts (gi_3 (List.mem_cons_of_mem _ (List.mem_append_left _ (List.mem_of_getElem? (i := 0) rfl))) (List.mem_cons_of_mem _ (List.mem_append_left _ (List.mem_of_getElem? (i := 1) rfl))) (List.mem_cons_of_mem _ (List.mem_append_left _ (List.mem_of_getElem? (i := 2) rfl))) (fun _ hh => (List.mem_cons_of_mem _ (List.mem_append_right _ (List.mem_append_left _ hh)))) gd_c_within) rfl rfl rfl (by decide +kernel) ⟨Nat.le_of_ble_eq_true rfl, Nat.le_of_ble_eq_true rfl⟩) ⟨pw_blind, pw_use hT hK hFc hS hM⟩ rfl rfl hl.1 rfl (lv_room (Nat.le_of_ble_eq_true rfl)) dX11_hand_17 ⟨Nat.le_of_ble_eq_true rfl, Nat.le_of_ble_eq_true rfl⟩) hS (fun q _ h => hFc q h) hFc (fun r0 r_10 t H locs ht hvm hw hB hz1 hk1 hS => ?_)
    refine W.widen (k := 0) (n := 0) (Nat.le_of_ble_eq_true rfl) (Nat.le_of_ble_eq_true rfl) ?_
    clear hvm hz1 hk1
    subst hw
    rcases hB with ⟨hre, hf_11, hf_12, hT⟩ | ⟨hre, hf_13, hT⟩
    · refine lq_top (v := 1) hre ?_
      rw [ht] at hT
      try simp only [hp_8, hp_9] at hf_11 hf_12
      clear hp_8 hp_9
      refine lv_if_eq (tgt := 47) hx hb dX11_hand_20 (by decide) (fun c_14 => absurd c_14 (by decide)) (fun c_14 => ?_)
      refine lv_iload_n hx hb dX11_hand_23 rfl (lv_at hl 3 rfl) ?_
      refine lv_iconst (v := 0) hx hb dX11_hand_24 (by decide) ?_
      refine lv_ldc hx hb hown (hts (.constant RX11 78 (65535)) (List.mem_cons_of_mem _ (List.mem_append_left _ (List.mem_of_getElem? (i := 3) rfl)))) dX11_hand_25 ?_
      have hFc := tw_free hF hS hA
      have hp_15 : (0 : Int32).toInt = 0 := (zk (x := 0) 0 rfl)
      have hp_16 : (65535 : Int32).toInt = 65535 := (zk (x := 65535) 65535 rfl)
      refine va_calli (va_runS (As := [.int p2, .int 0, .int 65535]) (rest := []) ⟨hx, hb, hml, hown, hts⟩ (c_within l dC dI ad av H.size a k τ ln y g u p2 (0 : Int32) (65535 : Int32)  ) (va_cwS 3 hts (gi_3 (List.mem_cons_of_mem _ (List.mem_append_left _ (List.mem_of_getElem? (i := 0) rfl))) (List.mem_cons_of_mem _ (List.mem_append_left _ (List.mem_of_getElem? (i := 1) rfl))) (List.mem_cons_of_mem _ (List.mem_append_left _ (List.mem_of_getElem? (i := 2) rfl))) (fun _ hh => (List.mem_cons_of_mem _ (List.mem_append_right _ (List.mem_append_left _ hh)))) gd_c_within) rfl rfl rfl (by decide +kernel) ⟨Nat.le_of_ble_eq_true rfl, Nat.le_of_ble_eq_true rfl⟩) ⟨pw_blind, pw_use hT hK hFc hS hM⟩ rfl rfl hl.1 rfl (lv_room (Nat.le_of_ble_eq_true rfl)) dX11_hand_27 ⟨Nat.le_of_ble_eq_true rfl, Nat.le_of_ble_eq_true rfl⟩) hS (fun q _ h => hFc q h) hFc (fun r0 r_17 t H locs ht hvm hw hB hz1 hk1 hS => ?_)
      refine W.widen (k := 0) (n := 0) (Nat.le_of_ble_eq_true rfl) (Nat.le_of_ble_eq_true rfl) ?_
      clear hvm hz1 hk1
      subst hw
      rcases hB with ⟨hre, hf_18, hf_19, hT⟩ | ⟨hre, hf_20, hT⟩
      · refine lq_top (v := 1) hre ?_
        rw [ht] at hT
        try simp only [hp_15, hp_16] at hf_18 hf_19
        clear hp_15 hp_16
        refine lv_if_eq (tgt := 47) hx hb dX11_hand_30 (by decide) (fun c_21 => absurd c_21 (by decide)) (fun c_21 => ?_)
        refine lv_iload hx hb dX11_hand_33 (lv_at hl 4 rfl) ?_
        refine lv_iconst (v := 0) hx hb dX11_hand_35 (by decide) ?_
        refine lv_iconst (v := 3) hx hb dX11_hand_36 (by decide) ?_
        have hFc := tw_free hF hS hA
        have hp_22 : (0 : Int32).toInt = 0 := (zk (x := 0) 0 rfl)
        have hp_23 : (3 : Int32).toInt = 3 := (zk (x := 3) 3 rfl)
        refine va_calli (va_runS (As := [.int p3, .int 0, .int 3]) (rest := []) ⟨hx, hb, hml, hown, hts⟩ (c_within l dC dI ad av H.size a k τ ln y g u p3 (0 : Int32) (3 : Int32)  ) (va_cwS 3 hts (gi_3 (List.mem_cons_of_mem _ (List.mem_append_left _ (List.mem_of_getElem? (i := 0) rfl))) (List.mem_cons_of_mem _ (List.mem_append_left _ (List.mem_of_getElem? (i := 1) rfl))) (List.mem_cons_of_mem _ (List.mem_append_left _ (List.mem_of_getElem? (i := 2) rfl))) (fun _ hh => (List.mem_cons_of_mem _ (List.mem_append_right _ (List.mem_append_left _ hh)))) gd_c_within) rfl rfl rfl (by decide +kernel) ⟨Nat.le_of_ble_eq_true rfl, Nat.le_of_ble_eq_true rfl⟩) ⟨pw_blind, pw_use hT hK hFc hS hM⟩ rfl rfl hl.1 rfl (lv_room (Nat.le_of_ble_eq_true rfl)) dX11_hand_37 ⟨Nat.le_of_ble_eq_true rfl, Nat.le_of_ble_eq_true rfl⟩) hS (fun q _ h => hFc q h) hFc (fun r0 r_24 t H locs ht hvm hw hB hz1 hk1 hS => ?_)
        refine W.widen (k := 0) (n := 0) (Nat.le_of_ble_eq_true rfl) (Nat.le_of_ble_eq_true rfl) ?_
        clear hvm hz1 hk1
        subst hw
        rcases hB with ⟨hre, hf_25, hf_26, hT⟩ | ⟨hre, hf_27, hT⟩
        · refine lq_top (v := 1) hre ?_
          rw [ht] at hT
          try simp only [hp_22, hp_23] at hf_25 hf_26
          clear hp_22 hp_23
          refine lv_if_eq (tgt := 47) hx hb dX11_hand_40 (by decide) (fun c_28 => absurd c_28 (by decide)) (fun c_28 => ?_)
          refine lv_iconst (v := 1) hx hb dX11_hand_43 (by decide) ?_
          refine lv_goto (tgt := 48) hx hb dX11_hand_44 (by decide) ?_
          refine lv_istore (lv' := [(5, .int 1), (0, .ref (a 0)), (1, .int p0), (2, .int p1), (3, .int p2), (4, .int p3)]) hx hb dX11_hand_48 hl (by decide) rfl (fun ls hl => ?_)
          refine lv_iload hx hb dX11_hand_50 (lv_at hl 0 rfl) ?_
          refine lv_if_eq (tgt := 67) hx hb dX11_hand_52 (by decide) (fun c_29 => absurd c_29 (by decide)) (fun c_29 => ?_)
          refine lv_aload_n hx hb dX11_hand_55 rfl (lv_at hl 1 rfl) ?_
          refine tw_get (D := (dC, dI)) (v := .ref (a 1)) (C := RX11) (T := TX11) (N := 10) hx hb hts (fun _ hh => (List.mem_cons_of_mem _ (List.mem_append_right _ (List.mem_append_right _ (List.mem_append_left _ hh))))) hown hK hT (fx_0 hX) (by decide) cl_e10 rfl 0 (by decide) (hts (.fieldLink RX11 10 "TypingPool" "book" "LTypingPool$Book;") (List.mem_cons_of_mem _ (List.mem_append_left _ (List.mem_of_getElem? (i := 4) rfl)))) (fun _ h9 => h9) rfl dX11_hand_56 ?_
          refine tw_get (D := (dC, dI)) (v := .int (y (a 1) 3)) (C := RX1) (T := TX1) (N := 8) hx hb hts (fun _ hh => (List.mem_cons_of_mem _ (List.mem_append_right _ (List.mem_append_right _ (List.mem_append_right _ (List.mem_append_left _ hh)))))) hown hK hT (fx_1 hX) (by decide) cl_e11 rfl 3 (by decide) (hts (.fieldLink RX11 79 "TypingPool$Book" "handCount" "I") (List.mem_cons_of_mem _ (List.mem_append_left _ (List.mem_of_getElem? (i := 5) rfl)))) (fun _ h9 => h9) rfl dX11_hand_59 ?_
          have hc_30 := ic_1 hI
          refine lv_bipush (v := 8) hx hb dX11_hand_62 (by decide) ?_
          refine lv_icmp_lt (tgt := 69) hx hb dX11_hand_64 (by decide) (fun c_31 => ?_) (fun c_31 => ?_)
          · have nc_31 := z_lt hc_30 (zk (x := 8) 8 rfl) c_31
            refine lv_aload_n hx hb dX11_hand_69 rfl (lv_at hl 1 rfl) ?_
            refine tw_get (D := (dC, dI)) (v := .ref (a 1)) (C := RX11) (T := TX11) (N := 10) hx hb hts (fun _ hh => (List.mem_cons_of_mem _ (List.mem_append_right _ (List.mem_append_right _ (List.mem_append_left _ hh))))) hown hK hT (fx_0 hX) (by decide) cl_e10 rfl 0 (by decide) (hts (.fieldLink RX11 10 "TypingPool" "book" "LTypingPool$Book;") (List.mem_cons_of_mem _ (List.mem_append_left _ (List.mem_of_getElem? (i := 4) rfl)))) (fun _ h9 => h9) rfl dX11_hand_70 ?_
            refine tw_get (D := (dC, dI)) (v := .int (y (a 1) 3)) (C := RX1) (T := TX1) (N := 8) hx hb hts (fun _ hh => (List.mem_cons_of_mem _ (List.mem_append_right _ (List.mem_append_right _ (List.mem_append_right _ (List.mem_append_left _ hh)))))) hown hK hT (fx_1 hX) (by decide) cl_e11 rfl 3 (by decide) (hts (.fieldLink RX11 79 "TypingPool$Book" "handCount" "I") (List.mem_cons_of_mem _ (List.mem_append_left _ (List.mem_of_getElem? (i := 5) rfl)))) (fun _ h9 => h9) rfl dX11_hand_73 ?_
            have hc_32 := ic_1 hI
            refine lv_istore (lv' := [(6, .int (y (a 1) 3)), (5, .int 1), (0, .ref (a 0)), (1, .int p0), (2, .int p1), (3, .int p2), (4, .int p3)]) hx hb dX11_hand_76 hl (by decide) rfl (fun ls hl => ?_)
            refine lv_aload_n hx hb dX11_hand_78 rfl (lv_at hl 2 rfl) ?_
            refine tw_get (D := (dC, dI)) (v := .ref (a 1)) (C := RX11) (T := TX11) (N := 10) hx hb hts (fun _ hh => (List.mem_cons_of_mem _ (List.mem_append_right _ (List.mem_append_right _ (List.mem_append_left _ hh))))) hown hK hT (fx_0 hX) (by decide) cl_e10 rfl 0 (by decide) (hts (.fieldLink RX11 10 "TypingPool" "book" "LTypingPool$Book;") (List.mem_cons_of_mem _ (List.mem_append_left _ (List.mem_of_getElem? (i := 4) rfl)))) (fun _ h9 => h9) rfl dX11_hand_79 ?_
            refine tw_get (D := (dC, dI)) (v := .ref (a 10)) (C := RX1) (T := TX1) (N := 8) hx hb hts (fun _ hh => (List.mem_cons_of_mem _ (List.mem_append_right _ (List.mem_append_right _ (List.mem_append_right _ (List.mem_append_left _ hh)))))) hown hK hT (fx_1 hX) (by decide) cl_e11 rfl 2 (by decide) (hts (.fieldLink RX11 82 "TypingPool$Book" "hands" "[LTypingPool$Hand;") (List.mem_cons_of_mem _ (List.mem_append_left _ (List.mem_of_getElem? (i := 6) rfl)))) (fun _ h9 => h9) rfl dX11_hand_82 ?_
            refine lv_iload hx hb dX11_hand_85 (lv_at hl 0 rfl) ?_
            refine tw_new (ci := 4) (fs := [.int 0, .int 0, .int 0]) (C := RX4) (T := TX4) (N := 3) hx hb hts (fun _ hh => (List.mem_cons_of_mem _ (List.mem_append_right _ (List.mem_append_right _ (List.mem_append_right _ (List.mem_append_right _ (List.mem_append_left _ hh))))))) tyX4 tyX4_ok hown (hts (.classLink RX11 86 RX4) (List.mem_cons_of_mem _ (List.mem_append_left _ (List.mem_of_getElem? (i := 7) rfl)))) (hts (.instantiable RX4 3) (List.mem_cons_of_mem _ (List.mem_append_left _ (List.mem_of_getElem? (i := 8) rfl)))) (hts (.initialized RX4) (List.mem_cons_of_mem _ (List.mem_append_left _ (List.mem_of_getElem? (i := 9) rfl)))) hK hT hF hS hA 1 rfl (fun j hj => by rcases (show j = 0 ∨ j = 1 ∨ j = 2 by omega) with rfl | rfl | rfl <;> rfl) (fun _ => cl_e1) (Nat.le_of_ble_eq_true rfl) (Nat.le_of_ble_eq_true rfl) dX11_hand_87 (fun q_33 H hq0 hAq hT hS => ?_)
            refine W.widen (k := 1) (n := 3) (Nat.le_of_ble_eq_true rfl) (Nat.le_of_ble_eq_true rfl) ?_
            obtain ⟨tm_34, lm_34, ym_34, gm_34, htm_34, hlm_34, hym_34, hgm_34, hT⟩ : ∃ (z1 z2 : Nat → Nat) (z3 : Nat → Nat → Int32) (z4 : Nat → Nat → Option Nat), z1 = nwt τ q_33 1 ∧ z2 = ln ∧ z3 = nwy y q_33 (fun _ => 0) ∧ z4 = nwg g q_33 ∧ tw (dC, dI) a k z1 z2 z3 z4 H := ⟨_, _, _, _, rfl, rfl, rfl, rfl, hT⟩
            have hKM : kpM0 τ y g ym_34 gm_34 := by rw [hym_34, hgm_34]; exact hKM.nw hMo hq0
            have hMo : mono τ tm_34 s.heap.size := by rw [htm_34]; exact hMo.nw hq0 (by rw [hAe]; exact hAq)
            have hI : IC a u tm_34 lm_34 ym_34 gm_34 := by rw [htm_34, hlm_34, hym_34, hgm_34]; exact hI.nw hq0 (Or.inl rfl) (by decide)
            have ha_35 : ym_34 (a 20) = y (a 20) := (show ym_34 (a 20) = y (a 20) from by rw [hym_34, nwy_o (kd_ne (fx_20 hX) hq0 (by decide))]).trans rfl
            have ha_36 : ym_34 (a 21) = y (a 21) := (show ym_34 (a 21) = y (a 21) from by rw [hym_34, nwy_o (kd_ne (fx_21 hX) hq0 (by decide))]).trans rfl
            have ha_37 : ym_34 (a 24) = y (a 24) := (show ym_34 (a 24) = y (a 24) from by rw [hym_34, nwy_o (kd_ne (fx_24 hX) hq0 (by decide))]).trans rfl
            have ha_38 : ym_34 (a 25) = y (a 25) := (show ym_34 (a 25) = y (a 25) from by rw [hym_34, nwy_o (kd_ne (fx_25 hX) hq0 (by decide))]).trans rfl
            have ha_39 : ym_34 (a 27) = y (a 27) := (show ym_34 (a 27) = y (a 27) from by rw [hym_34, nwy_o (kd_ne (fx_27 hX) hq0 (by decide))]).trans rfl
            have : (ym_34 (a 3) 2).toInt = (y (a 3) 2).toInt := by rw [hym_34, nwy_o (kd_ne (fx_3 hX) hq0 (by decide))]
            have hX := hI.1
            have hF : ∀ q, tm_34 q ≠ 0 → A q := fun q h => by rw [← hAe]; exact hMo.2 q h
            have hk_40 : tm_34 q_33 = 1 := by rw [htm_34]; exact nwt_i
            refine lv_dup hx hb dX11_hand_90 rfl ?_
            refine lv_iload_n hx hb dX11_hand_91 rfl (lv_at hl 3 rfl) ?_
            refine lv_iload_n hx hb dX11_hand_92 rfl (lv_at hl 4 rfl) ?_
            refine lv_iload hx hb dX11_hand_93 (lv_at hl 6 rfl) ?_
            have hFc := tw_free hF hS hA
            refine va_callv (va_runI (As := [.int p0, .int p1, .int p3]) (rest := [.ref q_33, .int (y (a 1) 3), .ref (a 10)]) ⟨hx, hb, hml, hown, hts⟩ (c_Hand_initF l dC dI ad av H.size a k tm_34 lm_34 ym_34 gm_34 u q_33 p0 p1 p3 hI hk_40) (cwI 3 hts (gi_0  (fun _ hh => (List.mem_cons_of_mem _ (List.mem_append_right _ (List.mem_append_right _ (List.mem_append_right _ (List.mem_append_right _ (List.mem_append_right _ (List.mem_append_left _ hh)))))))) gd_c_Hand_initF) rfl rfl rfl (hts (.initialized RX4) (List.mem_cons_of_mem _ (List.mem_append_left _ (List.mem_of_getElem? (i := 9) rfl)))) (hts (.methodLink RX11 88 yX4_init) (List.mem_cons_of_mem _ (List.mem_append_left _ (List.mem_of_getElem? (i := 11) rfl)))) (hts (.instanceMethod yX4_init) (List.mem_cons_of_mem _ (List.mem_append_left _ (List.mem_of_getElem? (i := 10) rfl)))) rfl (by decide +kernel) ⟨Nat.le_of_ble_eq_true rfl, Nat.le_of_ble_eq_true rfl⟩) ⟨pw_blind, pw_use hT hK hFc hS hM⟩ rfl rfl hl.1 rfl (lv_room (Nat.le_of_ble_eq_true rfl)) dX11_hand_95 ⟨Nat.le_of_ble_eq_true rfl, Nat.le_of_ble_eq_true rfl⟩) hS (fun q _ h => hFc q h) hFc (fun u0 t H locs ht hvm hw hB hz1 hk1 hS => ?_)
            refine W.widen (k := 1) (n := 3) (Nat.le_of_ble_eq_true rfl) (Nat.le_of_ble_eq_true rfl) ?_
            clear hvm hz1 hk1
            obtain ⟨y_42, hgy_42, hf_43, hf_44, hT⟩ := hB
            rw [ht] at hT
            have hKM := hKM.ag hMo hgy_42 (by decide)
            have : (y_42 (a 3) 2).toInt = (ym_34 (a 3) 2).toInt := by rw [hgy_42.at (fx_3 hX) (by decide)]
            have hI := hI.ag hgy_42 (by decide)
            have ha_45 : y_42 (a 20) = y (a 20) := (hgy_42.at (fx_20 hX) (by decide)).trans ha_35
            have ha_46 : y_42 (a 21) = y (a 21) := (hgy_42.at (fx_21 hX) (by decide)).trans ha_36
            have ha_47 : y_42 (a 24) = y (a 24) := (hgy_42.at (fx_24 hX) (by decide)).trans ha_37
            have ha_48 : y_42 (a 25) = y (a 25) := (hgy_42.at (fx_25 hX) (by decide)).trans ha_38
            have ha_49 : y_42 (a 27) = y (a 27) := (hgy_42.at (fx_27 hX) (by decide)).trans ha_39
            have hbd_50 : 0 ≤ u 1 ∧ u 1 < 8 := by omega
            refine tw_aast (r := (RX4, TX4, 3)) hx hb hK hT hF hS 3 (fx_10 hX) (by decide) (fun _ => cl_e20) rfl hk_40 (by decide) cl_e1 rfl (z_in hc_32 hbd_50.1 hbd_50.2) dX11_hand_98 (fun H locs hT hS => ?_)
            obtain ⟨g_51, hg_51, hT⟩ : ∃ z : Nat → Nat → Option Nat, z = upg gm_34 (a 10) (y (a 1) 3).toNatClampNeg (some q_33) ∧ tw (dC, dI) a k tm_34 lm_34 y_42 z H := ⟨_, rfl, hT⟩
            have hKM : kpM0 τ y g y_42 g_51 := by rw [hg_51]; exact hKM.upg hMo (fx_10 hX) (by decide)
            have hI : IC a u tm_34 lm_34 y_42 g_51 := by rw [hg_51]; exact hI.put10 hk_40
            have hent_52 : g_51 (a 10) (y (a 1) 3).toNatClampNeg = some q_33 := by rw [hg_51]; exact upg_i
            refine lv_aload_n hx hb dX11_hand_99 rfl (lv_at hl 2 rfl) ?_
            refine tw_get (D := (dC, dI)) (v := .ref (a 1)) (C := RX11) (T := TX11) (N := 10) hx hb hts (fun _ hh => (List.mem_cons_of_mem _ (List.mem_append_right _ (List.mem_append_right _ (List.mem_append_left _ hh))))) hown hK hT (fx_0 hX) (by decide) cl_e10 rfl 0 (by decide) (hts (.fieldLink RX11 10 "TypingPool" "book" "LTypingPool$Book;") (List.mem_cons_of_mem _ (List.mem_append_left _ (List.mem_of_getElem? (i := 4) rfl)))) (fun _ h9 => h9) rfl dX11_hand_100 ?_
            refine lv_dup hx hb dX11_hand_103 rfl ?_
            refine tw_get (D := (dC, dI)) (v := .int (y_42 (a 1) 3)) (C := RX1) (T := TX1) (N := 8) hx hb hts (fun _ hh => (List.mem_cons_of_mem _ (List.mem_append_right _ (List.mem_append_right _ (List.mem_append_right _ (List.mem_append_left _ hh)))))) hown hK hT (fx_1 hX) (by decide) cl_e11 rfl 3 (by decide) (hts (.fieldLink RX11 79 "TypingPool$Book" "handCount" "I") (List.mem_cons_of_mem _ (List.mem_append_left _ (List.mem_of_getElem? (i := 5) rfl)))) (fun _ h9 => h9) rfl dX11_hand_104 ?_
            have hc_53 := ic_1 hI
            refine lv_iconst (v := 1) hx hb dX11_hand_107 (by decide) ?_
            refine lv_iadd hx hb dX11_hand_108 ?_
            refine lv_topi (fun x_54 ex_54 => ?_)
            have hx_54 := z_add ex_54 hc_53 (zk (x := 1) 1 rfl) (by omega) (by omega)
            refine tw_put (D := (dC, dI)) (x := x_54) (ty := .int) (C := RX1) (T := TX1) (N := 8) hx hb hts (fun _ hh => (List.mem_cons_of_mem _ (List.mem_append_right _ (List.mem_append_right _ (List.mem_append_right _ (List.mem_append_left _ hh)))))) tyX1 tyX1_ok nmX1 hown hK hT hF hS (fx_1 hX) (by decide) cl_e11 rfl 3 (by decide) (hts (.fieldLink RX11 79 "TypingPool$Book" "handCount" "I") (List.mem_cons_of_mem _ (List.mem_append_left _ (List.mem_of_getElem? (i := 5) rfl)))) (fun _ h9 => h9) rfl (tyX1_ok 3 (by decide)) rfl rfl (Nat.le_of_ble_eq_true rfl) rfl dX11_hand_109 (fun H locs hT hS => ?_)
            obtain ⟨y_55, hy_55, hT⟩ : ∃ z : Nat → Nat → Int32, z = up2 y_42 (a 1) 3 x_54 ∧ tw (dC, dI) a k tm_34 lm_34 z g_51 H := ⟨_, rfl, hT⟩
            have hKM : kpM0 τ y g y_55 g_51 := by rw [hy_55]; exact hKM.up hMo (fx_1 hX) (by decide)
            have ha_56 : y_55 (a 20) = y (a 20) := (show y_55 (a 20) = y_42 (a 20) from by rw [hy_55]; exact up2_o (kd_ne (fx_20 hX) (fx_1 hX) (by decide))).trans ha_45
            have ha_57 : y_55 (a 21) = y (a 21) := (show y_55 (a 21) = y_42 (a 21) from by rw [hy_55]; exact up2_o (kd_ne (fx_21 hX) (fx_1 hX) (by decide))).trans ha_46
            have ha_58 : y_55 (a 24) = y (a 24) := (show y_55 (a 24) = y_42 (a 24) from by rw [hy_55]; exact up2_o (kd_ne (fx_24 hX) (fx_1 hX) (by decide))).trans ha_47
            have ha_59 : y_55 (a 25) = y (a 25) := (show y_55 (a 25) = y_42 (a 25) from by rw [hy_55]; exact up2_o (kd_ne (fx_25 hX) (fx_1 hX) (by decide))).trans ha_48
            have ha_60 : y_55 (a 27) = y (a 27) := (show y_55 (a 27) = y_42 (a 27) from by rw [hy_55]; exact up2_o (kd_ne (fx_27 hX) (fx_1 hX) (by decide))).trans ha_49
            have : (y_55 (a 3) 2).toInt = (y_42 (a 3) 2).toInt := by rw [hy_55, up2_o (kd_ne (fx_3 hX) (fx_1 hX) (by decide))]
            have hp_61 : x_54.toInt = x_54.toInt := rfl
            have hI := hI.cnt1 (by rw [hp_61]; first | done | omega) (by omega) (by rw [← z_nat hc_32]; exact hent_52) hk_40
            rw [← hy_55] at hI
            refine lv_aload_n hx hb dX11_hand_112 rfl (lv_at hl 2 rfl) ?_
            refine tw_get (D := (dC, dI)) (v := .ref (a 3)) (C := RX11) (T := TX11) (N := 10) hx hb hts (fun _ hh => (List.mem_cons_of_mem _ (List.mem_append_right _ (List.mem_append_right _ (List.mem_append_left _ hh))))) hown hK hT (fx_0 hX) (by decide) cl_e10 rfl 2 (by decide) (hts (.fieldLink RX11 28 "TypingPool" "floor" "LTypingPool$Floor;") (List.mem_cons_of_mem _ (List.mem_append_left _ (List.mem_of_getElem? (i := 12) rfl)))) (fun _ h9 => h9) rfl dX11_hand_113 ?_
            refine lv_iload hx hb dX11_hand_116 (lv_at hl 0 rfl) ?_
            refine lv_iload_n hx hb dX11_hand_118 rfl (lv_at hl 5 rfl) ?_
            have hFc := tw_free hF hS hA
            have hp_62 : (y (a 1) 3).toInt = u 1 := hc_32
            refine va_callv (va_runV (As := [.int (y (a 1) 3), .int p2]) (rest := []) ⟨hx, hb, hml, hown, hts⟩ (c_openHandF l dC dI ad av H.size a k tm_34 lm_34 y_55 g_51 (upc u 1 (u 1 + 1)) (y (a 1) 3) p2 hI (zl0 hc_32 hbd_50.1) (zlt hc_32 hbd_50.2)) (cwV 2 hts (gi_4 (List.mem_cons_of_mem _ (List.mem_append_left _ (List.mem_of_getElem? (i := 13) rfl))) (List.mem_cons_of_mem _ (List.mem_append_left _ (List.mem_of_getElem? (i := 14) rfl))) (List.mem_cons_of_mem _ (List.mem_append_left _ (List.mem_of_getElem? (i := 15) rfl))) (List.mem_cons_of_mem _ (List.mem_append_left _ (List.mem_of_getElem? (i := 16) rfl))) (fun _ hh => (List.mem_cons_of_mem _ (List.mem_append_right _ (List.mem_append_right _ (List.mem_append_right _ (List.mem_append_right _ (List.mem_append_right _ (List.mem_append_right _ (List.mem_append_left _ hh))))))))) gd_c_openHandF) rfl rfl rfl (by decide +kernel) ⟨Nat.le_of_ble_eq_true rfl, Nat.le_of_ble_eq_true rfl⟩) ⟨pw_blind, tw_recv hK hT (fx_3 hX) (by decide) cl_e13 rfl, pw_use hT hK hFc hS hM⟩ rfl rfl hl.1 rfl (lv_room (Nat.le_of_ble_eq_true rfl)) dX11_hand_119 ⟨Nat.le_of_ble_eq_true rfl, Nat.le_of_ble_eq_true rfl⟩) hS (fun q _ h => hFc q h) hFc (fun u0 t H locs ht hvm hw hB hz1 hk1 hS => ?_)
            refine W.widen (k := 1) (n := 3) (Nat.le_of_ble_eq_true rfl) (Nat.le_of_ble_eq_true rfl) ?_
            clear hvm hz1 hk1
            obtain ⟨y_64, hgy_64, hf_65, hf_66, hT⟩ := hB
            rw [ht] at hT
            have hKM := hKM.ag hMo hgy_64 (by decide)
            have : (y_64 (a 3) 2).toInt = (y_55 (a 3) 2).toInt := by rw [hgy_64.at (fx_3 hX) (by decide)]
            have hI := hI.ag hgy_64 (by decide)
            have ha_67 : y_64 (a 24) = y (a 24) := (hgy_64.at (fx_24 hX) (by decide)).trans ha_58
            have ha_68 : y_64 (a 25) = y (a 25) := (hgy_64.at (fx_25 hX) (by decide)).trans ha_59
            have ha_69 : y_64 (a 27) = y (a 27) := (hgy_64.at (fx_27 hX) (by decide)).trans ha_60
            refine lv_iload hx hb dX11_hand_122 (lv_at hl 0 rfl) ?_
            have hrv : (y (a 1) 3).toInt = u 1 := hc_32
            have hold : ∀ z, τ z = 1 → y_64 z = y z := fun z hz => by
              have hne : z ≠ q_33 := kd_ne hz hq0 (by decide)
              have ht1 : tm_34 z = 1 := by rw [htm_34, nwt_o hne]; exact hz
              rw [hgy_64 z (by rw [ht1]; decide), hy_55, up2_o (kd_ne ht1 (fx_1 hX) (by decide)), hf_44 z hne, hym_34, nwy_o hne]
            have hspd : 10 ≤ (y_64 q_33 0).toInt ∧ (y_64 q_33 0).toInt ≤ 200 := by rw [hgy_64 q_33 (by rw [hk_40]; decide), hy_55, up2_o (kd_ne hk_40 (fx_1 hX) (by decide)), hf_43]; omega
            have hold2 : ∀ z, τ z = 2 → y_64 z = y z := fun z hz => by
              have hne : z ≠ q_33 := kd_ne hz hq0 (by decide)
              have ht1 : tm_34 z = 2 := by rw [htm_34, nwt_o hne]; exact hz
              rw [hgy_64 z (by rw [ht1]; decide), hy_55, up2_o (kd_ne ht1 (fx_1 hX) (by decide)), hf_44 z hne, hym_34, nwy_o hne]
            have hgl2 : g_51 (a 11) = g (a 11) := by rw [hg_51, upg_o (kd_ne (fx_11 hX) (fx_10 hX) (by decide)), hgm_34, nwg_o (kd_ne (fx_11 hX0) hq0 (by decide))]
            have hSl : SLf a ((upc u 1 (u 1 + 1)) 2) g_51 y_64 (y (a 83)) := by rw [upc_o (by decide)]; exact hSl.gk hIz hgl2 hold2
            have hgl : g_51 (a 10) = va_up (g (a 10)) (y (a 1) 3).toNatClampNeg (some q_33) := by rw [hg_51, upg_q, hgm_34, nwg_o (kd_ne (fx_10 hX0) hq0 (by decide))]
            have hFL := fl_hand hFo.2.2.1 (h := (y (a 1) 3)) (x := (-1)) (r := (-1)) hc_32 (by omega) rfl (by rw [hf_65, ha_56]) (by rw [hf_66, ha_57]) ha_67 ha_68 ha_69
            have hFo : FLo a (upc u 1 (u 1 + 1)) g_51 y_64 := ⟨by rw [upc_o (by decide)]; omega, by rw [upc_o (by decide)]; exact hF8, hFL, spA_one hFo.2.2.2 hIz hc_32 (by omega) hgl hold hspd⟩
            exact W.iret (v := y (a 1) 3) hx hb hr (fun t ht hW9 => ⟨⟨y (a 1) 3, y (a 1) 3, rfl, rfl, Or.inr (⟨(upc u 1 (u 1 + 1)), (by intro i hi; simp only [List.mem_cons, List.not_mem_nil, or_false, not_or] at hi; unfold upc; repeat rw [if_neg (by omega)]), by omega, by omega, upc_i, ⟨tm_34, lm_34, y_64, g_51, hMo, hKM, hI, hFo, hSl, tw_at ht hT⟩⟩)⟩, hS.F ht⟩) hS.2.2 dX11_hand_124
          · have nc_31 := z_nlt hc_30 (zk (x := 8) 8 rfl) c_31
            refine lv_iconst (v := (-1)) hx hb dX11_hand_67 (by decide) ?_
            refine W.widen (k := 1) (n := 3) (Nat.le_of_ble_eq_true rfl) (Nat.le_of_ble_eq_true rfl) ?_
            have hrv : (-1 : Int32).toInt = (-1) := (zk (x := (-1)) (-1) rfl)
            exact W.iret (v := (-1)) hx hb hr (fun t ht hW9 => ⟨⟨(-1), (-1), rfl, rfl, Or.inl ⟨u, rfl, fun _ _ => rfl, by omega, ⟨τ, ln, y, g, hMo, hKM, hI, hFo, hSl, tw_at ht hT⟩⟩⟩, hS.F ht⟩) hS.2.2 dX11_hand_68
        · refine lq_top (v := 0) hre ?_
          rw [ht] at hT
          try simp only [hp_22, hp_23] at hf_27
          clear hp_22 hp_23
          refine lv_if_eq (tgt := 47) hx hb dX11_hand_40 (by decide) (fun c_70 => ?_) (fun c_70 => absurd c_70 (by decide))
          refine lv_iconst (v := 0) hx hb dX11_hand_47 (by decide) ?_
          refine lv_istore (lv' := [(5, .int 0), (0, .ref (a 0)), (1, .int p0), (2, .int p1), (3, .int p2), (4, .int p3)]) hx hb dX11_hand_48 hl (by decide) rfl (fun ls hl => ?_)
          refine lv_iload hx hb dX11_hand_50 (lv_at hl 0 rfl) ?_
          refine lv_if_eq (tgt := 67) hx hb dX11_hand_52 (by decide) (fun c_71 => ?_) (fun c_71 => absurd c_71 (by decide))
          refine lv_iconst (v := (-1)) hx hb dX11_hand_67 (by decide) ?_
          refine W.widen (k := 1) (n := 3) (Nat.le_of_ble_eq_true rfl) (Nat.le_of_ble_eq_true rfl) ?_
          have hrv : (-1 : Int32).toInt = (-1) := (zk (x := (-1)) (-1) rfl)
          exact W.iret (v := (-1)) hx hb hr (fun t ht hW9 => ⟨⟨(-1), (-1), rfl, rfl, Or.inl ⟨u, rfl, fun _ _ => rfl, by omega, ⟨τ, ln, y, g, hMo, hKM, hI, hFo, hSl, tw_at ht hT⟩⟩⟩, hS.F ht⟩) hS.2.2 dX11_hand_68
      · refine lq_top (v := 0) hre ?_
        rw [ht] at hT
        try simp only [hp_15, hp_16] at hf_20
        clear hp_15 hp_16
        refine lv_if_eq (tgt := 47) hx hb dX11_hand_30 (by decide) (fun c_72 => ?_) (fun c_72 => absurd c_72 (by decide))
        refine lv_iconst (v := 0) hx hb dX11_hand_47 (by decide) ?_
        refine lv_istore (lv' := [(5, .int 0), (0, .ref (a 0)), (1, .int p0), (2, .int p1), (3, .int p2), (4, .int p3)]) hx hb dX11_hand_48 hl (by decide) rfl (fun ls hl => ?_)
        refine lv_iload hx hb dX11_hand_50 (lv_at hl 0 rfl) ?_
        refine lv_if_eq (tgt := 67) hx hb dX11_hand_52 (by decide) (fun c_73 => ?_) (fun c_73 => absurd c_73 (by decide))
        refine lv_iconst (v := (-1)) hx hb dX11_hand_67 (by decide) ?_
        refine W.widen (k := 1) (n := 3) (Nat.le_of_ble_eq_true rfl) (Nat.le_of_ble_eq_true rfl) ?_
        have hrv : (-1 : Int32).toInt = (-1) := (zk (x := (-1)) (-1) rfl)
        exact W.iret (v := (-1)) hx hb hr (fun t ht hW9 => ⟨⟨(-1), (-1), rfl, rfl, Or.inl ⟨u, rfl, fun _ _ => rfl, by omega, ⟨τ, ln, y, g, hMo, hKM, hI, hFo, hSl, tw_at ht hT⟩⟩⟩, hS.F ht⟩) hS.2.2 dX11_hand_68
    · refine lq_top (v := 0) hre ?_
      rw [ht] at hT
      try simp only [hp_8, hp_9] at hf_13
      clear hp_8 hp_9
      refine lv_if_eq (tgt := 47) hx hb dX11_hand_20 (by decide) (fun c_74 => ?_) (fun c_74 => absurd c_74 (by decide))
      refine lv_iconst (v := 0) hx hb dX11_hand_47 (by decide) ?_
      refine lv_istore (lv' := [(5, .int 0), (0, .ref (a 0)), (1, .int p0), (2, .int p1), (3, .int p2), (4, .int p3)]) hx hb dX11_hand_48 hl (by decide) rfl (fun ls hl => ?_)
      refine lv_iload hx hb dX11_hand_50 (lv_at hl 0 rfl) ?_
      refine lv_if_eq (tgt := 67) hx hb dX11_hand_52 (by decide) (fun c_75 => ?_) (fun c_75 => absurd c_75 (by decide))
      refine lv_iconst (v := (-1)) hx hb dX11_hand_67 (by decide) ?_
      refine W.widen (k := 1) (n := 3) (Nat.le_of_ble_eq_true rfl) (Nat.le_of_ble_eq_true rfl) ?_
      have hrv : (-1 : Int32).toInt = (-1) := (zk (x := (-1)) (-1) rfl)
      exact W.iret (v := (-1)) hx hb hr (fun t ht hW9 => ⟨⟨(-1), (-1), rfl, rfl, Or.inl ⟨u, rfl, fun _ _ => rfl, by omega, ⟨τ, ln, y, g, hMo, hKM, hI, hFo, hSl, tw_at ht hT⟩⟩⟩, hS.F ht⟩) hS.2.2 dX11_hand_68
  · refine lq_top (v := 0) hre ?_
    rw [ht] at hT
    try simp only [hp_1, hp_2] at hf_6
    clear hp_1 hp_2
    refine lv_if_eq (tgt := 47) hx hb dX11_hand_9 (by decide) (fun c_76 => ?_) (fun c_76 => absurd c_76 (by decide))
    refine lv_iconst (v := 0) hx hb dX11_hand_47 (by decide) ?_
    refine lv_istore (lv' := [(5, .int 0), (0, .ref (a 0)), (1, .int p0), (2, .int p1), (3, .int p2), (4, .int p3)]) hx hb dX11_hand_48 hl (by decide) rfl (fun ls hl => ?_)
    refine lv_iload hx hb dX11_hand_50 (lv_at hl 0 rfl) ?_
    refine lv_if_eq (tgt := 67) hx hb dX11_hand_52 (by decide) (fun c_77 => ?_) (fun c_77 => absurd c_77 (by decide))
    refine lv_iconst (v := (-1)) hx hb dX11_hand_67 (by decide) ?_
    refine W.widen (k := 1) (n := 3) (Nat.le_of_ble_eq_true rfl) (Nat.le_of_ble_eq_true rfl) ?_
    have hrv : (-1 : Int32).toInt = (-1) := (zk (x := (-1)) (-1) rfl)
    exact W.iret (v := (-1)) hx hb hr (fun t ht hW9 => ⟨⟨(-1), (-1), rfl, rfl, Or.inl ⟨u, rfl, fun _ _ => rfl, by omega, ⟨τ, ln, y, g, hMo, hKM, hI, hFo, hSl, tw_at ht hT⟩⟩⟩, hS.F ht⟩) hS.2.2 dX11_hand_68
def wo_c_pieceF : List Cond := [.methodLink RX11 68 yX11_within, .static yX11_within, .initialized RX11, .fieldLink RX11 28 "TypingPool" "floor" "LTypingPool$Floor;", .fieldLink RX11 99 "TypingPool$Floor" "now" "I", .constant RX11 78 (65535), .fieldLink RX11 10 "TypingPool" "book" "LTypingPool$Book;", .fieldLink RX11 112 "TypingPool$Book" "pieceCount" "I", .classLink RX11 115 RX6, .instantiable RX6 11, .initialized RX6, .instanceMethod yX6_init, .fieldLink RX11 118 "TypingPool$Piece" "department" "I", .fieldLink RX11 121 "TypingPool$Piece" "style" "I", .fieldLink RX11 124 "TypingPool$Piece" "lines" "I", .fieldLink RX11 127 "TypingPool$Piece" "secret" "I", .fieldLink RX11 130 "TypingPool$Piece" "claim" "I", .fieldLink RX11 133 "TypingPool$Piece" "comes" "I", .fieldLink RX11 136 "TypingPool$Piece" "due" "I", .fieldLink RX11 139 "TypingPool$Piece" "words" "I", .fieldLink RX11 142 "TypingPool$Piece" "copies" "I", .fieldLink RX11 145 "TypingPool$Book" "pieces" "[LTypingPool$Piece;", .methodLink RX11 149 yX6_allWork, .instanceMethod yX6_allWork, .selects RX6 yX6_allWork yX6_allWork, .methodLink RX11 153 yX3_openPiece, .instanceMethod yX3_openPiece, .selects RX3 yX3_openPiece yX3_openPiece, .initialized RX3]
def wm_c_pieceF : List Cond := .code yX11_piece cX11_piece 13 (some .int) :: (wo_c_pieceF ++ (wm_c_within ++ (wsX110 ++ (wsX30 ++ (wsX10 ++ (wsX60 ++ (wm_c_Piece_init ++ (wm_c_allWorkF ++ (wm_c_openPieceF ++ ([] : List Cond))))))))))
theorem gd_c_pieceF : ∀ w ∈ wm_c_pieceF, goodWord w = true := gd_c rfl (gd_a (by decide) (gd_a gd_c_within (gd_a gd_wsX110 (gd_a gd_wsX30 (gd_a gd_wsX10 (gd_a gd_wsX60 (gd_a gd_c_Piece_init (gd_a gd_c_allWorkF (gd_a gd_c_openPieceF gd_nil)))))))))
set_option maxRecDepth 20000 in
theorem im_c_pieceF : ∀ w ∈ wm_c_pieceF, w ∈ lw_tbl := im_c (in_r [.code yX11_piece cX11_piece 13 (some .int)] [659] (by decide +kernel)) (in_app (in_r wo_c_pieceF [594, 595, 70, 561, 429, 601, 559, 133, 660, 661, 89, 663, 666, 668, 671, 674, 677, 679, 682, 686, 690, 127, 719, 720, 721, 723, 724, 725, 83] (by decide +kernel)) (in_app im_c_within (in_app im_wsX110 (in_app im_wsX30 (in_app im_wsX10 (in_app im_wsX60 (in_app im_c_Piece_init (in_app im_c_allWorkF (in_app im_c_openPieceF im_nil)))))))))
set_option maxHeartbeats 4000000 in
set_option maxRecDepth 100000 in
theorem c_pieceF (l : Launch) (dC : Nat → ClassId) (dI : Nat → Nat → Nat) (ad av : Nat → Nat) (sz : Nat) (a : Nat → Nat) (k : Nat → ClassId) (τ ln : Nat → Nat) (y : Nat → Nat → Int32) (g : Nat → Nat → Option Nat) (u : Nat → Int) (p0 : Int32) (p1 : Int32) (p2 : Int32) (p3 : Int32) (p4 : Int32) (p5 : Int32) (p6 : Int32) (p7 : Int32) (p8 : Int32) (hI : IC a u τ ln y g) (hFo : FLo a u g y) (hSl : SLf a (u 2) g y (y (a 83))) : Met l yX11_piece wm_c_pieceF ({ frames := 3, cells := 1, slots := 11, locals := 140 }) (pw_ ad av (dC, dI) sz [.ref (a 0), .int p0, .int p1, .int p2, .int p3, .int p4, .int p5, .int p6, .int p7, .int p8] a k τ ln y g) (va_Qi (fun (r u : Int32) => u = r) (fun (r : Int32) (t : State) => (∃ (u' : Nat → Int), r = (-1) ∧ (∀ i, i ∉ ([] : List Nat) → u' i = u i) ∧ (¬ (0 ≤ p0.toInt ∧ p0.toInt ≤ 7 ∧ 0 ≤ p1.toInt ∧ p1.toInt ≤ 7 ∧ 1 ≤ p2.toInt ∧ p2.toInt ≤ 400 ∧ 0 ≤ p3.toInt ∧ p3.toInt ≤ 3 ∧ 0 ≤ p4.toInt ∧ p4.toInt ≤ 9 ∧ u 9 ≤ p5.toInt ∧ p5.toInt ≤ 4800 ∧ p5.toInt ≤ p6.toInt ∧ p6.toInt ≤ 4800 ∧ 0 ≤ p7.toInt ∧ p7.toInt ≤ 65535 ∧ 0 ≤ p8.toInt ∧ p8.toInt ≤ 6 ∧ u 2 < 30)) ∧ pq0 (dC, dI) a k τ y g u' (y (a 83)) sz t.heap) ∨ (∃ (u' : Nat → Int), (∀ i, i ∉ ([2] : List Nat) → u' i = u i) ∧ ((0 ≤ p0.toInt ∧ p0.toInt ≤ 7 ∧ 0 ≤ p1.toInt ∧ p1.toInt ≤ 7 ∧ 1 ≤ p2.toInt ∧ p2.toInt ≤ 400 ∧ 0 ≤ p3.toInt ∧ p3.toInt ≤ 3 ∧ 0 ≤ p4.toInt ∧ p4.toInt ≤ 9 ∧ u 9 ≤ p5.toInt ∧ p5.toInt ≤ 4800 ∧ p5.toInt ≤ p6.toInt ∧ p6.toInt ≤ 4800 ∧ 0 ≤ p7.toInt ∧ p7.toInt ≤ 65535 ∧ 0 ≤ p8.toInt ∧ p8.toInt ≤ 6 ∧ u 2 < 30)) ∧ r.toInt = u 2 ∧ u' 2 = u 2 + 1 ∧ pq0 (dC, dI) a k τ y g u' (y (a 83)) sz t.heap)) (fr τ sz)) 1 11 (fr τ sz) := by
  refine Met.ofW (cc := cX11_piece) (maxL := 13) (ret := (some .int)) (by decide) rfl ?_
  intro p e s m args below meth c s₁ B hml hv
  obtain ⟨rfl, hsz, hT, hK, hM⟩ := hv
  have hx := B.exec
  have hb := B.bytes
  have hr := B.returns
  have hts := atoms_spec (ws := wm_c_pieceF) B.pre
  have hown : s.vm.findClass RX11 = some m.cls := findClass_of_methodNamed B.named
  have hlocks := B.notSynchronized
  subst hsz
  generalize hAe : fr τ s.heap.size = A at hM ⊢
  have hA : ∀ q : Nat, s.heap.size ≤ q → A q := fun q h => by rw [← hAe]; exact Or.inr h
  have hF : ∀ q, τ q ≠ 0 → A q := fun q h => by rw [← hAe]; exact Or.inl h
  have hS : va_S A s.heap s.heap [] := va_S.rf
  have hX := hI.1
  have hR := ic_r hI
  have hMo : mono τ τ s.heap.size := mono.rf
  have hKM : kpM0 τ y g y g := kpM0.rf
  have hl := lv_entry ([.ref (a 0), .int p0, .int p1, .int p2, .int p3, .int p4, .int p5, .int p6, .int p7, .int p8]) (n := 13) (Nat.le_of_ble_eq_true rfl)
  rw [lg_entry_eq]
  generalize (lg_sl ([.ref (a 0), .int p0, .int p1, .int p2, .int p3, .int p4, .int p5, .int p6, .int p7, .int p8]) ++ List.replicate (13 - (lg_sl ([.ref (a 0), .int p0, .int p1, .int p2, .int p3, .int p4, .int p5, .int p6, .int p7, .int p8])).length) Slot.unset).toArray = ls at hl ⊢
  have hl : lv_has ls 13 [(0, .ref (a 0)), (1, .int p0), (2, .int p1), (3, .int p2), (4, .int p3), (5, .int p4), (6, .int p5), (7, .int p6), (8, .int p7), (9, .int p8)] := hl
  have hF9 := hFo.1
  have hF8 := hFo.2.1
  have hX0 := hX
  have hIz := hI
  refine lv_iload_n hx hb dX11_piece_0 rfl (lv_at hl 1 rfl) ?_
  refine lv_iconst (v := 0) hx hb dX11_piece_1 (by decide) ?_
  refine lv_bipush (v := 7) hx hb dX11_piece_2 (by decide) ?_
  have hFc := tw_free hF hS hA
  have hp_1 : (0 : Int32).toInt = 0 := (zk (x := 0) 0 rfl)
  have hp_2 : (7 : Int32).toInt = 7 := (zk (x := 7) 7 rfl)
  refine va_calli (va_runS (As := [.int p0, .int 0, .int 7]) (rest := []) ⟨hx, hb, hml, hown, hts⟩ (c_within l dC dI ad av s.heap.size a k τ ln y g u p0 (0 : Int32) (7 : Int32)  ) (va_cwS 3 hts (gi_3 (List.mem_cons_of_mem _ (List.mem_append_left _ (List.mem_of_getElem? (i := 0) rfl))) (List.mem_cons_of_mem _ (List.mem_append_left _ (List.mem_of_getElem? (i := 1) rfl))) (List.mem_cons_of_mem _ (List.mem_append_left _ (List.mem_of_getElem? (i := 2) rfl))) (fun _ hh => (List.mem_cons_of_mem _ (List.mem_append_right _ (List.mem_append_left _ hh)))) gd_c_within) rfl rfl rfl (by decide +kernel) ⟨Nat.le_of_ble_eq_true rfl, Nat.le_of_ble_eq_true rfl⟩) ⟨pw_blind, pw_use hT hK hFc hS hM⟩ rfl rfl hl.1 rfl (lv_room (Nat.le_of_ble_eq_true rfl)) dX11_piece_4 ⟨Nat.le_of_ble_eq_true rfl, Nat.le_of_ble_eq_true rfl⟩) hS (fun q _ h => hFc q h) hFc (fun r0 r_3 t H locs ht hvm hw hB hz1 hk1 hS => ?_)
  refine W.widen (k := 0) (n := 0) (Nat.le_of_ble_eq_true rfl) (Nat.le_of_ble_eq_true rfl) ?_
  clear hvm hz1 hk1
  subst hw
  rcases hB with ⟨hre, hf_4, hf_5, hT⟩ | ⟨hre, hf_6, hT⟩
  · refine lq_top (v := 1) hre ?_
    rw [ht] at hT
    try simp only [hp_1, hp_2] at hf_4 hf_5
    clear hp_1 hp_2
    refine lv_if_eq (tgt := 109) hx hb dX11_piece_7 (by decide) (fun c_7 => absurd c_7 (by decide)) (fun c_7 => ?_)
    refine lv_iload_n hx hb dX11_piece_10 rfl (lv_at hl 2 rfl) ?_
    refine lv_iconst (v := 0) hx hb dX11_piece_11 (by decide) ?_
    refine lv_bipush (v := 7) hx hb dX11_piece_12 (by decide) ?_
    have hFc := tw_free hF hS hA
    have hp_8 : (0 : Int32).toInt = 0 := (zk (x := 0) 0 rfl)
    have hp_9 : (7 : Int32).toInt = 7 := (zk (x := 7) 7 rfl)
    refine va_calli (va_runS (As := [.int p1, .int 0, .int 7]) (rest := []) ⟨hx, hb, hml, hown, hts⟩ (c_within l dC dI ad av H.size a k τ ln y g u p1 (0 : Int32) (7 : Int32)  ) (va_cwS 3 hts (gi_3 (List.mem_cons_of_mem _ (List.mem_append_left _ (List.mem_of_getElem? (i := 0) rfl))) (List.mem_cons_of_mem _ (List.mem_append_left _ (List.mem_of_getElem? (i := 1) rfl))) (List.mem_cons_of_mem _ (List.mem_append_left _ (List.mem_of_getElem? (i := 2) rfl))) (fun _ hh => (List.mem_cons_of_mem _ (List.mem_append_right _ (List.mem_append_left _ hh)))) gd_c_within) rfl rfl rfl (by decide +kernel) ⟨Nat.le_of_ble_eq_true rfl, Nat.le_of_ble_eq_true rfl⟩) ⟨pw_blind, pw_use hT hK hFc hS hM⟩ rfl rfl hl.1 rfl (lv_room (Nat.le_of_ble_eq_true rfl)) dX11_piece_14 ⟨Nat.le_of_ble_eq_true rfl, Nat.le_of_ble_eq_true rfl⟩) hS (fun q _ h => hFc q h) hFc (fun r0 r_10 t H locs ht hvm hw hB hz1 hk1 hS => ?_)
    refine W.widen (k := 0) (n := 0) (Nat.le_of_ble_eq_true rfl) (Nat.le_of_ble_eq_true rfl) ?_
    clear hvm hz1 hk1
    subst hw
    rcases hB with ⟨hre, hf_11, hf_12, hT⟩ | ⟨hre, hf_13, hT⟩
    · refine lq_top (v := 1) hre ?_
      rw [ht] at hT
      try simp only [hp_8, hp_9] at hf_11 hf_12
      clear hp_8 hp_9
      refine lv_if_eq (tgt := 109) hx hb dX11_piece_17 (by decide) (fun c_14 => absurd c_14 (by decide)) (fun c_14 => ?_)
      refine lv_iload_n hx hb dX11_piece_20 rfl (lv_at hl 3 rfl) ?_
      refine lv_iconst (v := 1) hx hb dX11_piece_21 (by decide) ?_
      refine lv_sipush (v := 400) hx hb dX11_piece_22 (by decide) ?_
      have hFc := tw_free hF hS hA
      have hp_15 : (1 : Int32).toInt = 1 := (zk (x := 1) 1 rfl)
      have hp_16 : (400 : Int32).toInt = 400 := (zk (x := 400) 400 rfl)
      refine va_calli (va_runS (As := [.int p2, .int 1, .int 400]) (rest := []) ⟨hx, hb, hml, hown, hts⟩ (c_within l dC dI ad av H.size a k τ ln y g u p2 (1 : Int32) (400 : Int32)  ) (va_cwS 3 hts (gi_3 (List.mem_cons_of_mem _ (List.mem_append_left _ (List.mem_of_getElem? (i := 0) rfl))) (List.mem_cons_of_mem _ (List.mem_append_left _ (List.mem_of_getElem? (i := 1) rfl))) (List.mem_cons_of_mem _ (List.mem_append_left _ (List.mem_of_getElem? (i := 2) rfl))) (fun _ hh => (List.mem_cons_of_mem _ (List.mem_append_right _ (List.mem_append_left _ hh)))) gd_c_within) rfl rfl rfl (by decide +kernel) ⟨Nat.le_of_ble_eq_true rfl, Nat.le_of_ble_eq_true rfl⟩) ⟨pw_blind, pw_use hT hK hFc hS hM⟩ rfl rfl hl.1 rfl (lv_room (Nat.le_of_ble_eq_true rfl)) dX11_piece_25 ⟨Nat.le_of_ble_eq_true rfl, Nat.le_of_ble_eq_true rfl⟩) hS (fun q _ h => hFc q h) hFc (fun r0 r_17 t H locs ht hvm hw hB hz1 hk1 hS => ?_)
      refine W.widen (k := 0) (n := 0) (Nat.le_of_ble_eq_true rfl) (Nat.le_of_ble_eq_true rfl) ?_
      clear hvm hz1 hk1
      subst hw
      rcases hB with ⟨hre, hf_18, hf_19, hT⟩ | ⟨hre, hf_20, hT⟩
      · refine lq_top (v := 1) hre ?_
        rw [ht] at hT
        try simp only [hp_15, hp_16] at hf_18 hf_19
        clear hp_15 hp_16
        refine lv_if_eq (tgt := 109) hx hb dX11_piece_28 (by decide) (fun c_21 => absurd c_21 (by decide)) (fun c_21 => ?_)
        refine lv_iload hx hb dX11_piece_31 (lv_at hl 4 rfl) ?_
        refine lv_iconst (v := 0) hx hb dX11_piece_33 (by decide) ?_
        refine lv_iconst (v := 3) hx hb dX11_piece_34 (by decide) ?_
        have hFc := tw_free hF hS hA
        have hp_22 : (0 : Int32).toInt = 0 := (zk (x := 0) 0 rfl)
        have hp_23 : (3 : Int32).toInt = 3 := (zk (x := 3) 3 rfl)
        refine va_calli (va_runS (As := [.int p3, .int 0, .int 3]) (rest := []) ⟨hx, hb, hml, hown, hts⟩ (c_within l dC dI ad av H.size a k τ ln y g u p3 (0 : Int32) (3 : Int32)  ) (va_cwS 3 hts (gi_3 (List.mem_cons_of_mem _ (List.mem_append_left _ (List.mem_of_getElem? (i := 0) rfl))) (List.mem_cons_of_mem _ (List.mem_append_left _ (List.mem_of_getElem? (i := 1) rfl))) (List.mem_cons_of_mem _ (List.mem_append_left _ (List.mem_of_getElem? (i := 2) rfl))) (fun _ hh => (List.mem_cons_of_mem _ (List.mem_append_right _ (List.mem_append_left _ hh)))) gd_c_within) rfl rfl rfl (by decide +kernel) ⟨Nat.le_of_ble_eq_true rfl, Nat.le_of_ble_eq_true rfl⟩) ⟨pw_blind, pw_use hT hK hFc hS hM⟩ rfl rfl hl.1 rfl (lv_room (Nat.le_of_ble_eq_true rfl)) dX11_piece_35 ⟨Nat.le_of_ble_eq_true rfl, Nat.le_of_ble_eq_true rfl⟩) hS (fun q _ h => hFc q h) hFc (fun r0 r_24 t H locs ht hvm hw hB hz1 hk1 hS => ?_)
        refine W.widen (k := 0) (n := 0) (Nat.le_of_ble_eq_true rfl) (Nat.le_of_ble_eq_true rfl) ?_
        clear hvm hz1 hk1
        subst hw
        rcases hB with ⟨hre, hf_25, hf_26, hT⟩ | ⟨hre, hf_27, hT⟩
        · refine lq_top (v := 1) hre ?_
          rw [ht] at hT
          try simp only [hp_22, hp_23] at hf_25 hf_26
          clear hp_22 hp_23
          refine lv_if_eq (tgt := 109) hx hb dX11_piece_38 (by decide) (fun c_28 => absurd c_28 (by decide)) (fun c_28 => ?_)
          refine lv_iload hx hb dX11_piece_41 (lv_at hl 5 rfl) ?_
          refine lv_iconst (v := 0) hx hb dX11_piece_43 (by decide) ?_
          refine lv_bipush (v := 9) hx hb dX11_piece_44 (by decide) ?_
          have hFc := tw_free hF hS hA
          have hp_29 : (0 : Int32).toInt = 0 := (zk (x := 0) 0 rfl)
          have hp_30 : (9 : Int32).toInt = 9 := (zk (x := 9) 9 rfl)
          refine va_calli (va_runS (As := [.int p4, .int 0, .int 9]) (rest := []) ⟨hx, hb, hml, hown, hts⟩ (c_within l dC dI ad av H.size a k τ ln y g u p4 (0 : Int32) (9 : Int32)  ) (va_cwS 3 hts (gi_3 (List.mem_cons_of_mem _ (List.mem_append_left _ (List.mem_of_getElem? (i := 0) rfl))) (List.mem_cons_of_mem _ (List.mem_append_left _ (List.mem_of_getElem? (i := 1) rfl))) (List.mem_cons_of_mem _ (List.mem_append_left _ (List.mem_of_getElem? (i := 2) rfl))) (fun _ hh => (List.mem_cons_of_mem _ (List.mem_append_right _ (List.mem_append_left _ hh)))) gd_c_within) rfl rfl rfl (by decide +kernel) ⟨Nat.le_of_ble_eq_true rfl, Nat.le_of_ble_eq_true rfl⟩) ⟨pw_blind, pw_use hT hK hFc hS hM⟩ rfl rfl hl.1 rfl (lv_room (Nat.le_of_ble_eq_true rfl)) dX11_piece_46 ⟨Nat.le_of_ble_eq_true rfl, Nat.le_of_ble_eq_true rfl⟩) hS (fun q _ h => hFc q h) hFc (fun r0 r_31 t H locs ht hvm hw hB hz1 hk1 hS => ?_)
          refine W.widen (k := 0) (n := 0) (Nat.le_of_ble_eq_true rfl) (Nat.le_of_ble_eq_true rfl) ?_
          clear hvm hz1 hk1
          subst hw
          rcases hB with ⟨hre, hf_32, hf_33, hT⟩ | ⟨hre, hf_34, hT⟩
          · refine lq_top (v := 1) hre ?_
            rw [ht] at hT
            try simp only [hp_29, hp_30] at hf_32 hf_33
            clear hp_29 hp_30
            refine lv_if_eq (tgt := 109) hx hb dX11_piece_49 (by decide) (fun c_35 => absurd c_35 (by decide)) (fun c_35 => ?_)
            refine lv_iload hx hb dX11_piece_52 (lv_at hl 6 rfl) ?_
            refine lv_aload_n hx hb dX11_piece_54 rfl (lv_at hl 0 rfl) ?_
            refine tw_get (D := (dC, dI)) (v := .ref (a 3)) (C := RX11) (T := TX11) (N := 10) hx hb hts (fun _ hh => (List.mem_cons_of_mem _ (List.mem_append_right _ (List.mem_append_right _ (List.mem_append_left _ hh))))) hown hK hT (fx_0 hX) (by decide) cl_e10 rfl 2 (by decide) (hts (.fieldLink RX11 28 "TypingPool" "floor" "LTypingPool$Floor;") (List.mem_cons_of_mem _ (List.mem_append_left _ (List.mem_of_getElem? (i := 3) rfl)))) (fun _ h9 => h9) rfl dX11_piece_55 ?_
            refine tw_get (D := (dC, dI)) (v := .int (y (a 3) 2)) (C := RX3) (T := TX3) (N := 12) hx hb hts (fun _ hh => (List.mem_cons_of_mem _ (List.mem_append_right _ (List.mem_append_right _ (List.mem_append_right _ (List.mem_append_left _ hh)))))) hown hK hT (fx_3 hX) (by decide) cl_e13 rfl 2 (by decide) (hts (.fieldLink RX11 99 "TypingPool$Floor" "now" "I") (List.mem_cons_of_mem _ (List.mem_append_left _ (List.mem_of_getElem? (i := 4) rfl)))) (fun _ h9 => h9) rfl dX11_piece_58 ?_
            refine lv_sipush (v := 4800) hx hb dX11_piece_61 (by decide) ?_
            have hFc := tw_free hF hS hA
            have hp_36 : (4800 : Int32).toInt = 4800 := (zk (x := 4800) 4800 rfl)
            refine va_calli (va_runS (As := [.int p5, .int (y (a 3) 2), .int 4800]) (rest := []) ⟨hx, hb, hml, hown, hts⟩ (c_within l dC dI ad av H.size a k τ ln y g u p5 (y (a 3) 2) (4800 : Int32)  ) (va_cwS 3 hts (gi_3 (List.mem_cons_of_mem _ (List.mem_append_left _ (List.mem_of_getElem? (i := 0) rfl))) (List.mem_cons_of_mem _ (List.mem_append_left _ (List.mem_of_getElem? (i := 1) rfl))) (List.mem_cons_of_mem _ (List.mem_append_left _ (List.mem_of_getElem? (i := 2) rfl))) (fun _ hh => (List.mem_cons_of_mem _ (List.mem_append_right _ (List.mem_append_left _ hh)))) gd_c_within) rfl rfl rfl (by decide +kernel) ⟨Nat.le_of_ble_eq_true rfl, Nat.le_of_ble_eq_true rfl⟩) ⟨pw_blind, pw_use hT hK hFc hS hM⟩ rfl rfl hl.1 rfl (lv_room (Nat.le_of_ble_eq_true rfl)) dX11_piece_64 ⟨Nat.le_of_ble_eq_true rfl, Nat.le_of_ble_eq_true rfl⟩) hS (fun q _ h => hFc q h) hFc (fun r0 r_37 t H locs ht hvm hw hB hz1 hk1 hS => ?_)
            refine W.widen (k := 0) (n := 0) (Nat.le_of_ble_eq_true rfl) (Nat.le_of_ble_eq_true rfl) ?_
            clear hvm hz1 hk1
            subst hw
            rcases hB with ⟨hre, hf_38, hf_39, hT⟩ | ⟨hre, hf_40, hT⟩
            · refine lq_top (v := 1) hre ?_
              rw [ht] at hT
              try simp only [hp_36] at hf_38 hf_39
              clear hp_36
              refine lv_if_eq (tgt := 109) hx hb dX11_piece_67 (by decide) (fun c_41 => absurd c_41 (by decide)) (fun c_41 => ?_)
              refine lv_iload hx hb dX11_piece_70 (lv_at hl 7 rfl) ?_
              refine lv_iload hx hb dX11_piece_72 (lv_at hl 6 rfl) ?_
              refine lv_sipush (v := 4800) hx hb dX11_piece_74 (by decide) ?_
              have hFc := tw_free hF hS hA
              have hp_42 : (4800 : Int32).toInt = 4800 := (zk (x := 4800) 4800 rfl)
              refine va_calli (va_runS (As := [.int p6, .int p5, .int 4800]) (rest := []) ⟨hx, hb, hml, hown, hts⟩ (c_within l dC dI ad av H.size a k τ ln y g u p6 p5 (4800 : Int32)  ) (va_cwS 3 hts (gi_3 (List.mem_cons_of_mem _ (List.mem_append_left _ (List.mem_of_getElem? (i := 0) rfl))) (List.mem_cons_of_mem _ (List.mem_append_left _ (List.mem_of_getElem? (i := 1) rfl))) (List.mem_cons_of_mem _ (List.mem_append_left _ (List.mem_of_getElem? (i := 2) rfl))) (fun _ hh => (List.mem_cons_of_mem _ (List.mem_append_right _ (List.mem_append_left _ hh)))) gd_c_within) rfl rfl rfl (by decide +kernel) ⟨Nat.le_of_ble_eq_true rfl, Nat.le_of_ble_eq_true rfl⟩) ⟨pw_blind, pw_use hT hK hFc hS hM⟩ rfl rfl hl.1 rfl (lv_room (Nat.le_of_ble_eq_true rfl)) dX11_piece_77 ⟨Nat.le_of_ble_eq_true rfl, Nat.le_of_ble_eq_true rfl⟩) hS (fun q _ h => hFc q h) hFc (fun r0 r_43 t H locs ht hvm hw hB hz1 hk1 hS => ?_)
              refine W.widen (k := 0) (n := 0) (Nat.le_of_ble_eq_true rfl) (Nat.le_of_ble_eq_true rfl) ?_
              clear hvm hz1 hk1
              subst hw
              rcases hB with ⟨hre, hf_44, hf_45, hT⟩ | ⟨hre, hf_46, hT⟩
              · refine lq_top (v := 1) hre ?_
                rw [ht] at hT
                try simp only [hp_42] at hf_44 hf_45
                clear hp_42
                refine lv_if_eq (tgt := 109) hx hb dX11_piece_80 (by decide) (fun c_47 => absurd c_47 (by decide)) (fun c_47 => ?_)
                refine lv_iload hx hb dX11_piece_83 (lv_at hl 8 rfl) ?_
                refine lv_iconst (v := 0) hx hb dX11_piece_85 (by decide) ?_
                refine lv_ldc hx hb hown (hts (.constant RX11 78 (65535)) (List.mem_cons_of_mem _ (List.mem_append_left _ (List.mem_of_getElem? (i := 5) rfl)))) dX11_piece_86 ?_
                have hFc := tw_free hF hS hA
                have hp_48 : (0 : Int32).toInt = 0 := (zk (x := 0) 0 rfl)
                have hp_49 : (65535 : Int32).toInt = 65535 := (zk (x := 65535) 65535 rfl)
                refine va_calli (va_runS (As := [.int p7, .int 0, .int 65535]) (rest := []) ⟨hx, hb, hml, hown, hts⟩ (c_within l dC dI ad av H.size a k τ ln y g u p7 (0 : Int32) (65535 : Int32)  ) (va_cwS 3 hts (gi_3 (List.mem_cons_of_mem _ (List.mem_append_left _ (List.mem_of_getElem? (i := 0) rfl))) (List.mem_cons_of_mem _ (List.mem_append_left _ (List.mem_of_getElem? (i := 1) rfl))) (List.mem_cons_of_mem _ (List.mem_append_left _ (List.mem_of_getElem? (i := 2) rfl))) (fun _ hh => (List.mem_cons_of_mem _ (List.mem_append_right _ (List.mem_append_left _ hh)))) gd_c_within) rfl rfl rfl (by decide +kernel) ⟨Nat.le_of_ble_eq_true rfl, Nat.le_of_ble_eq_true rfl⟩) ⟨pw_blind, pw_use hT hK hFc hS hM⟩ rfl rfl hl.1 rfl (lv_room (Nat.le_of_ble_eq_true rfl)) dX11_piece_88 ⟨Nat.le_of_ble_eq_true rfl, Nat.le_of_ble_eq_true rfl⟩) hS (fun q _ h => hFc q h) hFc (fun r0 r_50 t H locs ht hvm hw hB hz1 hk1 hS => ?_)
                refine W.widen (k := 0) (n := 0) (Nat.le_of_ble_eq_true rfl) (Nat.le_of_ble_eq_true rfl) ?_
                clear hvm hz1 hk1
                subst hw
                rcases hB with ⟨hre, hf_51, hf_52, hT⟩ | ⟨hre, hf_53, hT⟩
                · refine lq_top (v := 1) hre ?_
                  rw [ht] at hT
                  try simp only [hp_48, hp_49] at hf_51 hf_52
                  clear hp_48 hp_49
                  refine lv_if_eq (tgt := 109) hx hb dX11_piece_91 (by decide) (fun c_54 => absurd c_54 (by decide)) (fun c_54 => ?_)
                  refine lv_iload hx hb dX11_piece_94 (lv_at hl 9 rfl) ?_
                  refine lv_iconst (v := 0) hx hb dX11_piece_96 (by decide) ?_
                  refine lv_bipush (v := 6) hx hb dX11_piece_97 (by decide) ?_
                  have hFc := tw_free hF hS hA
                  have hp_55 : (0 : Int32).toInt = 0 := (zk (x := 0) 0 rfl)
                  have hp_56 : (6 : Int32).toInt = 6 := (zk (x := 6) 6 rfl)
                  refine va_calli (va_runS (As := [.int p8, .int 0, .int 6]) (rest := []) ⟨hx, hb, hml, hown, hts⟩ (c_within l dC dI ad av H.size a k τ ln y g u p8 (0 : Int32) (6 : Int32)  ) (va_cwS 3 hts (gi_3 (List.mem_cons_of_mem _ (List.mem_append_left _ (List.mem_of_getElem? (i := 0) rfl))) (List.mem_cons_of_mem _ (List.mem_append_left _ (List.mem_of_getElem? (i := 1) rfl))) (List.mem_cons_of_mem _ (List.mem_append_left _ (List.mem_of_getElem? (i := 2) rfl))) (fun _ hh => (List.mem_cons_of_mem _ (List.mem_append_right _ (List.mem_append_left _ hh)))) gd_c_within) rfl rfl rfl (by decide +kernel) ⟨Nat.le_of_ble_eq_true rfl, Nat.le_of_ble_eq_true rfl⟩) ⟨pw_blind, pw_use hT hK hFc hS hM⟩ rfl rfl hl.1 rfl (lv_room (Nat.le_of_ble_eq_true rfl)) dX11_piece_99 ⟨Nat.le_of_ble_eq_true rfl, Nat.le_of_ble_eq_true rfl⟩) hS (fun q _ h => hFc q h) hFc (fun r0 r_57 t H locs ht hvm hw hB hz1 hk1 hS => ?_)
                  refine W.widen (k := 0) (n := 0) (Nat.le_of_ble_eq_true rfl) (Nat.le_of_ble_eq_true rfl) ?_
                  clear hvm hz1 hk1
                  subst hw
                  rcases hB with ⟨hre, hf_58, hf_59, hT⟩ | ⟨hre, hf_60, hT⟩
                  · refine lq_top (v := 1) hre ?_
                    rw [ht] at hT
                    try simp only [hp_55, hp_56] at hf_58 hf_59
                    clear hp_55 hp_56
                    refine lv_if_eq (tgt := 109) hx hb dX11_piece_102 (by decide) (fun c_61 => absurd c_61 (by decide)) (fun c_61 => ?_)
                    refine lv_iconst (v := 1) hx hb dX11_piece_105 (by decide) ?_
                    refine lv_goto (tgt := 110) hx hb dX11_piece_106 (by decide) ?_
                    refine lv_istore (lv' := [(10, .int 1), (0, .ref (a 0)), (1, .int p0), (2, .int p1), (3, .int p2), (4, .int p3), (5, .int p4), (6, .int p5), (7, .int p6), (8, .int p7), (9, .int p8)]) hx hb dX11_piece_110 hl (by decide) rfl (fun ls hl => ?_)
                    refine lv_iload hx hb dX11_piece_112 (lv_at hl 0 rfl) ?_
                    refine lv_if_eq (tgt := 129) hx hb dX11_piece_114 (by decide) (fun c_62 => absurd c_62 (by decide)) (fun c_62 => ?_)
                    refine lv_aload_n hx hb dX11_piece_117 rfl (lv_at hl 1 rfl) ?_
                    refine tw_get (D := (dC, dI)) (v := .ref (a 1)) (C := RX11) (T := TX11) (N := 10) hx hb hts (fun _ hh => (List.mem_cons_of_mem _ (List.mem_append_right _ (List.mem_append_right _ (List.mem_append_left _ hh))))) hown hK hT (fx_0 hX) (by decide) cl_e10 rfl 0 (by decide) (hts (.fieldLink RX11 10 "TypingPool" "book" "LTypingPool$Book;") (List.mem_cons_of_mem _ (List.mem_append_left _ (List.mem_of_getElem? (i := 6) rfl)))) (fun _ h9 => h9) rfl dX11_piece_118 ?_
                    refine tw_get (D := (dC, dI)) (v := .int (y (a 1) 5)) (C := RX1) (T := TX1) (N := 8) hx hb hts (fun _ hh => (List.mem_cons_of_mem _ (List.mem_append_right _ (List.mem_append_right _ (List.mem_append_right _ (List.mem_append_right _ (List.mem_append_left _ hh))))))) hown hK hT (fx_1 hX) (by decide) cl_e11 rfl 5 (by decide) (hts (.fieldLink RX11 112 "TypingPool$Book" "pieceCount" "I") (List.mem_cons_of_mem _ (List.mem_append_left _ (List.mem_of_getElem? (i := 7) rfl)))) (fun _ h9 => h9) rfl dX11_piece_121 ?_
                    have hc_63 := ic_2 hI
                    refine lv_bipush (v := 30) hx hb dX11_piece_124 (by decide) ?_
                    refine lv_icmp_lt (tgt := 131) hx hb dX11_piece_126 (by decide) (fun c_64 => ?_) (fun c_64 => ?_)
                    · have nc_64 := z_lt hc_63 (zk (x := 30) 30 rfl) c_64
                      refine tw_new (ci := 6) (fs := [.int 0, .int 0, .int 0, .int 0, .int 0, .int 0, .int 0, .int 0, .int 0, .int 0, .int 0]) (C := RX6) (T := TX6) (N := 11) hx hb hts (fun _ hh => (List.mem_cons_of_mem _ (List.mem_append_right _ (List.mem_append_right _ (List.mem_append_right _ (List.mem_append_right _ (List.mem_append_right _ (List.mem_append_left _ hh)))))))) tyX6 tyX6_ok hown (hts (.classLink RX11 115 RX6) (List.mem_cons_of_mem _ (List.mem_append_left _ (List.mem_of_getElem? (i := 8) rfl)))) (hts (.instantiable RX6 11) (List.mem_cons_of_mem _ (List.mem_append_left _ (List.mem_of_getElem? (i := 9) rfl)))) (hts (.initialized RX6) (List.mem_cons_of_mem _ (List.mem_append_left _ (List.mem_of_getElem? (i := 10) rfl)))) hK hT hF hS hA 2 rfl (fun j hj => by rcases (show j = 0 ∨ j = 1 ∨ j = 2 ∨ j = 3 ∨ j = 4 ∨ j = 5 ∨ j = 6 ∨ j = 7 ∨ j = 8 ∨ j = 9 ∨ j = 10 by omega) with rfl | rfl | rfl | rfl | rfl | rfl | rfl | rfl | rfl | rfl | rfl <;> rfl) (fun _ => cl_e2) (Nat.le_of_ble_eq_true rfl) (Nat.le_of_ble_eq_true rfl) dX11_piece_131 (fun q_65 H hq0 hAq hT hS => ?_)
                      refine W.widen (k := 1) (n := 11) (Nat.le_of_ble_eq_true rfl) (Nat.le_of_ble_eq_true rfl) ?_
                      obtain ⟨tm_66, lm_66, ym_66, gm_66, htm_66, hlm_66, hym_66, hgm_66, hT⟩ : ∃ (z1 z2 : Nat → Nat) (z3 : Nat → Nat → Int32) (z4 : Nat → Nat → Option Nat), z1 = nwt τ q_65 2 ∧ z2 = ln ∧ z3 = nwy y q_65 (fun _ => 0) ∧ z4 = nwg g q_65 ∧ tw (dC, dI) a k z1 z2 z3 z4 H := ⟨_, _, _, _, rfl, rfl, rfl, rfl, hT⟩
                      have hKM : kpM0 τ y g ym_66 gm_66 := by rw [hym_66, hgm_66]; exact hKM.nw hMo hq0
                      have hMo : mono τ tm_66 s.heap.size := by rw [htm_66]; exact hMo.nw hq0 (by rw [hAe]; exact hAq)
                      have hI : IC a u tm_66 lm_66 ym_66 gm_66 := by rw [htm_66, hlm_66, hym_66, hgm_66]; exact hI.nw hq0 (Or.inl rfl) (by decide)
                      have ha_67 : ym_66 (a 20) = y (a 20) := (show ym_66 (a 20) = y (a 20) from by rw [hym_66, nwy_o (kd_ne (fx_20 hX) hq0 (by decide))]).trans rfl
                      have ha_68 : ym_66 (a 21) = y (a 21) := (show ym_66 (a 21) = y (a 21) from by rw [hym_66, nwy_o (kd_ne (fx_21 hX) hq0 (by decide))]).trans rfl
                      have ha_69 : ym_66 (a 24) = y (a 24) := (show ym_66 (a 24) = y (a 24) from by rw [hym_66, nwy_o (kd_ne (fx_24 hX) hq0 (by decide))]).trans rfl
                      have ha_70 : ym_66 (a 25) = y (a 25) := (show ym_66 (a 25) = y (a 25) from by rw [hym_66, nwy_o (kd_ne (fx_25 hX) hq0 (by decide))]).trans rfl
                      have ha_71 : ym_66 (a 27) = y (a 27) := (show ym_66 (a 27) = y (a 27) from by rw [hym_66, nwy_o (kd_ne (fx_27 hX) hq0 (by decide))]).trans rfl
                      have : (ym_66 (a 3) 2).toInt = (y (a 3) 2).toInt := by rw [hym_66, nwy_o (kd_ne (fx_3 hX) hq0 (by decide))]
                      have hX := hI.1
                      have hF : ∀ q, tm_66 q ≠ 0 → A q := fun q h => by rw [← hAe]; exact hMo.2 q h
                      have hk_72 : tm_66 q_65 = 2 := by rw [htm_66]; exact nwt_i
                      refine lv_dup hx hb dX11_piece_134 rfl ?_
                      have hFc := tw_free hF hS hA
                      refine va_callv (va_runIN (As := []) (rest := [.ref q_65]) ⟨hx, hb, hml, hown, hts⟩ (c_Piece_init l dC dI ad av H.size a k tm_66 lm_66 ym_66 gm_66 u q_65 hI hk_72) ⟨va_cnB 0 hts (gi_0  (fun _ hh => (List.mem_cons_of_mem _ (List.mem_append_right _ (List.mem_append_right _ (List.mem_append_right _ (List.mem_append_right _ (List.mem_append_right _ (List.mem_append_right _ (List.mem_append_left _ hh))))))))) gd_c_Piece_init) rfl rfl rfl hM.1.2.1 (hts (.initialized RX6) (List.mem_cons_of_mem _ (List.mem_append_left _ (List.mem_of_getElem? (i := 10) rfl)))) (by decide +kernel) ⟨Nat.le_of_ble_eq_true rfl, Nat.le_of_ble_eq_true rfl⟩, rfl, (hts (.instanceMethod yX6_init) (List.mem_cons_of_mem _ (List.mem_append_left _ (List.mem_of_getElem? (i := 11) rfl))))⟩ ⟨pw_blind, pw_use hT hK hFc hS hM⟩ rfl rfl hl.1 rfl (lv_room (Nat.le_of_ble_eq_true rfl)) dX11_piece_135 ⟨Nat.le_of_ble_eq_true rfl, Nat.le_of_ble_eq_true rfl⟩) hS (fun q _ h => hFc q h) hFc (fun u0 t H locs ht hvm hw hB hz1 hk1 hS => ?_)
                      refine W.widen (k := 1) (n := 11) (Nat.le_of_ble_eq_true rfl) (Nat.le_of_ble_eq_true rfl) ?_
                      clear hvm hz1 hk1
                      have hT := hB
                      rw [ht] at hT
                      refine lv_astore (lv' := [(11, .ref q_65), (10, .int 1), (0, .ref (a 0)), (1, .int p0), (2, .int p1), (3, .int p2), (4, .int p3), (5, .int p4), (6, .int p5), (7, .int p6), (8, .int p7), (9, .int p8)]) hx hb dX11_piece_138 hl (by decide) rfl (fun ls hl => ?_)
                      refine lv_aload hx hb dX11_piece_140 (lv_at hl 0 rfl) ?_
                      refine lv_iload_n hx hb dX11_piece_142 rfl (lv_at hl 3 rfl) ?_
                      refine tw_put (D := (dC, dI)) (x := p0) (ty := .int) (C := RX6) (T := TX6) (N := 11) hx hb hts (fun _ hh => (List.mem_cons_of_mem _ (List.mem_append_right _ (List.mem_append_right _ (List.mem_append_right _ (List.mem_append_right _ (List.mem_append_right _ (List.mem_append_left _ hh)))))))) tyX6 tyX6_ok nmX6 hown hK hT hF hS hk_72 (by decide) cl_e2 rfl 0 (by decide) (hts (.fieldLink RX11 118 "TypingPool$Piece" "department" "I") (List.mem_cons_of_mem _ (List.mem_append_left _ (List.mem_of_getElem? (i := 12) rfl)))) (fun _ h9 => h9) rfl (tyX6_ok 0 (by decide)) rfl rfl (Nat.le_of_ble_eq_true rfl) rfl dX11_piece_143 (fun H locs hT hS => ?_)
                      obtain ⟨y_74, hy_74, hT⟩ : ∃ z : Nat → Nat → Int32, z = up2 ym_66 q_65 0 p0 ∧ tw (dC, dI) a k tm_66 lm_66 z gm_66 H := ⟨_, rfl, hT⟩
                      have hKM : kpM0 τ y g y_74 gm_66 := by rw [hy_74]; exact hKM.up hMo hk_72 (by decide)
                      have ha_75 : y_74 (a 20) = y (a 20) := (show y_74 (a 20) = ym_66 (a 20) from by rw [hy_74]; exact up2_o (kd_ne (fx_20 hX) hk_72 (by decide))).trans ha_67
                      have ha_76 : y_74 (a 21) = y (a 21) := (show y_74 (a 21) = ym_66 (a 21) from by rw [hy_74]; exact up2_o (kd_ne (fx_21 hX) hk_72 (by decide))).trans ha_68
                      have ha_77 : y_74 (a 24) = y (a 24) := (show y_74 (a 24) = ym_66 (a 24) from by rw [hy_74]; exact up2_o (kd_ne (fx_24 hX) hk_72 (by decide))).trans ha_69
                      have ha_78 : y_74 (a 25) = y (a 25) := (show y_74 (a 25) = ym_66 (a 25) from by rw [hy_74]; exact up2_o (kd_ne (fx_25 hX) hk_72 (by decide))).trans ha_70
                      have ha_79 : y_74 (a 27) = y (a 27) := (show y_74 (a 27) = ym_66 (a 27) from by rw [hy_74]; exact up2_o (kd_ne (fx_27 hX) hk_72 (by decide))).trans ha_71
                      have : (y_74 (a 3) 2).toInt = (ym_66 (a 3) 2).toInt := by rw [hy_74, up2_o (kd_ne (fx_3 hX) hk_72 (by decide))]
                      have hI := hI.ag (S := [2]) (y' := y_74) (by rw [hy_74]; exact ag.one hk_72) (by decide)
                      refine lv_aload hx hb dX11_piece_146 (lv_at hl 0 rfl) ?_
                      refine lv_iload_n hx hb dX11_piece_148 rfl (lv_at hl 4 rfl) ?_
                      refine tw_put (D := (dC, dI)) (x := p1) (ty := .int) (C := RX6) (T := TX6) (N := 11) hx hb hts (fun _ hh => (List.mem_cons_of_mem _ (List.mem_append_right _ (List.mem_append_right _ (List.mem_append_right _ (List.mem_append_right _ (List.mem_append_right _ (List.mem_append_left _ hh)))))))) tyX6 tyX6_ok nmX6 hown hK hT hF hS hk_72 (by decide) cl_e2 rfl 1 (by decide) (hts (.fieldLink RX11 121 "TypingPool$Piece" "style" "I") (List.mem_cons_of_mem _ (List.mem_append_left _ (List.mem_of_getElem? (i := 13) rfl)))) (fun _ h9 => h9) rfl (tyX6_ok 1 (by decide)) rfl rfl (Nat.le_of_ble_eq_true rfl) rfl dX11_piece_149 (fun H locs hT hS => ?_)
                      obtain ⟨y_80, hy_80, hT⟩ : ∃ z : Nat → Nat → Int32, z = up2 y_74 q_65 1 p1 ∧ tw (dC, dI) a k tm_66 lm_66 z gm_66 H := ⟨_, rfl, hT⟩
                      have hKM : kpM0 τ y g y_80 gm_66 := by rw [hy_80]; exact hKM.up hMo hk_72 (by decide)
                      have ha_81 : y_80 (a 20) = y (a 20) := (show y_80 (a 20) = y_74 (a 20) from by rw [hy_80]; exact up2_o (kd_ne (fx_20 hX) hk_72 (by decide))).trans ha_75
                      have ha_82 : y_80 (a 21) = y (a 21) := (show y_80 (a 21) = y_74 (a 21) from by rw [hy_80]; exact up2_o (kd_ne (fx_21 hX) hk_72 (by decide))).trans ha_76
                      have ha_83 : y_80 (a 24) = y (a 24) := (show y_80 (a 24) = y_74 (a 24) from by rw [hy_80]; exact up2_o (kd_ne (fx_24 hX) hk_72 (by decide))).trans ha_77
                      have ha_84 : y_80 (a 25) = y (a 25) := (show y_80 (a 25) = y_74 (a 25) from by rw [hy_80]; exact up2_o (kd_ne (fx_25 hX) hk_72 (by decide))).trans ha_78
                      have ha_85 : y_80 (a 27) = y (a 27) := (show y_80 (a 27) = y_74 (a 27) from by rw [hy_80]; exact up2_o (kd_ne (fx_27 hX) hk_72 (by decide))).trans ha_79
                      have : (y_80 (a 3) 2).toInt = (y_74 (a 3) 2).toInt := by rw [hy_80, up2_o (kd_ne (fx_3 hX) hk_72 (by decide))]
                      have hI := hI.ag (S := [2]) (y' := y_80) (by rw [hy_80]; exact ag.one hk_72) (by decide)
                      refine lv_aload hx hb dX11_piece_152 (lv_at hl 0 rfl) ?_
                      refine lv_iload_n hx hb dX11_piece_154 rfl (lv_at hl 5 rfl) ?_
                      refine tw_put (D := (dC, dI)) (x := p2) (ty := .int) (C := RX6) (T := TX6) (N := 11) hx hb hts (fun _ hh => (List.mem_cons_of_mem _ (List.mem_append_right _ (List.mem_append_right _ (List.mem_append_right _ (List.mem_append_right _ (List.mem_append_right _ (List.mem_append_left _ hh)))))))) tyX6 tyX6_ok nmX6 hown hK hT hF hS hk_72 (by decide) cl_e2 rfl 2 (by decide) (hts (.fieldLink RX11 124 "TypingPool$Piece" "lines" "I") (List.mem_cons_of_mem _ (List.mem_append_left _ (List.mem_of_getElem? (i := 14) rfl)))) (fun _ h9 => h9) rfl (tyX6_ok 2 (by decide)) rfl rfl (Nat.le_of_ble_eq_true rfl) rfl dX11_piece_155 (fun H locs hT hS => ?_)
                      obtain ⟨y_86, hy_86, hT⟩ : ∃ z : Nat → Nat → Int32, z = up2 y_80 q_65 2 p2 ∧ tw (dC, dI) a k tm_66 lm_66 z gm_66 H := ⟨_, rfl, hT⟩
                      have hKM : kpM0 τ y g y_86 gm_66 := by rw [hy_86]; exact hKM.up hMo hk_72 (by decide)
                      have ha_87 : y_86 (a 20) = y (a 20) := (show y_86 (a 20) = y_80 (a 20) from by rw [hy_86]; exact up2_o (kd_ne (fx_20 hX) hk_72 (by decide))).trans ha_81
                      have ha_88 : y_86 (a 21) = y (a 21) := (show y_86 (a 21) = y_80 (a 21) from by rw [hy_86]; exact up2_o (kd_ne (fx_21 hX) hk_72 (by decide))).trans ha_82
                      have ha_89 : y_86 (a 24) = y (a 24) := (show y_86 (a 24) = y_80 (a 24) from by rw [hy_86]; exact up2_o (kd_ne (fx_24 hX) hk_72 (by decide))).trans ha_83
                      have ha_90 : y_86 (a 25) = y (a 25) := (show y_86 (a 25) = y_80 (a 25) from by rw [hy_86]; exact up2_o (kd_ne (fx_25 hX) hk_72 (by decide))).trans ha_84
                      have ha_91 : y_86 (a 27) = y (a 27) := (show y_86 (a 27) = y_80 (a 27) from by rw [hy_86]; exact up2_o (kd_ne (fx_27 hX) hk_72 (by decide))).trans ha_85
                      have : (y_86 (a 3) 2).toInt = (y_80 (a 3) 2).toInt := by rw [hy_86, up2_o (kd_ne (fx_3 hX) hk_72 (by decide))]
                      have hI := hI.ag (S := [2]) (y' := y_86) (by rw [hy_86]; exact ag.one hk_72) (by decide)
                      refine lv_aload hx hb dX11_piece_158 (lv_at hl 0 rfl) ?_
                      refine lv_iload hx hb dX11_piece_160 (lv_at hl 6 rfl) ?_
                      refine tw_put (D := (dC, dI)) (x := p3) (ty := .int) (C := RX6) (T := TX6) (N := 11) hx hb hts (fun _ hh => (List.mem_cons_of_mem _ (List.mem_append_right _ (List.mem_append_right _ (List.mem_append_right _ (List.mem_append_right _ (List.mem_append_right _ (List.mem_append_left _ hh)))))))) tyX6 tyX6_ok nmX6 hown hK hT hF hS hk_72 (by decide) cl_e2 rfl 3 (by decide) (hts (.fieldLink RX11 127 "TypingPool$Piece" "secret" "I") (List.mem_cons_of_mem _ (List.mem_append_left _ (List.mem_of_getElem? (i := 15) rfl)))) (fun _ h9 => h9) rfl (tyX6_ok 3 (by decide)) rfl rfl (Nat.le_of_ble_eq_true rfl) rfl dX11_piece_162 (fun H locs hT hS => ?_)
                      obtain ⟨y_92, hy_92, hT⟩ : ∃ z : Nat → Nat → Int32, z = up2 y_86 q_65 3 p3 ∧ tw (dC, dI) a k tm_66 lm_66 z gm_66 H := ⟨_, rfl, hT⟩
                      have hKM : kpM0 τ y g y_92 gm_66 := by rw [hy_92]; exact hKM.up hMo hk_72 (by decide)
                      have ha_93 : y_92 (a 20) = y (a 20) := (show y_92 (a 20) = y_86 (a 20) from by rw [hy_92]; exact up2_o (kd_ne (fx_20 hX) hk_72 (by decide))).trans ha_87
                      have ha_94 : y_92 (a 21) = y (a 21) := (show y_92 (a 21) = y_86 (a 21) from by rw [hy_92]; exact up2_o (kd_ne (fx_21 hX) hk_72 (by decide))).trans ha_88
                      have ha_95 : y_92 (a 24) = y (a 24) := (show y_92 (a 24) = y_86 (a 24) from by rw [hy_92]; exact up2_o (kd_ne (fx_24 hX) hk_72 (by decide))).trans ha_89
                      have ha_96 : y_92 (a 25) = y (a 25) := (show y_92 (a 25) = y_86 (a 25) from by rw [hy_92]; exact up2_o (kd_ne (fx_25 hX) hk_72 (by decide))).trans ha_90
                      have ha_97 : y_92 (a 27) = y (a 27) := (show y_92 (a 27) = y_86 (a 27) from by rw [hy_92]; exact up2_o (kd_ne (fx_27 hX) hk_72 (by decide))).trans ha_91
                      have : (y_92 (a 3) 2).toInt = (y_86 (a 3) 2).toInt := by rw [hy_92, up2_o (kd_ne (fx_3 hX) hk_72 (by decide))]
                      have hI := hI.ag (S := [2]) (y' := y_92) (by rw [hy_92]; exact ag.one hk_72) (by decide)
                      refine lv_aload hx hb dX11_piece_165 (lv_at hl 0 rfl) ?_
                      refine lv_iload hx hb dX11_piece_167 (lv_at hl 7 rfl) ?_
                      refine tw_put (D := (dC, dI)) (x := p4) (ty := .int) (C := RX6) (T := TX6) (N := 11) hx hb hts (fun _ hh => (List.mem_cons_of_mem _ (List.mem_append_right _ (List.mem_append_right _ (List.mem_append_right _ (List.mem_append_right _ (List.mem_append_right _ (List.mem_append_left _ hh)))))))) tyX6 tyX6_ok nmX6 hown hK hT hF hS hk_72 (by decide) cl_e2 rfl 4 (by decide) (hts (.fieldLink RX11 130 "TypingPool$Piece" "claim" "I") (List.mem_cons_of_mem _ (List.mem_append_left _ (List.mem_of_getElem? (i := 16) rfl)))) (fun _ h9 => h9) rfl (tyX6_ok 4 (by decide)) rfl rfl (Nat.le_of_ble_eq_true rfl) rfl dX11_piece_169 (fun H locs hT hS => ?_)
                      obtain ⟨y_98, hy_98, hT⟩ : ∃ z : Nat → Nat → Int32, z = up2 y_92 q_65 4 p4 ∧ tw (dC, dI) a k tm_66 lm_66 z gm_66 H := ⟨_, rfl, hT⟩
                      have hKM : kpM0 τ y g y_98 gm_66 := by rw [hy_98]; exact hKM.up hMo hk_72 (by decide)
                      have ha_99 : y_98 (a 20) = y (a 20) := (show y_98 (a 20) = y_92 (a 20) from by rw [hy_98]; exact up2_o (kd_ne (fx_20 hX) hk_72 (by decide))).trans ha_93
                      have ha_100 : y_98 (a 21) = y (a 21) := (show y_98 (a 21) = y_92 (a 21) from by rw [hy_98]; exact up2_o (kd_ne (fx_21 hX) hk_72 (by decide))).trans ha_94
                      have ha_101 : y_98 (a 24) = y (a 24) := (show y_98 (a 24) = y_92 (a 24) from by rw [hy_98]; exact up2_o (kd_ne (fx_24 hX) hk_72 (by decide))).trans ha_95
                      have ha_102 : y_98 (a 25) = y (a 25) := (show y_98 (a 25) = y_92 (a 25) from by rw [hy_98]; exact up2_o (kd_ne (fx_25 hX) hk_72 (by decide))).trans ha_96
                      have ha_103 : y_98 (a 27) = y (a 27) := (show y_98 (a 27) = y_92 (a 27) from by rw [hy_98]; exact up2_o (kd_ne (fx_27 hX) hk_72 (by decide))).trans ha_97
                      have : (y_98 (a 3) 2).toInt = (y_92 (a 3) 2).toInt := by rw [hy_98, up2_o (kd_ne (fx_3 hX) hk_72 (by decide))]
                      have hI := hI.ag (S := [2]) (y' := y_98) (by rw [hy_98]; exact ag.one hk_72) (by decide)
                      refine lv_aload hx hb dX11_piece_172 (lv_at hl 0 rfl) ?_
                      refine lv_iload hx hb dX11_piece_174 (lv_at hl 8 rfl) ?_
                      refine tw_put (D := (dC, dI)) (x := p5) (ty := .int) (C := RX6) (T := TX6) (N := 11) hx hb hts (fun _ hh => (List.mem_cons_of_mem _ (List.mem_append_right _ (List.mem_append_right _ (List.mem_append_right _ (List.mem_append_right _ (List.mem_append_right _ (List.mem_append_left _ hh)))))))) tyX6 tyX6_ok nmX6 hown hK hT hF hS hk_72 (by decide) cl_e2 rfl 5 (by decide) (hts (.fieldLink RX11 133 "TypingPool$Piece" "comes" "I") (List.mem_cons_of_mem _ (List.mem_append_left _ (List.mem_of_getElem? (i := 17) rfl)))) (fun _ h9 => h9) rfl (tyX6_ok 5 (by decide)) rfl rfl (Nat.le_of_ble_eq_true rfl) rfl dX11_piece_176 (fun H locs hT hS => ?_)
                      obtain ⟨y_104, hy_104, hT⟩ : ∃ z : Nat → Nat → Int32, z = up2 y_98 q_65 5 p5 ∧ tw (dC, dI) a k tm_66 lm_66 z gm_66 H := ⟨_, rfl, hT⟩
                      have hKM : kpM0 τ y g y_104 gm_66 := by rw [hy_104]; exact hKM.up hMo hk_72 (by decide)
                      have ha_105 : y_104 (a 20) = y (a 20) := (show y_104 (a 20) = y_98 (a 20) from by rw [hy_104]; exact up2_o (kd_ne (fx_20 hX) hk_72 (by decide))).trans ha_99
                      have ha_106 : y_104 (a 21) = y (a 21) := (show y_104 (a 21) = y_98 (a 21) from by rw [hy_104]; exact up2_o (kd_ne (fx_21 hX) hk_72 (by decide))).trans ha_100
                      have ha_107 : y_104 (a 24) = y (a 24) := (show y_104 (a 24) = y_98 (a 24) from by rw [hy_104]; exact up2_o (kd_ne (fx_24 hX) hk_72 (by decide))).trans ha_101
                      have ha_108 : y_104 (a 25) = y (a 25) := (show y_104 (a 25) = y_98 (a 25) from by rw [hy_104]; exact up2_o (kd_ne (fx_25 hX) hk_72 (by decide))).trans ha_102
                      have ha_109 : y_104 (a 27) = y (a 27) := (show y_104 (a 27) = y_98 (a 27) from by rw [hy_104]; exact up2_o (kd_ne (fx_27 hX) hk_72 (by decide))).trans ha_103
                      have : (y_104 (a 3) 2).toInt = (y_98 (a 3) 2).toInt := by rw [hy_104, up2_o (kd_ne (fx_3 hX) hk_72 (by decide))]
                      have hI := hI.ag (S := [2]) (y' := y_104) (by rw [hy_104]; exact ag.one hk_72) (by decide)
                      refine lv_aload hx hb dX11_piece_179 (lv_at hl 0 rfl) ?_
                      refine lv_iload hx hb dX11_piece_181 (lv_at hl 9 rfl) ?_
                      refine tw_put (D := (dC, dI)) (x := p6) (ty := .int) (C := RX6) (T := TX6) (N := 11) hx hb hts (fun _ hh => (List.mem_cons_of_mem _ (List.mem_append_right _ (List.mem_append_right _ (List.mem_append_right _ (List.mem_append_right _ (List.mem_append_right _ (List.mem_append_left _ hh)))))))) tyX6 tyX6_ok nmX6 hown hK hT hF hS hk_72 (by decide) cl_e2 rfl 6 (by decide) (hts (.fieldLink RX11 136 "TypingPool$Piece" "due" "I") (List.mem_cons_of_mem _ (List.mem_append_left _ (List.mem_of_getElem? (i := 18) rfl)))) (fun _ h9 => h9) rfl (tyX6_ok 6 (by decide)) rfl rfl (Nat.le_of_ble_eq_true rfl) rfl dX11_piece_183 (fun H locs hT hS => ?_)
                      obtain ⟨y_110, hy_110, hT⟩ : ∃ z : Nat → Nat → Int32, z = up2 y_104 q_65 6 p6 ∧ tw (dC, dI) a k tm_66 lm_66 z gm_66 H := ⟨_, rfl, hT⟩
                      have hKM : kpM0 τ y g y_110 gm_66 := by rw [hy_110]; exact hKM.up hMo hk_72 (by decide)
                      have ha_111 : y_110 (a 20) = y (a 20) := (show y_110 (a 20) = y_104 (a 20) from by rw [hy_110]; exact up2_o (kd_ne (fx_20 hX) hk_72 (by decide))).trans ha_105
                      have ha_112 : y_110 (a 21) = y (a 21) := (show y_110 (a 21) = y_104 (a 21) from by rw [hy_110]; exact up2_o (kd_ne (fx_21 hX) hk_72 (by decide))).trans ha_106
                      have ha_113 : y_110 (a 24) = y (a 24) := (show y_110 (a 24) = y_104 (a 24) from by rw [hy_110]; exact up2_o (kd_ne (fx_24 hX) hk_72 (by decide))).trans ha_107
                      have ha_114 : y_110 (a 25) = y (a 25) := (show y_110 (a 25) = y_104 (a 25) from by rw [hy_110]; exact up2_o (kd_ne (fx_25 hX) hk_72 (by decide))).trans ha_108
                      have ha_115 : y_110 (a 27) = y (a 27) := (show y_110 (a 27) = y_104 (a 27) from by rw [hy_110]; exact up2_o (kd_ne (fx_27 hX) hk_72 (by decide))).trans ha_109
                      have : (y_110 (a 3) 2).toInt = (y_104 (a 3) 2).toInt := by rw [hy_110, up2_o (kd_ne (fx_3 hX) hk_72 (by decide))]
                      have hI := hI.ag (S := [2]) (y' := y_110) (by rw [hy_110]; exact ag.one hk_72) (by decide)
                      refine lv_aload hx hb dX11_piece_186 (lv_at hl 0 rfl) ?_
                      refine lv_iload hx hb dX11_piece_188 (lv_at hl 10 rfl) ?_
                      refine tw_put (D := (dC, dI)) (x := p7) (ty := .int) (C := RX6) (T := TX6) (N := 11) hx hb hts (fun _ hh => (List.mem_cons_of_mem _ (List.mem_append_right _ (List.mem_append_right _ (List.mem_append_right _ (List.mem_append_right _ (List.mem_append_right _ (List.mem_append_left _ hh)))))))) tyX6 tyX6_ok nmX6 hown hK hT hF hS hk_72 (by decide) cl_e2 rfl 7 (by decide) (hts (.fieldLink RX11 139 "TypingPool$Piece" "words" "I") (List.mem_cons_of_mem _ (List.mem_append_left _ (List.mem_of_getElem? (i := 19) rfl)))) (fun _ h9 => h9) rfl (tyX6_ok 7 (by decide)) rfl rfl (Nat.le_of_ble_eq_true rfl) rfl dX11_piece_190 (fun H locs hT hS => ?_)
                      obtain ⟨y_116, hy_116, hT⟩ : ∃ z : Nat → Nat → Int32, z = up2 y_110 q_65 7 p7 ∧ tw (dC, dI) a k tm_66 lm_66 z gm_66 H := ⟨_, rfl, hT⟩
                      have hKM : kpM0 τ y g y_116 gm_66 := by rw [hy_116]; exact hKM.up hMo hk_72 (by decide)
                      have ha_117 : y_116 (a 20) = y (a 20) := (show y_116 (a 20) = y_110 (a 20) from by rw [hy_116]; exact up2_o (kd_ne (fx_20 hX) hk_72 (by decide))).trans ha_111
                      have ha_118 : y_116 (a 21) = y (a 21) := (show y_116 (a 21) = y_110 (a 21) from by rw [hy_116]; exact up2_o (kd_ne (fx_21 hX) hk_72 (by decide))).trans ha_112
                      have ha_119 : y_116 (a 24) = y (a 24) := (show y_116 (a 24) = y_110 (a 24) from by rw [hy_116]; exact up2_o (kd_ne (fx_24 hX) hk_72 (by decide))).trans ha_113
                      have ha_120 : y_116 (a 25) = y (a 25) := (show y_116 (a 25) = y_110 (a 25) from by rw [hy_116]; exact up2_o (kd_ne (fx_25 hX) hk_72 (by decide))).trans ha_114
                      have ha_121 : y_116 (a 27) = y (a 27) := (show y_116 (a 27) = y_110 (a 27) from by rw [hy_116]; exact up2_o (kd_ne (fx_27 hX) hk_72 (by decide))).trans ha_115
                      have : (y_116 (a 3) 2).toInt = (y_110 (a 3) 2).toInt := by rw [hy_116, up2_o (kd_ne (fx_3 hX) hk_72 (by decide))]
                      have hI := hI.ag (S := [2]) (y' := y_116) (by rw [hy_116]; exact ag.one hk_72) (by decide)
                      refine lv_aload hx hb dX11_piece_193 (lv_at hl 0 rfl) ?_
                      refine lv_iload hx hb dX11_piece_195 (lv_at hl 11 rfl) ?_
                      refine tw_put (D := (dC, dI)) (x := p8) (ty := .int) (C := RX6) (T := TX6) (N := 11) hx hb hts (fun _ hh => (List.mem_cons_of_mem _ (List.mem_append_right _ (List.mem_append_right _ (List.mem_append_right _ (List.mem_append_right _ (List.mem_append_right _ (List.mem_append_left _ hh)))))))) tyX6 tyX6_ok nmX6 hown hK hT hF hS hk_72 (by decide) cl_e2 rfl 8 (by decide) (hts (.fieldLink RX11 142 "TypingPool$Piece" "copies" "I") (List.mem_cons_of_mem _ (List.mem_append_left _ (List.mem_of_getElem? (i := 20) rfl)))) (fun _ h9 => h9) rfl (tyX6_ok 8 (by decide)) rfl rfl (Nat.le_of_ble_eq_true rfl) rfl dX11_piece_197 (fun H locs hT hS => ?_)
                      obtain ⟨y_122, hy_122, hT⟩ : ∃ z : Nat → Nat → Int32, z = up2 y_116 q_65 8 p8 ∧ tw (dC, dI) a k tm_66 lm_66 z gm_66 H := ⟨_, rfl, hT⟩
                      have hKM : kpM0 τ y g y_122 gm_66 := by rw [hy_122]; exact hKM.up hMo hk_72 (by decide)
                      have ha_123 : y_122 (a 20) = y (a 20) := (show y_122 (a 20) = y_116 (a 20) from by rw [hy_122]; exact up2_o (kd_ne (fx_20 hX) hk_72 (by decide))).trans ha_117
                      have ha_124 : y_122 (a 21) = y (a 21) := (show y_122 (a 21) = y_116 (a 21) from by rw [hy_122]; exact up2_o (kd_ne (fx_21 hX) hk_72 (by decide))).trans ha_118
                      have ha_125 : y_122 (a 24) = y (a 24) := (show y_122 (a 24) = y_116 (a 24) from by rw [hy_122]; exact up2_o (kd_ne (fx_24 hX) hk_72 (by decide))).trans ha_119
                      have ha_126 : y_122 (a 25) = y (a 25) := (show y_122 (a 25) = y_116 (a 25) from by rw [hy_122]; exact up2_o (kd_ne (fx_25 hX) hk_72 (by decide))).trans ha_120
                      have ha_127 : y_122 (a 27) = y (a 27) := (show y_122 (a 27) = y_116 (a 27) from by rw [hy_122]; exact up2_o (kd_ne (fx_27 hX) hk_72 (by decide))).trans ha_121
                      have : (y_122 (a 3) 2).toInt = (y_116 (a 3) 2).toInt := by rw [hy_122, up2_o (kd_ne (fx_3 hX) hk_72 (by decide))]
                      have hI := hI.ag (S := [2]) (y' := y_122) (by rw [hy_122]; exact ag.one hk_72) (by decide)
                      refine lv_aload_n hx hb dX11_piece_200 rfl (lv_at hl 2 rfl) ?_
                      refine tw_get (D := (dC, dI)) (v := .ref (a 1)) (C := RX11) (T := TX11) (N := 10) hx hb hts (fun _ hh => (List.mem_cons_of_mem _ (List.mem_append_right _ (List.mem_append_right _ (List.mem_append_left _ hh))))) hown hK hT (fx_0 hX) (by decide) cl_e10 rfl 0 (by decide) (hts (.fieldLink RX11 10 "TypingPool" "book" "LTypingPool$Book;") (List.mem_cons_of_mem _ (List.mem_append_left _ (List.mem_of_getElem? (i := 6) rfl)))) (fun _ h9 => h9) rfl dX11_piece_201 ?_
                      refine tw_get (D := (dC, dI)) (v := .int (y_122 (a 1) 5)) (C := RX1) (T := TX1) (N := 8) hx hb hts (fun _ hh => (List.mem_cons_of_mem _ (List.mem_append_right _ (List.mem_append_right _ (List.mem_append_right _ (List.mem_append_right _ (List.mem_append_left _ hh))))))) hown hK hT (fx_1 hX) (by decide) cl_e11 rfl 5 (by decide) (hts (.fieldLink RX11 112 "TypingPool$Book" "pieceCount" "I") (List.mem_cons_of_mem _ (List.mem_append_left _ (List.mem_of_getElem? (i := 7) rfl)))) (fun _ h9 => h9) rfl dX11_piece_204 ?_
                      have hc_128 := ic_2 hI
                      refine lv_istore (lv' := [(12, .int (y_122 (a 1) 5)), (11, .ref q_65), (10, .int 1), (0, .ref (a 0)), (1, .int p0), (2, .int p1), (3, .int p2), (4, .int p3), (5, .int p4), (6, .int p5), (7, .int p6), (8, .int p7), (9, .int p8)]) hx hb dX11_piece_207 hl (by decide) rfl (fun ls hl => ?_)
                      refine lv_aload_n hx hb dX11_piece_209 rfl (lv_at hl 3 rfl) ?_
                      refine tw_get (D := (dC, dI)) (v := .ref (a 1)) (C := RX11) (T := TX11) (N := 10) hx hb hts (fun _ hh => (List.mem_cons_of_mem _ (List.mem_append_right _ (List.mem_append_right _ (List.mem_append_left _ hh))))) hown hK hT (fx_0 hX) (by decide) cl_e10 rfl 0 (by decide) (hts (.fieldLink RX11 10 "TypingPool" "book" "LTypingPool$Book;") (List.mem_cons_of_mem _ (List.mem_append_left _ (List.mem_of_getElem? (i := 6) rfl)))) (fun _ h9 => h9) rfl dX11_piece_210 ?_
                      refine tw_get (D := (dC, dI)) (v := .ref (a 11)) (C := RX1) (T := TX1) (N := 8) hx hb hts (fun _ hh => (List.mem_cons_of_mem _ (List.mem_append_right _ (List.mem_append_right _ (List.mem_append_right _ (List.mem_append_right _ (List.mem_append_left _ hh))))))) hown hK hT (fx_1 hX) (by decide) cl_e11 rfl 4 (by decide) (hts (.fieldLink RX11 145 "TypingPool$Book" "pieces" "[LTypingPool$Piece;") (List.mem_cons_of_mem _ (List.mem_append_left _ (List.mem_of_getElem? (i := 21) rfl)))) (fun _ h9 => h9) rfl dX11_piece_213 ?_
                      refine lv_iload hx hb dX11_piece_216 (lv_at hl 0 rfl) ?_
                      refine lv_aload hx hb dX11_piece_218 (lv_at hl 1 rfl) ?_
                      have hbd_129 : 0 ≤ u 2 ∧ u 2 < 30 := by omega
                      refine tw_aast (r := (RX6, TX6, 11)) hx hb hK hT hF hS 4 (fx_11 hX) (by decide) (fun _ => cl_e21) rfl hk_72 (by decide) cl_e2 rfl (z_in hc_128 hbd_129.1 hbd_129.2) dX11_piece_220 (fun H locs hT hS => ?_)
                      obtain ⟨g_130, hg_130, hT⟩ : ∃ z : Nat → Nat → Option Nat, z = upg gm_66 (a 11) (y_122 (a 1) 5).toNatClampNeg (some q_65) ∧ tw (dC, dI) a k tm_66 lm_66 y_122 z H := ⟨_, rfl, hT⟩
                      have hKM : kpM0 τ y g y_122 g_130 := by rw [hg_130]; exact hKM.upg hMo (fx_11 hX) (by decide)
                      have hI : IC a u tm_66 lm_66 y_122 g_130 := by rw [hg_130]; exact hI.put11 hk_72
                      have hent_131 : g_130 (a 11) (y_122 (a 1) 5).toNatClampNeg = some q_65 := by rw [hg_130]; exact upg_i
                      refine lv_aload_n hx hb dX11_piece_221 rfl (lv_at hl 3 rfl) ?_
                      refine tw_get (D := (dC, dI)) (v := .ref (a 1)) (C := RX11) (T := TX11) (N := 10) hx hb hts (fun _ hh => (List.mem_cons_of_mem _ (List.mem_append_right _ (List.mem_append_right _ (List.mem_append_left _ hh))))) hown hK hT (fx_0 hX) (by decide) cl_e10 rfl 0 (by decide) (hts (.fieldLink RX11 10 "TypingPool" "book" "LTypingPool$Book;") (List.mem_cons_of_mem _ (List.mem_append_left _ (List.mem_of_getElem? (i := 6) rfl)))) (fun _ h9 => h9) rfl dX11_piece_222 ?_
                      refine lv_dup hx hb dX11_piece_225 rfl ?_
                      refine tw_get (D := (dC, dI)) (v := .int (y_122 (a 1) 5)) (C := RX1) (T := TX1) (N := 8) hx hb hts (fun _ hh => (List.mem_cons_of_mem _ (List.mem_append_right _ (List.mem_append_right _ (List.mem_append_right _ (List.mem_append_right _ (List.mem_append_left _ hh))))))) hown hK hT (fx_1 hX) (by decide) cl_e11 rfl 5 (by decide) (hts (.fieldLink RX11 112 "TypingPool$Book" "pieceCount" "I") (List.mem_cons_of_mem _ (List.mem_append_left _ (List.mem_of_getElem? (i := 7) rfl)))) (fun _ h9 => h9) rfl dX11_piece_226 ?_
                      have hc_132 := ic_2 hI
                      refine lv_iconst (v := 1) hx hb dX11_piece_229 (by decide) ?_
                      refine lv_iadd hx hb dX11_piece_230 ?_
                      refine lv_topi (fun x_133 ex_133 => ?_)
                      have hx_133 := z_add ex_133 hc_132 (zk (x := 1) 1 rfl) (by omega) (by omega)
                      refine tw_put (D := (dC, dI)) (x := x_133) (ty := .int) (C := RX1) (T := TX1) (N := 8) hx hb hts (fun _ hh => (List.mem_cons_of_mem _ (List.mem_append_right _ (List.mem_append_right _ (List.mem_append_right _ (List.mem_append_right _ (List.mem_append_left _ hh))))))) tyX1 tyX1_ok nmX1 hown hK hT hF hS (fx_1 hX) (by decide) cl_e11 rfl 5 (by decide) (hts (.fieldLink RX11 112 "TypingPool$Book" "pieceCount" "I") (List.mem_cons_of_mem _ (List.mem_append_left _ (List.mem_of_getElem? (i := 7) rfl)))) (fun _ h9 => h9) rfl (tyX1_ok 5 (by decide)) rfl rfl (Nat.le_of_ble_eq_true rfl) rfl dX11_piece_231 (fun H locs hT hS => ?_)
                      obtain ⟨y_134, hy_134, hT⟩ : ∃ z : Nat → Nat → Int32, z = up2 y_122 (a 1) 5 x_133 ∧ tw (dC, dI) a k tm_66 lm_66 z g_130 H := ⟨_, rfl, hT⟩
                      have hKM : kpM0 τ y g y_134 g_130 := by rw [hy_134]; exact hKM.up hMo (fx_1 hX) (by decide)
                      have ha_135 : y_134 (a 20) = y (a 20) := (show y_134 (a 20) = y_122 (a 20) from by rw [hy_134]; exact up2_o (kd_ne (fx_20 hX) (fx_1 hX) (by decide))).trans ha_123
                      have ha_136 : y_134 (a 21) = y (a 21) := (show y_134 (a 21) = y_122 (a 21) from by rw [hy_134]; exact up2_o (kd_ne (fx_21 hX) (fx_1 hX) (by decide))).trans ha_124
                      have ha_137 : y_134 (a 24) = y (a 24) := (show y_134 (a 24) = y_122 (a 24) from by rw [hy_134]; exact up2_o (kd_ne (fx_24 hX) (fx_1 hX) (by decide))).trans ha_125
                      have ha_138 : y_134 (a 25) = y (a 25) := (show y_134 (a 25) = y_122 (a 25) from by rw [hy_134]; exact up2_o (kd_ne (fx_25 hX) (fx_1 hX) (by decide))).trans ha_126
                      have ha_139 : y_134 (a 27) = y (a 27) := (show y_134 (a 27) = y_122 (a 27) from by rw [hy_134]; exact up2_o (kd_ne (fx_27 hX) (fx_1 hX) (by decide))).trans ha_127
                      have : (y_134 (a 3) 2).toInt = (y_122 (a 3) 2).toInt := by rw [hy_134, up2_o (kd_ne (fx_3 hX) (fx_1 hX) (by decide))]
                      have hp_140 : x_133.toInt = x_133.toInt := rfl
                      have hI := hI.cnt2 (by rw [hp_140]; first | done | omega) (by omega) (by rw [← z_nat hc_128]; exact hent_131) hk_72
                      rw [← hy_134] at hI
                      refine lv_aload_n hx hb dX11_piece_234 rfl (lv_at hl 3 rfl) ?_
                      refine tw_get (D := (dC, dI)) (v := .ref (a 3)) (C := RX11) (T := TX11) (N := 10) hx hb hts (fun _ hh => (List.mem_cons_of_mem _ (List.mem_append_right _ (List.mem_append_right _ (List.mem_append_left _ hh))))) hown hK hT (fx_0 hX) (by decide) cl_e10 rfl 2 (by decide) (hts (.fieldLink RX11 28 "TypingPool" "floor" "LTypingPool$Floor;") (List.mem_cons_of_mem _ (List.mem_append_left _ (List.mem_of_getElem? (i := 3) rfl)))) (fun _ h9 => h9) rfl dX11_piece_235 ?_
                      refine lv_iload hx hb dX11_piece_238 (lv_at hl 0 rfl) ?_
                      refine lv_aload hx hb dX11_piece_240 (lv_at hl 1 rfl) ?_
                      have hFc := tw_free hF hS hA
                      refine va_calli (va_runV (As := []) (rest := [.int (y_122 (a 1) 5), .ref (a 3)]) ⟨hx, hb, hml, hown, hts⟩ (c_allWorkF l dC dI ad av H.size a k tm_66 lm_66 y_134 g_130 (upc u 2 (u 2 + 1)) q_65 hI hk_72 (by rw [hy_134, up2_o (kd_ne hk_72 (fx_1 hX) (by decide)), hy_122, up2_e (by decide), hy_116, up2_e (by decide), hy_110, up2_e (by decide), hy_104, up2_e (by decide), hy_98, up2_e (by decide), hy_92, up2_e (by decide), hy_86, up2_i]; omega) (by rw [hy_134, up2_o (kd_ne hk_72 (fx_1 hX) (by decide)), hy_122, up2_i]; omega)) (cwV 0 hts (gi_4 (List.mem_cons_of_mem _ (List.mem_append_left _ (List.mem_of_getElem? (i := 22) rfl))) (List.mem_cons_of_mem _ (List.mem_append_left _ (List.mem_of_getElem? (i := 23) rfl))) (List.mem_cons_of_mem _ (List.mem_append_left _ (List.mem_of_getElem? (i := 24) rfl))) (List.mem_cons_of_mem _ (List.mem_append_left _ (List.mem_of_getElem? (i := 10) rfl))) (fun _ hh => (List.mem_cons_of_mem _ (List.mem_append_right _ (List.mem_append_right _ (List.mem_append_right _ (List.mem_append_right _ (List.mem_append_right _ (List.mem_append_right _ (List.mem_append_right _ (List.mem_append_left _ hh)))))))))) gd_c_allWorkF) rfl rfl rfl (by decide +kernel) ⟨Nat.le_of_ble_eq_true rfl, Nat.le_of_ble_eq_true rfl⟩) ⟨pw_blind, tw_recv hK hT hk_72 (by decide) cl_e2 rfl, pw_use hT hK hFc hS hM⟩ rfl rfl hl.1 rfl (lv_room (Nat.le_of_ble_eq_true rfl)) dX11_piece_242 ⟨Nat.le_of_ble_eq_true rfl, Nat.le_of_ble_eq_true rfl⟩) hS (fun q _ h => hFc q h) hFc (fun r0 r_141 t H locs ht hvm hw hB hz1 hk1 hS => ?_)
                      refine W.widen (k := 1) (n := 11) (Nat.le_of_ble_eq_true rfl) (Nat.le_of_ble_eq_true rfl) ?_
                      clear hvm hz1 hk1
                      subst hw
                      obtain ⟨hf_142, hf_143, hT⟩ := hB
                      rw [ht] at hT
                      have hFc := tw_free hF hS hA
                      have hp_144 : (y_122 (a 1) 5).toInt = u 2 := hc_128
                      refine va_callv (va_runV (As := [.int (y_122 (a 1) 5), .int r_141]) (rest := []) ⟨hx, hb, hml, hown, hts⟩ (c_openPieceF l dC dI ad av H.size a k tm_66 lm_66 y_134 g_130 (upc u 2 (u 2 + 1)) (y_122 (a 1) 5) r_141 hI (zl0 hc_128 hbd_129.1) (zlt hc_128 hbd_129.2)) (cwV 2 hts (gi_4 (List.mem_cons_of_mem _ (List.mem_append_left _ (List.mem_of_getElem? (i := 25) rfl))) (List.mem_cons_of_mem _ (List.mem_append_left _ (List.mem_of_getElem? (i := 26) rfl))) (List.mem_cons_of_mem _ (List.mem_append_left _ (List.mem_of_getElem? (i := 27) rfl))) (List.mem_cons_of_mem _ (List.mem_append_left _ (List.mem_of_getElem? (i := 28) rfl))) (fun _ hh => (List.mem_cons_of_mem _ (List.mem_append_right _ (List.mem_append_right _ (List.mem_append_right _ (List.mem_append_right _ (List.mem_append_right _ (List.mem_append_right _ (List.mem_append_right _ (List.mem_append_right _ (List.mem_append_left _ hh))))))))))) gd_c_openPieceF) rfl rfl rfl (by decide +kernel) ⟨Nat.le_of_ble_eq_true rfl, Nat.le_of_ble_eq_true rfl⟩) ⟨pw_blind, tw_recv hK hT (fx_3 hX) (by decide) cl_e13 rfl, pw_use hT hK hFc hS hM⟩ rfl rfl hl.1 rfl (lv_room (Nat.le_of_ble_eq_true rfl)) dX11_piece_245 ⟨Nat.le_of_ble_eq_true rfl, Nat.le_of_ble_eq_true rfl⟩) hS (fun q _ h => hFc q h) hFc (fun u0 t H locs ht hvm hw hB hz1 hk1 hS => ?_)
                      refine W.widen (k := 1) (n := 11) (Nat.le_of_ble_eq_true rfl) (Nat.le_of_ble_eq_true rfl) ?_
                      clear hvm hz1 hk1
                      obtain ⟨y_146, hgy_146, hf_147, hf_148, hf_149, hT⟩ := hB
                      rw [ht] at hT
                      have hKM := hKM.ag hMo hgy_146 (by decide)
                      have : (y_146 (a 3) 2).toInt = (y_134 (a 3) 2).toInt := by rw [hgy_146.at (fx_3 hX) (by decide)]
                      have hI := hI.ag hgy_146 (by decide)
                      have ha_150 : y_146 (a 20) = y (a 20) := (hgy_146.at (fx_20 hX) (by decide)).trans ha_135
                      have ha_151 : y_146 (a 21) = y (a 21) := (hgy_146.at (fx_21 hX) (by decide)).trans ha_136
                      refine lv_iload hx hb dX11_piece_248 (lv_at hl 0 rfl) ?_
                      have hrv : (y_122 (a 1) 5).toInt = u 2 := hc_128
                      have hold : ∀ z, τ z = 1 → y_146 z = y z := fun z hz => by
                        have hne : z ≠ q_65 := kd_ne hz hq0 (by decide)
                        have ht1 : tm_66 z = 1 := by rw [htm_66, nwt_o hne]; exact hz
                        rw [hgy_146 z (by rw [ht1]; decide), hy_134, up2_o (kd_ne ht1 (fx_1 hX) (by decide)), hy_122, up2_o hne, hy_116, up2_o hne, hy_110, up2_o hne, hy_104, up2_o hne, hy_98, up2_o hne, hy_92, up2_o hne, hy_86, up2_o hne, hy_80, up2_o hne, hy_74, up2_o hne, hym_66, nwy_o hne]
                      have hold2 : ∀ z, τ z = 2 → y_146 z = y z := fun z hz => by
                        have hne : z ≠ q_65 := kd_ne hz hq0 (by decide)
                        have ht1 : tm_66 z = 2 := by rw [htm_66, nwt_o hne]; exact hz
                        rw [hgy_146 z (by rw [ht1]; decide), hy_134, up2_o (kd_ne ht1 (fx_1 hX) (by decide)), hy_122, up2_o hne, hy_116, up2_o hne, hy_110, up2_o hne, hy_104, up2_o hne, hy_98, up2_o hne, hy_92, up2_o hne, hy_86, up2_o hne, hy_80, up2_o hne, hy_74, up2_o hne, hym_66, nwy_o hne]
                      have hgl2 : g_130 (a 11) = va_up (g (a 11)) (y_122 (a 1) 5).toNatClampNeg (some q_65) := by rw [hg_130, upg_q, hgm_66, nwg_o (kd_ne (fx_11 hX0) hq0 (by decide))]
                      have hz9 : y_146 q_65 9 = 0 := by rw [hgy_146 q_65 (by rw [hk_72]; decide), hy_134, up2_o (kd_ne hk_72 (fx_1 hX) (by decide)), hy_122, up2_e (by decide), hy_116, up2_e (by decide), hy_110, up2_e (by decide), hy_104, up2_e (by decide), hy_98, up2_e (by decide), hy_92, up2_e (by decide), hy_86, up2_e (by decide), hy_80, up2_e (by decide), hy_74, up2_e (by decide), hym_66, nwy_i]
                      have hz10 : y_146 q_65 10 = 0 := by rw [hgy_146 q_65 (by rw [hk_72]; decide), hy_134, up2_o (kd_ne hk_72 (fx_1 hX) (by decide)), hy_122, up2_e (by decide), hy_116, up2_e (by decide), hy_110, up2_e (by decide), hy_104, up2_e (by decide), hy_98, up2_e (by decide), hy_92, up2_e (by decide), hy_86, up2_e (by decide), hy_80, up2_e (by decide), hy_74, up2_e (by decide), hym_66, nwy_i]
                      have hSl : SLf a ((upc u 2 (u 2 + 1)) 2) g_130 y_146 (y (a 83)) := by rw [upc_i]; exact sl_piece hSl hIz hc_128 (by omega) hgl2 hold2 hq0 hz9 hz10
                      have hgl : g_130 (a 10) = g (a 10) := by rw [hg_130, upg_o (kd_ne (fx_10 hX) (fx_11 hX) (by decide)), hgm_66, nwg_o (kd_ne (fx_10 hX0) hq0 (by decide))]
                      have hFL := fl_piece hFo.2.2.1 (p := (y_122 (a 1) 5)) (b := (-1)) (t := (-1)) (w := r_141) hc_128 (by omega) rfl (by omega) (by omega) ha_150 ha_151 (by rw [hf_147, ha_137]) (by rw [hf_148, ha_138]) (by rw [hf_149, ha_139])
                      have hFo : FLo a (upc u 2 (u 2 + 1)) g_130 y_146 := ⟨by rw [upc_o (by decide)]; omega, by rw [upc_o (by decide)]; exact hF8, hFL, hFo.2.2.2.gk hIz hgl hold⟩
                      exact W.iret (v := y_122 (a 1) 5) hx hb hr (fun t ht hW9 => ⟨⟨y_122 (a 1) 5, y_122 (a 1) 5, rfl, rfl, Or.inr (⟨(upc u 2 (u 2 + 1)), (by intro i hi; simp only [List.mem_cons, List.not_mem_nil, or_false, not_or] at hi; unfold upc; repeat rw [if_neg (by omega)]), by omega, by omega, upc_i, ⟨tm_66, lm_66, y_146, g_130, hMo, hKM, hI, hFo, hSl, tw_at ht hT⟩⟩)⟩, hS.F ht⟩) hS.2.2 dX11_piece_250
                    · have nc_64 := z_nlt hc_63 (zk (x := 30) 30 rfl) c_64
                      refine lv_iconst (v := (-1)) hx hb dX11_piece_129 (by decide) ?_
                      refine W.widen (k := 1) (n := 11) (Nat.le_of_ble_eq_true rfl) (Nat.le_of_ble_eq_true rfl) ?_
                      have hrv : (-1 : Int32).toInt = (-1) := (zk (x := (-1)) (-1) rfl)
                      exact W.iret (v := (-1)) hx hb hr (fun t ht hW9 => ⟨⟨(-1), (-1), rfl, rfl, Or.inl ⟨u, rfl, fun _ _ => rfl, by omega, ⟨τ, ln, y, g, hMo, hKM, hI, hFo, hSl, tw_at ht hT⟩⟩⟩, hS.F ht⟩) hS.2.2 dX11_piece_130
                  · refine lq_top (v := 0) hre ?_
                    rw [ht] at hT
                    try simp only [hp_55, hp_56] at hf_60
                    clear hp_55 hp_56
                    refine lv_if_eq (tgt := 109) hx hb dX11_piece_102 (by decide) (fun c_152 => ?_) (fun c_152 => absurd c_152 (by decide))
                    refine lv_iconst (v := 0) hx hb dX11_piece_109 (by decide) ?_
                    refine lv_istore (lv' := [(10, .int 0), (0, .ref (a 0)), (1, .int p0), (2, .int p1), (3, .int p2), (4, .int p3), (5, .int p4), (6, .int p5), (7, .int p6), (8, .int p7), (9, .int p8)]) hx hb dX11_piece_110 hl (by decide) rfl (fun ls hl => ?_)
                    refine lv_iload hx hb dX11_piece_112 (lv_at hl 0 rfl) ?_
                    refine lv_if_eq (tgt := 129) hx hb dX11_piece_114 (by decide) (fun c_153 => ?_) (fun c_153 => absurd c_153 (by decide))
                    refine lv_iconst (v := (-1)) hx hb dX11_piece_129 (by decide) ?_
                    refine W.widen (k := 1) (n := 11) (Nat.le_of_ble_eq_true rfl) (Nat.le_of_ble_eq_true rfl) ?_
                    have hrv : (-1 : Int32).toInt = (-1) := (zk (x := (-1)) (-1) rfl)
                    exact W.iret (v := (-1)) hx hb hr (fun t ht hW9 => ⟨⟨(-1), (-1), rfl, rfl, Or.inl ⟨u, rfl, fun _ _ => rfl, by omega, ⟨τ, ln, y, g, hMo, hKM, hI, hFo, hSl, tw_at ht hT⟩⟩⟩, hS.F ht⟩) hS.2.2 dX11_piece_130
                · refine lq_top (v := 0) hre ?_
                  rw [ht] at hT
                  try simp only [hp_48, hp_49] at hf_53
                  clear hp_48 hp_49
                  refine lv_if_eq (tgt := 109) hx hb dX11_piece_91 (by decide) (fun c_154 => ?_) (fun c_154 => absurd c_154 (by decide))
                  refine lv_iconst (v := 0) hx hb dX11_piece_109 (by decide) ?_
                  refine lv_istore (lv' := [(10, .int 0), (0, .ref (a 0)), (1, .int p0), (2, .int p1), (3, .int p2), (4, .int p3), (5, .int p4), (6, .int p5), (7, .int p6), (8, .int p7), (9, .int p8)]) hx hb dX11_piece_110 hl (by decide) rfl (fun ls hl => ?_)
                  refine lv_iload hx hb dX11_piece_112 (lv_at hl 0 rfl) ?_
                  refine lv_if_eq (tgt := 129) hx hb dX11_piece_114 (by decide) (fun c_155 => ?_) (fun c_155 => absurd c_155 (by decide))
                  refine lv_iconst (v := (-1)) hx hb dX11_piece_129 (by decide) ?_
                  refine W.widen (k := 1) (n := 11) (Nat.le_of_ble_eq_true rfl) (Nat.le_of_ble_eq_true rfl) ?_
                  have hrv : (-1 : Int32).toInt = (-1) := (zk (x := (-1)) (-1) rfl)
                  exact W.iret (v := (-1)) hx hb hr (fun t ht hW9 => ⟨⟨(-1), (-1), rfl, rfl, Or.inl ⟨u, rfl, fun _ _ => rfl, by omega, ⟨τ, ln, y, g, hMo, hKM, hI, hFo, hSl, tw_at ht hT⟩⟩⟩, hS.F ht⟩) hS.2.2 dX11_piece_130
              · refine lq_top (v := 0) hre ?_
                rw [ht] at hT
                try simp only [hp_42] at hf_46
                clear hp_42
                refine lv_if_eq (tgt := 109) hx hb dX11_piece_80 (by decide) (fun c_156 => ?_) (fun c_156 => absurd c_156 (by decide))
                refine lv_iconst (v := 0) hx hb dX11_piece_109 (by decide) ?_
                refine lv_istore (lv' := [(10, .int 0), (0, .ref (a 0)), (1, .int p0), (2, .int p1), (3, .int p2), (4, .int p3), (5, .int p4), (6, .int p5), (7, .int p6), (8, .int p7), (9, .int p8)]) hx hb dX11_piece_110 hl (by decide) rfl (fun ls hl => ?_)
                refine lv_iload hx hb dX11_piece_112 (lv_at hl 0 rfl) ?_
                refine lv_if_eq (tgt := 129) hx hb dX11_piece_114 (by decide) (fun c_157 => ?_) (fun c_157 => absurd c_157 (by decide))
                refine lv_iconst (v := (-1)) hx hb dX11_piece_129 (by decide) ?_
                refine W.widen (k := 1) (n := 11) (Nat.le_of_ble_eq_true rfl) (Nat.le_of_ble_eq_true rfl) ?_
                have hrv : (-1 : Int32).toInt = (-1) := (zk (x := (-1)) (-1) rfl)
                exact W.iret (v := (-1)) hx hb hr (fun t ht hW9 => ⟨⟨(-1), (-1), rfl, rfl, Or.inl ⟨u, rfl, fun _ _ => rfl, by omega, ⟨τ, ln, y, g, hMo, hKM, hI, hFo, hSl, tw_at ht hT⟩⟩⟩, hS.F ht⟩) hS.2.2 dX11_piece_130
            · refine lq_top (v := 0) hre ?_
              rw [ht] at hT
              try simp only [hp_36] at hf_40
              clear hp_36
              refine lv_if_eq (tgt := 109) hx hb dX11_piece_67 (by decide) (fun c_158 => ?_) (fun c_158 => absurd c_158 (by decide))
              refine lv_iconst (v := 0) hx hb dX11_piece_109 (by decide) ?_
              refine lv_istore (lv' := [(10, .int 0), (0, .ref (a 0)), (1, .int p0), (2, .int p1), (3, .int p2), (4, .int p3), (5, .int p4), (6, .int p5), (7, .int p6), (8, .int p7), (9, .int p8)]) hx hb dX11_piece_110 hl (by decide) rfl (fun ls hl => ?_)
              refine lv_iload hx hb dX11_piece_112 (lv_at hl 0 rfl) ?_
              refine lv_if_eq (tgt := 129) hx hb dX11_piece_114 (by decide) (fun c_159 => ?_) (fun c_159 => absurd c_159 (by decide))
              refine lv_iconst (v := (-1)) hx hb dX11_piece_129 (by decide) ?_
              refine W.widen (k := 1) (n := 11) (Nat.le_of_ble_eq_true rfl) (Nat.le_of_ble_eq_true rfl) ?_
              have hrv : (-1 : Int32).toInt = (-1) := (zk (x := (-1)) (-1) rfl)
              exact W.iret (v := (-1)) hx hb hr (fun t ht hW9 => ⟨⟨(-1), (-1), rfl, rfl, Or.inl ⟨u, rfl, fun _ _ => rfl, by omega, ⟨τ, ln, y, g, hMo, hKM, hI, hFo, hSl, tw_at ht hT⟩⟩⟩, hS.F ht⟩) hS.2.2 dX11_piece_130
          · refine lq_top (v := 0) hre ?_
            rw [ht] at hT
            try simp only [hp_29, hp_30] at hf_34
            clear hp_29 hp_30
            refine lv_if_eq (tgt := 109) hx hb dX11_piece_49 (by decide) (fun c_160 => ?_) (fun c_160 => absurd c_160 (by decide))
            refine lv_iconst (v := 0) hx hb dX11_piece_109 (by decide) ?_
            refine lv_istore (lv' := [(10, .int 0), (0, .ref (a 0)), (1, .int p0), (2, .int p1), (3, .int p2), (4, .int p3), (5, .int p4), (6, .int p5), (7, .int p6), (8, .int p7), (9, .int p8)]) hx hb dX11_piece_110 hl (by decide) rfl (fun ls hl => ?_)
            refine lv_iload hx hb dX11_piece_112 (lv_at hl 0 rfl) ?_
            refine lv_if_eq (tgt := 129) hx hb dX11_piece_114 (by decide) (fun c_161 => ?_) (fun c_161 => absurd c_161 (by decide))
            refine lv_iconst (v := (-1)) hx hb dX11_piece_129 (by decide) ?_
            refine W.widen (k := 1) (n := 11) (Nat.le_of_ble_eq_true rfl) (Nat.le_of_ble_eq_true rfl) ?_
            have hrv : (-1 : Int32).toInt = (-1) := (zk (x := (-1)) (-1) rfl)
            exact W.iret (v := (-1)) hx hb hr (fun t ht hW9 => ⟨⟨(-1), (-1), rfl, rfl, Or.inl ⟨u, rfl, fun _ _ => rfl, by omega, ⟨τ, ln, y, g, hMo, hKM, hI, hFo, hSl, tw_at ht hT⟩⟩⟩, hS.F ht⟩) hS.2.2 dX11_piece_130
        · refine lq_top (v := 0) hre ?_
          rw [ht] at hT
          try simp only [hp_22, hp_23] at hf_27
          clear hp_22 hp_23
          refine lv_if_eq (tgt := 109) hx hb dX11_piece_38 (by decide) (fun c_162 => ?_) (fun c_162 => absurd c_162 (by decide))
          refine lv_iconst (v := 0) hx hb dX11_piece_109 (by decide) ?_
          refine lv_istore (lv' := [(10, .int 0), (0, .ref (a 0)), (1, .int p0), (2, .int p1), (3, .int p2), (4, .int p3), (5, .int p4), (6, .int p5), (7, .int p6), (8, .int p7), (9, .int p8)]) hx hb dX11_piece_110 hl (by decide) rfl (fun ls hl => ?_)
          refine lv_iload hx hb dX11_piece_112 (lv_at hl 0 rfl) ?_
          refine lv_if_eq (tgt := 129) hx hb dX11_piece_114 (by decide) (fun c_163 => ?_) (fun c_163 => absurd c_163 (by decide))
          refine lv_iconst (v := (-1)) hx hb dX11_piece_129 (by decide) ?_
          refine W.widen (k := 1) (n := 11) (Nat.le_of_ble_eq_true rfl) (Nat.le_of_ble_eq_true rfl) ?_
          have hrv : (-1 : Int32).toInt = (-1) := (zk (x := (-1)) (-1) rfl)
          exact W.iret (v := (-1)) hx hb hr (fun t ht hW9 => ⟨⟨(-1), (-1), rfl, rfl, Or.inl ⟨u, rfl, fun _ _ => rfl, by omega, ⟨τ, ln, y, g, hMo, hKM, hI, hFo, hSl, tw_at ht hT⟩⟩⟩, hS.F ht⟩) hS.2.2 dX11_piece_130
      · refine lq_top (v := 0) hre ?_
        rw [ht] at hT
        try simp only [hp_15, hp_16] at hf_20
        clear hp_15 hp_16
        refine lv_if_eq (tgt := 109) hx hb dX11_piece_28 (by decide) (fun c_164 => ?_) (fun c_164 => absurd c_164 (by decide))
        refine lv_iconst (v := 0) hx hb dX11_piece_109 (by decide) ?_
        refine lv_istore (lv' := [(10, .int 0), (0, .ref (a 0)), (1, .int p0), (2, .int p1), (3, .int p2), (4, .int p3), (5, .int p4), (6, .int p5), (7, .int p6), (8, .int p7), (9, .int p8)]) hx hb dX11_piece_110 hl (by decide) rfl (fun ls hl => ?_)
        refine lv_iload hx hb dX11_piece_112 (lv_at hl 0 rfl) ?_
        refine lv_if_eq (tgt := 129) hx hb dX11_piece_114 (by decide) (fun c_165 => ?_) (fun c_165 => absurd c_165 (by decide))
        refine lv_iconst (v := (-1)) hx hb dX11_piece_129 (by decide) ?_
        refine W.widen (k := 1) (n := 11) (Nat.le_of_ble_eq_true rfl) (Nat.le_of_ble_eq_true rfl) ?_
        have hrv : (-1 : Int32).toInt = (-1) := (zk (x := (-1)) (-1) rfl)
        exact W.iret (v := (-1)) hx hb hr (fun t ht hW9 => ⟨⟨(-1), (-1), rfl, rfl, Or.inl ⟨u, rfl, fun _ _ => rfl, by omega, ⟨τ, ln, y, g, hMo, hKM, hI, hFo, hSl, tw_at ht hT⟩⟩⟩, hS.F ht⟩) hS.2.2 dX11_piece_130
    · refine lq_top (v := 0) hre ?_
      rw [ht] at hT
      try simp only [hp_8, hp_9] at hf_13
      clear hp_8 hp_9
      refine lv_if_eq (tgt := 109) hx hb dX11_piece_17 (by decide) (fun c_166 => ?_) (fun c_166 => absurd c_166 (by decide))
      refine lv_iconst (v := 0) hx hb dX11_piece_109 (by decide) ?_
      refine lv_istore (lv' := [(10, .int 0), (0, .ref (a 0)), (1, .int p0), (2, .int p1), (3, .int p2), (4, .int p3), (5, .int p4), (6, .int p5), (7, .int p6), (8, .int p7), (9, .int p8)]) hx hb dX11_piece_110 hl (by decide) rfl (fun ls hl => ?_)
      refine lv_iload hx hb dX11_piece_112 (lv_at hl 0 rfl) ?_
      refine lv_if_eq (tgt := 129) hx hb dX11_piece_114 (by decide) (fun c_167 => ?_) (fun c_167 => absurd c_167 (by decide))
      refine lv_iconst (v := (-1)) hx hb dX11_piece_129 (by decide) ?_
      refine W.widen (k := 1) (n := 11) (Nat.le_of_ble_eq_true rfl) (Nat.le_of_ble_eq_true rfl) ?_
      have hrv : (-1 : Int32).toInt = (-1) := (zk (x := (-1)) (-1) rfl)
      exact W.iret (v := (-1)) hx hb hr (fun t ht hW9 => ⟨⟨(-1), (-1), rfl, rfl, Or.inl ⟨u, rfl, fun _ _ => rfl, by omega, ⟨τ, ln, y, g, hMo, hKM, hI, hFo, hSl, tw_at ht hT⟩⟩⟩, hS.F ht⟩) hS.2.2 dX11_piece_130
  · refine lq_top (v := 0) hre ?_
    rw [ht] at hT
    try simp only [hp_1, hp_2] at hf_6
    clear hp_1 hp_2
    refine lv_if_eq (tgt := 109) hx hb dX11_piece_7 (by decide) (fun c_168 => ?_) (fun c_168 => absurd c_168 (by decide))
    refine lv_iconst (v := 0) hx hb dX11_piece_109 (by decide) ?_
    refine lv_istore (lv' := [(10, .int 0), (0, .ref (a 0)), (1, .int p0), (2, .int p1), (3, .int p2), (4, .int p3), (5, .int p4), (6, .int p5), (7, .int p6), (8, .int p7), (9, .int p8)]) hx hb dX11_piece_110 hl (by decide) rfl (fun ls hl => ?_)
    refine lv_iload hx hb dX11_piece_112 (lv_at hl 0 rfl) ?_
    refine lv_if_eq (tgt := 129) hx hb dX11_piece_114 (by decide) (fun c_169 => ?_) (fun c_169 => absurd c_169 (by decide))
    refine lv_iconst (v := (-1)) hx hb dX11_piece_129 (by decide) ?_
    refine W.widen (k := 1) (n := 11) (Nat.le_of_ble_eq_true rfl) (Nat.le_of_ble_eq_true rfl) ?_
    have hrv : (-1 : Int32).toInt = (-1) := (zk (x := (-1)) (-1) rfl)
    exact W.iret (v := (-1)) hx hb hr (fun t ht hW9 => ⟨⟨(-1), (-1), rfl, rfl, Or.inl ⟨u, rfl, fun _ _ => rfl, by omega, ⟨τ, ln, y, g, hMo, hKM, hI, hFo, hSl, tw_at ht hT⟩⟩⟩, hS.F ht⟩) hS.2.2 dX11_piece_130
def wo_c_bitsX : List Cond := [.constant RJ6 265 (1431655765), .constant RJ6 266 (858993459), .constant RJ6 267 (252645135)]
def wm_c_bitsX : List Cond := .code yJ6_bitCount_0f7a4 cJ6_bitCount_0f7a4 1 (some .int) :: (wo_c_bitsX ++ ([] : List Cond))
theorem gd_c_bitsX : ∀ w ∈ wm_c_bitsX, goodWord w = true := gd_c rfl (gd_a (by decide) gd_nil)
set_option maxRecDepth 20000 in
theorem im_c_bitsX : ∀ w ∈ wm_c_bitsX, w ∈ lw_tbl := im_c (in_r [.code yJ6_bitCount_0f7a4 cJ6_bitCount_0f7a4 1 (some .int)] [807] (by decide +kernel)) (in_app (in_r wo_c_bitsX [808, 809, 810] (by decide +kernel)) im_nil)
set_option maxHeartbeats 4000000 in
set_option maxRecDepth 100000 in
theorem c_bitsX (l : Launch) (dC : Nat → ClassId) (dI : Nat → Nat → Nat) (ad av : Nat → Nat) (sz : Nat) (a : Nat → Nat) (k : Nat → ClassId) (τ ln : Nat → Nat) (y : Nat → Nat → Int32) (g : Nat → Nat → Option Nat) (u : Nat → Int) (p0 : Int32) : Met l yJ6_bitCount_0f7a4 wm_c_bitsX ({ frames := 0, cells := 0, slots := 0, locals := 0 }) (pw_ ad av (dC, dI) sz [.int p0] a k τ ln y g) (va_Qi (fun (r u : Int32) => u = r) (fun (r : Int32) (t : State) => (r = bcf p0 ∧ tw (dC, dI) a k τ ln y g t.heap)) (fr τ sz)) 0 0 (fr τ sz) := by
  refine Met.ofW (cc := cJ6_bitCount_0f7a4) (maxL := 1) (ret := (some .int)) (by decide) rfl ?_
  intro p e s m args below meth c s₁ B hml hv
  obtain ⟨rfl, hsz, hT, hK, hM⟩ := hv
  have hx := B.exec
  have hb := B.bytes
  have hr := B.returns
  have hts := atoms_spec (ws := wm_c_bitsX) B.pre
  have hown : s.vm.findClass RJ6 = some m.cls := findClass_of_methodNamed B.named
  have hlocks := B.notSynchronized
  subst hsz
  generalize hAe : fr τ s.heap.size = A at hM ⊢
  have hA : ∀ q : Nat, s.heap.size ≤ q → A q := fun q h => by rw [← hAe]; exact Or.inr h
  have hF : ∀ q, τ q ≠ 0 → A q := fun q h => by rw [← hAe]; exact Or.inl h
  have hS : va_S A s.heap s.heap [] := va_S.rf
  have hl := lv_entry ([.int p0]) (n := 1) (Nat.le_of_ble_eq_true rfl)
  rw [lg_entry_eq]
  generalize (lg_sl ([.int p0]) ++ List.replicate (1 - (lg_sl ([.int p0])).length) Slot.unset).toArray = ls at hl ⊢
  have hl : lv_has ls 1 [(0, .int p0)] := hl
  refine lv_iload_n hx hb dJ6_bitCount_0f7a4_0 rfl (lv_at hl 0 rfl) ?_
  refine lv_iload_n hx hb dJ6_bitCount_0f7a4_1 rfl (lv_at hl 0 rfl) ?_
  refine lv_iconst (v := 1) hx hb dJ6_bitCount_0f7a4_2 (by decide) ?_
  refine lv_iushr hx hb dJ6_bitCount_0f7a4_3 rfl ?_
  refine lv_topi (fun x_1 ex_1 => ?_)
  refine lv_ldcw hx hb hown (hts (.constant RJ6 265 (1431655765)) (List.mem_cons_of_mem _ (List.mem_append_left _ (List.mem_of_getElem? (i := 0) rfl)))) dJ6_bitCount_0f7a4_4 ?_
  refine lv_iand hx hb dJ6_bitCount_0f7a4_7 ?_
  refine lv_topi (fun x_2 ex_2 => ?_)
  have hx_2 := z_and (x := x_1) (zk (x := 1431655765) 1431655765 rfl) (by omega)
  rw [← ex_2] at hx_2
  refine lv_isub hx hb dJ6_bitCount_0f7a4_8 ?_
  refine lv_topi (fun x_3 ex_3 => ?_)
  refine lv_istore_n (lv' := [(0, .int x_3)]) hx hb dJ6_bitCount_0f7a4_9 rfl hl (by decide) rfl (fun ls hl => ?_)
  refine lv_iload_n hx hb dJ6_bitCount_0f7a4_10 rfl (lv_at hl 0 rfl) ?_
  refine lv_ldcw hx hb hown (hts (.constant RJ6 266 (858993459)) (List.mem_cons_of_mem _ (List.mem_append_left _ (List.mem_of_getElem? (i := 1) rfl)))) dJ6_bitCount_0f7a4_11 ?_
  refine lv_iand hx hb dJ6_bitCount_0f7a4_14 ?_
  refine lv_topi (fun x_4 ex_4 => ?_)
  have hx_4 := z_and (x := x_3) (zk (x := 858993459) 858993459 rfl) (by omega)
  rw [← ex_4] at hx_4
  refine lv_iload_n hx hb dJ6_bitCount_0f7a4_15 rfl (lv_at hl 0 rfl) ?_
  refine lv_iconst (v := 2) hx hb dJ6_bitCount_0f7a4_16 (by decide) ?_
  refine lv_iushr hx hb dJ6_bitCount_0f7a4_17 rfl ?_
  refine lv_topi (fun x_5 ex_5 => ?_)
  refine lv_ldcw hx hb hown (hts (.constant RJ6 266 (858993459)) (List.mem_cons_of_mem _ (List.mem_append_left _ (List.mem_of_getElem? (i := 1) rfl)))) dJ6_bitCount_0f7a4_18 ?_
  refine lv_iand hx hb dJ6_bitCount_0f7a4_21 ?_
  refine lv_topi (fun x_6 ex_6 => ?_)
  have hx_6 := z_and (x := x_5) (zk (x := 858993459) 858993459 rfl) (by omega)
  rw [← ex_6] at hx_6
  refine lv_iadd hx hb dJ6_bitCount_0f7a4_22 ?_
  refine lv_topi (fun x_7 ex_7 => ?_)
  have hx_7 := z_add ex_7 rfl rfl (by omega) (by omega)
  refine lv_istore_n (lv' := [(0, .int x_7)]) hx hb dJ6_bitCount_0f7a4_23 rfl hl (by decide) rfl (fun ls hl => ?_)
  refine lv_iload_n hx hb dJ6_bitCount_0f7a4_24 rfl (lv_at hl 0 rfl) ?_
  refine lv_iload_n hx hb dJ6_bitCount_0f7a4_25 rfl (lv_at hl 0 rfl) ?_
  refine lv_iconst (v := 4) hx hb dJ6_bitCount_0f7a4_26 (by decide) ?_
  refine lv_iushr hx hb dJ6_bitCount_0f7a4_27 rfl ?_
  refine lv_topi (fun x_8 ex_8 => ?_)
  refine lv_iadd hx hb dJ6_bitCount_0f7a4_28 ?_
  refine lv_topi (fun x_9 ex_9 => ?_)
  refine lv_ldcw hx hb hown (hts (.constant RJ6 267 (252645135)) (List.mem_cons_of_mem _ (List.mem_append_left _ (List.mem_of_getElem? (i := 2) rfl)))) dJ6_bitCount_0f7a4_29 ?_
  refine lv_iand hx hb dJ6_bitCount_0f7a4_32 ?_
  refine lv_topi (fun x_10 ex_10 => ?_)
  have hx_10 := z_and (x := x_9) (zk (x := 252645135) 252645135 rfl) (by omega)
  rw [← ex_10] at hx_10
  refine lv_istore_n (lv' := [(0, .int x_10)]) hx hb dJ6_bitCount_0f7a4_33 rfl hl (by decide) rfl (fun ls hl => ?_)
  refine lv_iload_n hx hb dJ6_bitCount_0f7a4_34 rfl (lv_at hl 0 rfl) ?_
  refine lv_iload_n hx hb dJ6_bitCount_0f7a4_35 rfl (lv_at hl 0 rfl) ?_
  refine lv_bipush (v := 8) hx hb dJ6_bitCount_0f7a4_36 (by decide) ?_
  refine lv_iushr hx hb dJ6_bitCount_0f7a4_38 rfl ?_
  refine lv_topi (fun x_11 ex_11 => ?_)
  refine lv_iadd hx hb dJ6_bitCount_0f7a4_39 ?_
  refine lv_topi (fun x_12 ex_12 => ?_)
  refine lv_istore_n (lv' := [(0, .int x_12)]) hx hb dJ6_bitCount_0f7a4_40 rfl hl (by decide) rfl (fun ls hl => ?_)
  refine lv_iload_n hx hb dJ6_bitCount_0f7a4_41 rfl (lv_at hl 0 rfl) ?_
  refine lv_iload_n hx hb dJ6_bitCount_0f7a4_42 rfl (lv_at hl 0 rfl) ?_
  refine lv_bipush (v := 16) hx hb dJ6_bitCount_0f7a4_43 (by decide) ?_
  refine lv_iushr hx hb dJ6_bitCount_0f7a4_45 rfl ?_
  refine lv_topi (fun x_13 ex_13 => ?_)
  refine lv_iadd hx hb dJ6_bitCount_0f7a4_46 ?_
  refine lv_topi (fun x_14 ex_14 => ?_)
  refine lv_istore_n (lv' := [(0, .int x_14)]) hx hb dJ6_bitCount_0f7a4_47 rfl hl (by decide) rfl (fun ls hl => ?_)
  refine lv_iload_n hx hb dJ6_bitCount_0f7a4_48 rfl (lv_at hl 0 rfl) ?_
  refine lv_bipush (v := 63) hx hb dJ6_bitCount_0f7a4_49 (by decide) ?_
  refine lv_iand hx hb dJ6_bitCount_0f7a4_51 ?_
  refine lv_topi (fun x_15 ex_15 => ?_)
  have hx_15 := z_and (x := x_14) (zk (x := 63) 63 rfl) (by omega)
  rw [← ex_15] at hx_15
  have hrv : x_15.toInt = x_15.toInt := rfl
  exact W.iret (v := x_15) hx hb hr (fun t ht hW9 => ⟨⟨x_15, x_15, rfl, rfl, ⟨(by rw [ex_15, ex_14, ex_13, ex_12, ex_11, ex_10, ex_9, ex_8, ex_7, ex_6, ex_5, ex_4, ex_3, ex_2, ex_1]; rfl), tw_at ht hT⟩⟩, hS.F ht⟩) hS.2.2 dJ6_bitCount_0f7a4_52
def wo_c_slipsLeftF : List Cond := [.fieldLink RX6 27 "TypingPool$Piece" "foundByFirst" "I", .fieldLink RX6 30 "TypingPool$Piece" "foundBySecond" "I", .methodLink RX6 21 yJ6_bitCount_0f7a4, .static yJ6_bitCount_0f7a4, .initialized RJ6]
def wm_c_slipsLeftF : List Cond := .code yX6_slipsLeft cX6_slipsLeft 4 (some .int) :: (wo_c_slipsLeftF ++ (wsX60 ++ (wm_c_bitsX ++ ([] : List Cond))))
theorem gd_c_slipsLeftF : ∀ w ∈ wm_c_slipsLeftF, goodWord w = true := gd_c rfl (gd_a (by decide) (gd_a gd_wsX60 (gd_a gd_c_bitsX gd_nil)))
set_option maxRecDepth 20000 in
theorem im_c_slipsLeftF : ∀ w ∈ wm_c_slipsLeftF, w ∈ lw_tbl := im_c (in_r [.code yX6_slipsLeft cX6_slipsLeft 4 (some .int)] [987] (by decide +kernel)) (in_app (in_r wo_c_slipsLeftF [692, 694, 805, 806, 90] (by decide +kernel)) (in_app im_wsX60 (in_app im_c_bitsX im_nil)))
set_option maxHeartbeats 4000000 in
set_option maxRecDepth 100000 in
theorem c_slipsLeftF (l : Launch) (dC : Nat → ClassId) (dI : Nat → Nat → Nat) (ad av : Nat → Nat) (sz : Nat) (a : Nat → Nat) (k : Nat → ClassId) (τ ln : Nat → Nat) (y : Nat → Nat → Int32) (g : Nat → Nat → Option Nat) (u : Nat → Int) (b0 : Nat) (hI : IC a u τ ln y g) (h_b0 : τ b0 = 2) : Met l yX6_slipsLeft wm_c_slipsLeftF ({ frames := 1, cells := 0, slots := 0, locals := 60 }) (pw_ ad av (dC, dI) sz [.ref b0] a k τ ln y g) (va_Qi (fun (r u : Int32) => u = r) (fun (r : Int32) (t : State) => (r = lf0 (y b0 9) (y b0 10) ∧ tw (dC, dI) a k τ ln y g t.heap)) (fr τ sz)) 0 0 (fr τ sz) := by
  refine Met.ofW (cc := cX6_slipsLeft) (maxL := 4) (ret := (some .int)) (by decide) rfl ?_
  intro p e s m args below meth c s₁ B hml hv
  obtain ⟨rfl, hsz, hT, hK, hM⟩ := hv
  have hx := B.exec
  have hb := B.bytes
  have hr := B.returns
  have hts := atoms_spec (ws := wm_c_slipsLeftF) B.pre
  have hown : s.vm.findClass RX6 = some m.cls := findClass_of_methodNamed B.named
  have hlocks := B.notSynchronized
  subst hsz
  generalize hAe : fr τ s.heap.size = A at hM ⊢
  have hA : ∀ q : Nat, s.heap.size ≤ q → A q := fun q h => by rw [← hAe]; exact Or.inr h
  have hF : ∀ q, τ q ≠ 0 → A q := fun q h => by rw [← hAe]; exact Or.inl h
  have hS : va_S A s.heap s.heap [] := va_S.rf
  have hX := hI.1
  have hR := ic_r hI
  have hl := lv_entry ([.ref b0]) (n := 4) (Nat.le_of_ble_eq_true rfl)
  rw [lg_entry_eq]
  generalize (lg_sl ([.ref b0]) ++ List.replicate (4 - (lg_sl ([.ref b0])).length) Slot.unset).toArray = ls at hl ⊢
  have hl : lv_has ls 4 [(0, .ref b0)] := hl
  refine lv_aload_n hx hb dX6_slipsLeft_0 rfl (lv_at hl 0 rfl) ?_
  refine tw_get (D := (dC, dI)) (v := .int (y b0 9)) (C := RX6) (T := TX6) (N := 11) hx hb hts (fun _ hh => (List.mem_cons_of_mem _ (List.mem_append_right _ (List.mem_append_left _ hh)))) hown hK hT h_b0 (by decide) cl_e2 rfl 9 (by decide) (hts (.fieldLink RX6 27 "TypingPool$Piece" "foundByFirst" "I") (List.mem_cons_of_mem _ (List.mem_append_left _ (List.mem_of_getElem? (i := 0) rfl)))) (fun _ h9 => h9) rfl dX6_slipsLeft_1 ?_
  refine lv_aload_n hx hb dX6_slipsLeft_4 rfl (lv_at hl 0 rfl) ?_
  refine tw_get (D := (dC, dI)) (v := .int (y b0 10)) (C := RX6) (T := TX6) (N := 11) hx hb hts (fun _ hh => (List.mem_cons_of_mem _ (List.mem_append_right _ (List.mem_append_left _ hh)))) hown hK hT h_b0 (by decide) cl_e2 rfl 10 (by decide) (hts (.fieldLink RX6 30 "TypingPool$Piece" "foundBySecond" "I") (List.mem_cons_of_mem _ (List.mem_append_left _ (List.mem_of_getElem? (i := 1) rfl)))) (fun _ h9 => h9) rfl dX6_slipsLeft_5 ?_
  refine lv_iand hx hb dX6_slipsLeft_8 ?_
  refine lv_topi (fun x_1 ex_1 => ?_)
  have hFc := tw_free hF hS hA
  refine va_calli (va_runS (As := [.int x_1]) (rest := []) ⟨hx, hb, hml, hown, hts⟩ (c_bitsX l dC dI ad av s.heap.size a k τ ln y g u x_1  ) (va_cwS 1 hts (gi_3 (List.mem_cons_of_mem _ (List.mem_append_left _ (List.mem_of_getElem? (i := 2) rfl))) (List.mem_cons_of_mem _ (List.mem_append_left _ (List.mem_of_getElem? (i := 3) rfl))) (List.mem_cons_of_mem _ (List.mem_append_left _ (List.mem_of_getElem? (i := 4) rfl))) (fun _ hh => (List.mem_cons_of_mem _ (List.mem_append_right _ (List.mem_append_right _ (List.mem_append_left _ hh))))) gd_c_bitsX) rfl rfl rfl (by decide +kernel) ⟨Nat.le_of_ble_eq_true rfl, Nat.le_of_ble_eq_true rfl⟩) ⟨pw_blind, pw_use hT hK hFc hS hM⟩ rfl rfl hl.1 rfl (lv_room (Nat.le_of_ble_eq_true rfl)) dX6_slipsLeft_9 ⟨Nat.le_of_ble_eq_true rfl, Nat.le_of_ble_eq_true rfl⟩) hS (fun q _ h => hFc q h) hFc (fun r0 r_2 t H locs ht hvm hw hB hz1 hk1 hS => ?_)
  refine W.widen (k := 0) (n := 0) (Nat.le_of_ble_eq_true rfl) (Nat.le_of_ble_eq_true rfl) ?_
  clear hvm hz1 hk1
  subst hw
  obtain ⟨hf_3, hT⟩ := hB
  rw [ht] at hT
  refine lv_istore_n (lv' := [(1, .int r_2), (0, .ref b0)]) hx hb dX6_slipsLeft_12 rfl hl (by decide) rfl (fun ls hl => ?_)
  refine lv_iload_n hx hb dX6_slipsLeft_13 rfl (lv_at hl 0 rfl) ?_
  refine lv_if_ne (tgt := 19) hx hb dX6_slipsLeft_14 (by decide) (fun c_4 => ?_) (fun c_4 => ?_)
  · have nc_4 := z_ne rfl (zk (x := 0) 0 rfl) c_4
    refine lv_aload_n hx hb dX6_slipsLeft_19 rfl (lv_at hl 1 rfl) ?_
    refine tw_get (D := (dC, dI)) (v := .int (y b0 9)) (C := RX6) (T := TX6) (N := 11) hx hb hts (fun _ hh => (List.mem_cons_of_mem _ (List.mem_append_right _ (List.mem_append_left _ hh)))) hown hK hT h_b0 (by decide) cl_e2 rfl 9 (by decide) (hts (.fieldLink RX6 27 "TypingPool$Piece" "foundByFirst" "I") (List.mem_cons_of_mem _ (List.mem_append_left _ (List.mem_of_getElem? (i := 0) rfl)))) (fun _ h9 => h9) rfl dX6_slipsLeft_20 ?_
    refine lv_aload_n hx hb dX6_slipsLeft_23 rfl (lv_at hl 1 rfl) ?_
    refine tw_get (D := (dC, dI)) (v := .int (y b0 10)) (C := RX6) (T := TX6) (N := 11) hx hb hts (fun _ hh => (List.mem_cons_of_mem _ (List.mem_append_right _ (List.mem_append_left _ hh)))) hown hK hT h_b0 (by decide) cl_e2 rfl 10 (by decide) (hts (.fieldLink RX6 30 "TypingPool$Piece" "foundBySecond" "I") (List.mem_cons_of_mem _ (List.mem_append_left _ (List.mem_of_getElem? (i := 1) rfl)))) (fun _ h9 => h9) rfl dX6_slipsLeft_24 ?_
    refine lv_iconst (v := (-1)) hx hb dX6_slipsLeft_27 (by decide) ?_
    refine lv_ixor hx hb dX6_slipsLeft_28 ?_
    refine lv_topi (fun x_5 ex_5 => ?_)
    refine lv_iand hx hb dX6_slipsLeft_29 ?_
    refine lv_topi (fun x_6 ex_6 => ?_)
    have hFc := tw_free hF hS hA
    refine va_calli (va_runS (As := [.int x_6]) (rest := []) ⟨hx, hb, hml, hown, hts⟩ (c_bitsX l dC dI ad av H.size a k τ ln y g u x_6  ) (va_cwS 1 hts (gi_3 (List.mem_cons_of_mem _ (List.mem_append_left _ (List.mem_of_getElem? (i := 2) rfl))) (List.mem_cons_of_mem _ (List.mem_append_left _ (List.mem_of_getElem? (i := 3) rfl))) (List.mem_cons_of_mem _ (List.mem_append_left _ (List.mem_of_getElem? (i := 4) rfl))) (fun _ hh => (List.mem_cons_of_mem _ (List.mem_append_right _ (List.mem_append_right _ (List.mem_append_left _ hh))))) gd_c_bitsX) rfl rfl rfl (by decide +kernel) ⟨Nat.le_of_ble_eq_true rfl, Nat.le_of_ble_eq_true rfl⟩) ⟨pw_blind, pw_use hT hK hFc hS hM⟩ rfl rfl hl.1 rfl (lv_room (Nat.le_of_ble_eq_true rfl)) dX6_slipsLeft_30 ⟨Nat.le_of_ble_eq_true rfl, Nat.le_of_ble_eq_true rfl⟩) hS (fun q _ h => hFc q h) hFc (fun r0 r_7 t H locs ht hvm hw hB hz1 hk1 hS => ?_)
    refine W.widen (k := 0) (n := 0) (Nat.le_of_ble_eq_true rfl) (Nat.le_of_ble_eq_true rfl) ?_
    clear hvm hz1 hk1
    subst hw
    obtain ⟨hf_8, hT⟩ := hB
    rw [ht] at hT
    refine lv_istore_n (lv' := [(2, .int r_7), (1, .int r_2), (0, .ref b0)]) hx hb dX6_slipsLeft_33 rfl hl (by decide) rfl (fun ls hl => ?_)
    refine lv_aload_n hx hb dX6_slipsLeft_34 rfl (lv_at hl 2 rfl) ?_
    refine tw_get (D := (dC, dI)) (v := .int (y b0 10)) (C := RX6) (T := TX6) (N := 11) hx hb hts (fun _ hh => (List.mem_cons_of_mem _ (List.mem_append_right _ (List.mem_append_left _ hh)))) hown hK hT h_b0 (by decide) cl_e2 rfl 10 (by decide) (hts (.fieldLink RX6 30 "TypingPool$Piece" "foundBySecond" "I") (List.mem_cons_of_mem _ (List.mem_append_left _ (List.mem_of_getElem? (i := 1) rfl)))) (fun _ h9 => h9) rfl dX6_slipsLeft_35 ?_
    refine lv_aload_n hx hb dX6_slipsLeft_38 rfl (lv_at hl 2 rfl) ?_
    refine tw_get (D := (dC, dI)) (v := .int (y b0 9)) (C := RX6) (T := TX6) (N := 11) hx hb hts (fun _ hh => (List.mem_cons_of_mem _ (List.mem_append_right _ (List.mem_append_left _ hh)))) hown hK hT h_b0 (by decide) cl_e2 rfl 9 (by decide) (hts (.fieldLink RX6 27 "TypingPool$Piece" "foundByFirst" "I") (List.mem_cons_of_mem _ (List.mem_append_left _ (List.mem_of_getElem? (i := 0) rfl)))) (fun _ h9 => h9) rfl dX6_slipsLeft_39 ?_
    refine lv_iconst (v := (-1)) hx hb dX6_slipsLeft_42 (by decide) ?_
    refine lv_ixor hx hb dX6_slipsLeft_43 ?_
    refine lv_topi (fun x_9 ex_9 => ?_)
    refine lv_iand hx hb dX6_slipsLeft_44 ?_
    refine lv_topi (fun x_10 ex_10 => ?_)
    have hFc := tw_free hF hS hA
    refine va_calli (va_runS (As := [.int x_10]) (rest := []) ⟨hx, hb, hml, hown, hts⟩ (c_bitsX l dC dI ad av H.size a k τ ln y g u x_10  ) (va_cwS 1 hts (gi_3 (List.mem_cons_of_mem _ (List.mem_append_left _ (List.mem_of_getElem? (i := 2) rfl))) (List.mem_cons_of_mem _ (List.mem_append_left _ (List.mem_of_getElem? (i := 3) rfl))) (List.mem_cons_of_mem _ (List.mem_append_left _ (List.mem_of_getElem? (i := 4) rfl))) (fun _ hh => (List.mem_cons_of_mem _ (List.mem_append_right _ (List.mem_append_right _ (List.mem_append_left _ hh))))) gd_c_bitsX) rfl rfl rfl (by decide +kernel) ⟨Nat.le_of_ble_eq_true rfl, Nat.le_of_ble_eq_true rfl⟩) ⟨pw_blind, pw_use hT hK hFc hS hM⟩ rfl rfl hl.1 rfl (lv_room (Nat.le_of_ble_eq_true rfl)) dX6_slipsLeft_45 ⟨Nat.le_of_ble_eq_true rfl, Nat.le_of_ble_eq_true rfl⟩) hS (fun q _ h => hFc q h) hFc (fun r0 r_11 t H locs ht hvm hw hB hz1 hk1 hS => ?_)
    refine W.widen (k := 0) (n := 0) (Nat.le_of_ble_eq_true rfl) (Nat.le_of_ble_eq_true rfl) ?_
    clear hvm hz1 hk1
    subst hw
    obtain ⟨hf_12, hT⟩ := hB
    rw [ht] at hT
    refine lv_istore_n (lv' := [(3, .int r_11), (2, .int r_7), (1, .int r_2), (0, .ref b0)]) hx hb dX6_slipsLeft_48 rfl hl (by decide) rfl (fun ls hl => ?_)
    refine lv_iload_n hx hb dX6_slipsLeft_49 rfl (lv_at hl 1 rfl) ?_
    refine lv_iload_n hx hb dX6_slipsLeft_50 rfl (lv_at hl 0 rfl) ?_
    refine lv_imul hx hb dX6_slipsLeft_51 ?_
    refine lv_topi (fun x_13 ex_13 => ?_)
    refine lv_iload_n hx hb dX6_slipsLeft_52 rfl (lv_at hl 2 rfl) ?_
    refine lv_idiv hx hb dX6_slipsLeft_53 (z_n0 rfl (by omega)) ?_
    refine lv_topi (fun x_14 ex_14 => ?_)
    have hrv : x_14.toInt = x_14.toInt := rfl
    exact W.iret (v := x_14) hx hb hr (fun t ht hW9 => ⟨⟨x_14, x_14, rfl, rfl, ⟨(by subst ex_14; subst ex_13; subst hf_12; subst ex_10; subst ex_9; subst hf_8; subst ex_6; subst ex_5; subst hf_3; subst ex_1; exact lf0_n c_4), tw_at ht hT⟩⟩, hS.F ht⟩) hS.2.2 dX6_slipsLeft_54
  · have nc_4 := z_eq rfl (zk (x := 0) 0 rfl) c_4
    refine lv_iconst (v := (-1)) hx hb dX6_slipsLeft_17 (by decide) ?_
    have hrv : (-1 : Int32).toInt = (-1) := (zk (x := (-1)) (-1) rfl)
    exact W.iret (v := (-1)) hx hb hr (fun t ht hW9 => ⟨⟨(-1), (-1), rfl, rfl, ⟨(by subst hf_3; subst ex_1; exact lf0_z c_4), tw_at ht hT⟩⟩, hS.F ht⟩) hS.2.2 dX6_slipsLeft_18
def wo_c_leftF : List Cond := [.fieldLink RX11 10 "TypingPool" "book" "LTypingPool$Book;", .methodLink RX11 201 yX1_hasPiece, .instanceMethod yX1_hasPiece, .selects RX1 yX1_hasPiece yX1_hasPiece, .initialized RX1, .fieldLink RX11 145 "TypingPool$Book" "pieces" "[LTypingPool$Piece;", .methodLink RX11 289 yX6_slipsLeft, .instanceMethod yX6_slipsLeft, .selects RX6 yX6_slipsLeft yX6_slipsLeft, .initialized RX6, .fieldLink RX11 283 "TypingPool$Piece" "foundByFirst" "I", .fieldLink RX11 286 "TypingPool$Piece" "foundBySecond" "I", .methodLink RX11 292 yJ6_bitCount_0f7a4, .static yJ6_bitCount_0f7a4, .initialized RJ6]
def wm_c_leftF : List Cond := .code yX11_left cX11_left 4 (some .int) :: (wo_c_leftF ++ (wsX110 ++ (wm_c_hasPiece ++ (wsX10 ++ (wm_c_slipsLeftF ++ (wsX60 ++ (wm_c_bitsX ++ ([] : List Cond))))))))
theorem gd_c_leftF : ∀ w ∈ wm_c_leftF, goodWord w = true := gd_c rfl (gd_a (by decide) (gd_a gd_wsX110 (gd_a gd_c_hasPiece (gd_a gd_wsX10 (gd_a gd_c_slipsLeftF (gd_a gd_wsX60 (gd_a gd_c_bitsX gd_nil)))))))
set_option maxRecDepth 20000 in
theorem im_c_leftF : ∀ w ∈ wm_c_leftF, w ∈ lw_tbl := im_c (in_r [.code yX11_left cX11_left 4 (some .int)] [983] (by decide +kernel)) (in_app (in_r wo_c_leftF [559, 859, 841, 842, 71, 127, 984, 985, 986, 89, 693, 695, 988, 806, 90] (by decide +kernel)) (in_app im_wsX110 (in_app im_c_hasPiece (in_app im_wsX10 (in_app im_c_slipsLeftF (in_app im_wsX60 (in_app im_c_bitsX im_nil)))))))
set_option maxHeartbeats 4000000 in
set_option maxRecDepth 100000 in
theorem c_leftF (l : Launch) (dC : Nat → ClassId) (dI : Nat → Nat → Nat) (ad av : Nat → Nat) (sz : Nat) (a : Nat → Nat) (k : Nat → ClassId) (τ ln : Nat → Nat) (y : Nat → Nat → Int32) (g : Nat → Nat → Option Nat) (u : Nat → Int) (p0 : Int32) (p1 : Int32) (hI : IC a u τ ln y g) (hSl : SLf a (u 2) g y (y (a 83))) : Met l yX11_left wm_c_leftF ({ frames := 2, cells := 0, slots := 0, locals := 120 }) (pw_ ad av (dC, dI) sz [.ref (a 0), .int p0, .int p1] a k τ ln y g) (va_Qi (fun (r u : Int32) => u = r) (fun (r : Int32) (t : State) => (∃ (u' : Nat → Int), (∀ i, i ∉ ([] : List Nat) → u' i = u i) ∧ r = lF (y (a 83)) (u 2) p0 p1 ∧ pq (dC, dI) a k τ y g u' sz t.heap)) (fr τ sz)) 0 0 (fr τ sz) := by
  refine Met.ofW (cc := cX11_left) (maxL := 4) (ret := (some .int)) (by decide) rfl ?_
  intro p e s m args below meth c s₁ B hml hv
  obtain ⟨rfl, hsz, hT, hK, hM⟩ := hv
  have hx := B.exec
  have hb := B.bytes
  have hr := B.returns
  have hts := atoms_spec (ws := wm_c_leftF) B.pre
  have hown : s.vm.findClass RX11 = some m.cls := findClass_of_methodNamed B.named
  have hlocks := B.notSynchronized
  subst hsz
  generalize hAe : fr τ s.heap.size = A at hM ⊢
  have hA : ∀ q : Nat, s.heap.size ≤ q → A q := fun q h => by rw [← hAe]; exact Or.inr h
  have hF : ∀ q, τ q ≠ 0 → A q := fun q h => by rw [← hAe]; exact Or.inl h
  have hS : va_S A s.heap s.heap [] := va_S.rf
  have hX := hI.1
  have hR := ic_r hI
  have hMo : mono τ τ s.heap.size := mono.rf
  have hKM : kpM τ y g y g := kpM.rf
  have hl := lv_entry ([.ref (a 0), .int p0, .int p1]) (n := 4) (Nat.le_of_ble_eq_true rfl)
  rw [lg_entry_eq]
  generalize (lg_sl ([.ref (a 0), .int p0, .int p1]) ++ List.replicate (4 - (lg_sl ([.ref (a 0), .int p0, .int p1])).length) Slot.unset).toArray = ls at hl ⊢
  have hl : lv_has ls 4 [(0, .ref (a 0)), (1, .int p0), (2, .int p1)] := hl
  refine lv_aload_n hx hb dX11_left_0 rfl (lv_at hl 0 rfl) ?_
  refine tw_get (D := (dC, dI)) (v := .ref (a 1)) (C := RX11) (T := TX11) (N := 10) hx hb hts (fun _ hh => (List.mem_cons_of_mem _ (List.mem_append_right _ (List.mem_append_left _ hh)))) hown hK hT (fx_0 hX) (by decide) cl_e10 rfl 0 (by decide) (hts (.fieldLink RX11 10 "TypingPool" "book" "LTypingPool$Book;") (List.mem_cons_of_mem _ (List.mem_append_left _ (List.mem_of_getElem? (i := 0) rfl)))) (fun _ h9 => h9) rfl dX11_left_1 ?_
  refine lv_iload_n hx hb dX11_left_4 rfl (lv_at hl 1 rfl) ?_
  have hFc := tw_free hF hS hA
  refine va_calli (va_runV (As := [.int p0]) (rest := []) ⟨hx, hb, hml, hown, hts⟩ (c_hasPiece l dC dI ad av s.heap.size a k τ ln y g u p0 hI ) (cwV 1 hts (gi_4 (List.mem_cons_of_mem _ (List.mem_append_left _ (List.mem_of_getElem? (i := 1) rfl))) (List.mem_cons_of_mem _ (List.mem_append_left _ (List.mem_of_getElem? (i := 2) rfl))) (List.mem_cons_of_mem _ (List.mem_append_left _ (List.mem_of_getElem? (i := 3) rfl))) (List.mem_cons_of_mem _ (List.mem_append_left _ (List.mem_of_getElem? (i := 4) rfl))) (fun _ hh => (List.mem_cons_of_mem _ (List.mem_append_right _ (List.mem_append_right _ (List.mem_append_left _ hh))))) gd_c_hasPiece) rfl rfl rfl (by decide +kernel) ⟨Nat.le_of_ble_eq_true rfl, Nat.le_of_ble_eq_true rfl⟩) ⟨pw_blind, tw_recv hK hT (fx_1 hX) (by decide) cl_e11 rfl, pw_use hT hK hFc hS hM⟩ rfl rfl hl.1 rfl (lv_room (Nat.le_of_ble_eq_true rfl)) dX11_left_5 ⟨Nat.le_of_ble_eq_true rfl, Nat.le_of_ble_eq_true rfl⟩) hS (fun q _ h => hFc q h) hFc (fun r0 r_1 t H locs ht hvm hw hB hz1 hk1 hS => ?_)
  refine W.widen (k := 0) (n := 0) (Nat.le_of_ble_eq_true rfl) (Nat.le_of_ble_eq_true rfl) ?_
  clear hvm hz1 hk1
  subst hw
  rcases hB with ⟨hre, hf_2, hf_3, hT⟩ | ⟨hre, hf_4, hT⟩
  · refine lq_top (v := 1) hre ?_
    rw [ht] at hT
    refine lv_if_ne (tgt := 13) hx hb dX11_left_8 (by decide) (fun c_5 => ?_) (fun c_5 => absurd c_5 (by decide))
    refine lv_aload_n hx hb dX11_left_13 rfl (lv_at hl 0 rfl) ?_
    refine tw_get (D := (dC, dI)) (v := .ref (a 1)) (C := RX11) (T := TX11) (N := 10) hx hb hts (fun _ hh => (List.mem_cons_of_mem _ (List.mem_append_right _ (List.mem_append_left _ hh)))) hown hK hT (fx_0 hX) (by decide) cl_e10 rfl 0 (by decide) (hts (.fieldLink RX11 10 "TypingPool" "book" "LTypingPool$Book;") (List.mem_cons_of_mem _ (List.mem_append_left _ (List.mem_of_getElem? (i := 0) rfl)))) (fun _ h9 => h9) rfl dX11_left_14 ?_
    refine tw_get (D := (dC, dI)) (v := .ref (a 11)) (C := RX1) (T := TX1) (N := 8) hx hb hts (fun _ hh => (List.mem_cons_of_mem _ (List.mem_append_right _ (List.mem_append_right _ (List.mem_append_right _ (List.mem_append_left _ hh)))))) hown hK hT (fx_1 hX) (by decide) cl_e11 rfl 4 (by decide) (hts (.fieldLink RX11 145 "TypingPool$Book" "pieces" "[LTypingPool$Piece;") (List.mem_cons_of_mem _ (List.mem_append_left _ (List.mem_of_getElem? (i := 5) rfl)))) (fun _ h9 => h9) rfl dX11_left_17 ?_
    refine lv_iload_n hx hb dX11_left_20 rfl (lv_at hl 1 rfl) ?_
    refine tw_aald hx hb hK hT 4 (fx_11 hX) (by decide) cl_e21 rfl (z_in rfl (by omega) (by omega)) dX11_left_21 ?_
    obtain ⟨q_6, hgq_6, htq_6⟩ := ic_l11 hI (x := p0) rfl (by omega) (by omega)
    refine lq_topr hgq_6 ?_
    refine lv_astore_n (lv' := [(3, .ref q_6), (0, .ref (a 0)), (1, .int p0), (2, .int p1)]) hx hb dX11_left_22 rfl hl (by decide) rfl (fun ls hl => ?_)
    refine lv_iload_n hx hb dX11_left_23 rfl (lv_at hl 3 rfl) ?_
    rcases tb_0_2 p1 with t_7 | t_7 | t_7 | t_7
    · refine lq_top (v := 0) t_7 ?_
      have nt_7 := z_eq rfl (zk (x := 0) 0 rfl) t_7
      refine lv_tableIn (tgt := 52) hx hb dX11_left_24 (by decide) (by decide) (off := 28) (by decide) (by decide) ?_
      refine lv_aload_n hx hb dX11_left_52 rfl (lv_at hl 0 rfl) ?_
      have hFc := tw_free hF hS hA
      refine va_calli (va_runV (As := []) (rest := []) ⟨hx, hb, hml, hown, hts⟩ (c_slipsLeftF l dC dI ad av H.size a k τ ln y g u q_6 hI htq_6) (cwV 0 hts (gi_4 (List.mem_cons_of_mem _ (List.mem_append_left _ (List.mem_of_getElem? (i := 6) rfl))) (List.mem_cons_of_mem _ (List.mem_append_left _ (List.mem_of_getElem? (i := 7) rfl))) (List.mem_cons_of_mem _ (List.mem_append_left _ (List.mem_of_getElem? (i := 8) rfl))) (List.mem_cons_of_mem _ (List.mem_append_left _ (List.mem_of_getElem? (i := 9) rfl))) (fun _ hh => (List.mem_cons_of_mem _ (List.mem_append_right _ (List.mem_append_right _ (List.mem_append_right _ (List.mem_append_right _ (List.mem_append_left _ hh))))))) gd_c_slipsLeftF) rfl rfl rfl (by decide +kernel) ⟨Nat.le_of_ble_eq_true rfl, Nat.le_of_ble_eq_true rfl⟩) ⟨pw_blind, tw_recv hK hT htq_6 (by decide) cl_e2 rfl, pw_use hT hK hFc hS hM⟩ rfl rfl hl.1 rfl (lv_room (Nat.le_of_ble_eq_true rfl)) dX11_left_53 ⟨Nat.le_of_ble_eq_true rfl, Nat.le_of_ble_eq_true rfl⟩) hS (fun q _ h => hFc q h) hFc (fun r0 r_8 t H locs ht hvm hw hB hz1 hk1 hS => ?_)
      refine W.widen (k := 0) (n := 0) (Nat.le_of_ble_eq_true rfl) (Nat.le_of_ble_eq_true rfl) ?_
      clear hvm hz1 hk1
      subst hw
      obtain ⟨hf_9, hT⟩ := hB
      rw [ht] at hT
      have hrv : r_8.toInt = r_8.toInt := rfl
      exact W.iret (v := r_8) hx hb hr (fun t ht hW9 => ⟨⟨r_8, r_8, rfl, rfl, ⟨u, fun _ _ => rfl, (by subst hf_9; exact lF_0 ⟨by omega, by omega⟩ (by omega) (hSl.1 _ (by rw [n_c (x := p0) rfl (by omega)]; omega) _ hgq_6).1 (hSl.1 _ (by rw [n_c (x := p0) rfl (by omega)]; omega) _ hgq_6).2), ⟨τ, ln, y, g, hMo, hKM, hI, tw_at ht hT⟩⟩⟩, hS.F ht⟩) hS.2.2 dX11_left_56
    · refine lq_top (v := 1) t_7 ?_
      have nt_7 := z_eq rfl (zk (x := 1) 1 rfl) t_7
      refine lv_tableIn (tgt := 57) hx hb dX11_left_24 (by decide) (by decide) (off := 33) (by decide) (by decide) ?_
      refine lv_aload_n hx hb dX11_left_57 rfl (lv_at hl 0 rfl) ?_
      refine tw_get (D := (dC, dI)) (v := .int (y q_6 9)) (C := RX6) (T := TX6) (N := 11) hx hb hts (fun _ hh => (List.mem_cons_of_mem _ (List.mem_append_right _ (List.mem_append_right _ (List.mem_append_right _ (List.mem_append_right _ (List.mem_append_right _ (List.mem_append_left _ hh)))))))) hown hK hT htq_6 (by decide) cl_e2 rfl 9 (by decide) (hts (.fieldLink RX11 283 "TypingPool$Piece" "foundByFirst" "I") (List.mem_cons_of_mem _ (List.mem_append_left _ (List.mem_of_getElem? (i := 10) rfl)))) (fun _ h9 => h9) rfl dX11_left_58 ?_
      refine lv_aload_n hx hb dX11_left_61 rfl (lv_at hl 0 rfl) ?_
      refine tw_get (D := (dC, dI)) (v := .int (y q_6 10)) (C := RX6) (T := TX6) (N := 11) hx hb hts (fun _ hh => (List.mem_cons_of_mem _ (List.mem_append_right _ (List.mem_append_right _ (List.mem_append_right _ (List.mem_append_right _ (List.mem_append_right _ (List.mem_append_left _ hh)))))))) hown hK hT htq_6 (by decide) cl_e2 rfl 10 (by decide) (hts (.fieldLink RX11 286 "TypingPool$Piece" "foundBySecond" "I") (List.mem_cons_of_mem _ (List.mem_append_left _ (List.mem_of_getElem? (i := 11) rfl)))) (fun _ h9 => h9) rfl dX11_left_62 ?_
      refine lv_ior hx hb dX11_left_65 ?_
      refine lv_topi (fun x_10 ex_10 => ?_)
      have hFc := tw_free hF hS hA
      refine va_calli (va_runS (As := [.int x_10]) (rest := []) ⟨hx, hb, hml, hown, hts⟩ (c_bitsX l dC dI ad av H.size a k τ ln y g u x_10  ) (va_cwS 1 hts (gi_3 (List.mem_cons_of_mem _ (List.mem_append_left _ (List.mem_of_getElem? (i := 12) rfl))) (List.mem_cons_of_mem _ (List.mem_append_left _ (List.mem_of_getElem? (i := 13) rfl))) (List.mem_cons_of_mem _ (List.mem_append_left _ (List.mem_of_getElem? (i := 14) rfl))) (fun _ hh => (List.mem_cons_of_mem _ (List.mem_append_right _ (List.mem_append_right _ (List.mem_append_right _ (List.mem_append_right _ (List.mem_append_right _ (List.mem_append_right _ (List.mem_append_left _ hh))))))))) gd_c_bitsX) rfl rfl rfl (by decide +kernel) ⟨Nat.le_of_ble_eq_true rfl, Nat.le_of_ble_eq_true rfl⟩) ⟨pw_blind, pw_use hT hK hFc hS hM⟩ rfl rfl hl.1 rfl (lv_room (Nat.le_of_ble_eq_true rfl)) dX11_left_66 ⟨Nat.le_of_ble_eq_true rfl, Nat.le_of_ble_eq_true rfl⟩) hS (fun q _ h => hFc q h) hFc (fun r0 r_11 t H locs ht hvm hw hB hz1 hk1 hS => ?_)
      refine W.widen (k := 0) (n := 0) (Nat.le_of_ble_eq_true rfl) (Nat.le_of_ble_eq_true rfl) ?_
      clear hvm hz1 hk1
      subst hw
      obtain ⟨hf_12, hT⟩ := hB
      rw [ht] at hT
      have hrv : r_11.toInt = r_11.toInt := rfl
      exact W.iret (v := r_11) hx hb hr (fun t ht hW9 => ⟨⟨r_11, r_11, rfl, rfl, ⟨u, fun _ _ => rfl, (by subst hf_12; subst ex_10; exact lF_1 ⟨by omega, by omega⟩ (by omega) (hSl.1 _ (by rw [n_c (x := p0) rfl (by omega)]; omega) _ hgq_6).1 (hSl.1 _ (by rw [n_c (x := p0) rfl (by omega)]; omega) _ hgq_6).2), ⟨τ, ln, y, g, hMo, hKM, hI, tw_at ht hT⟩⟩⟩, hS.F ht⟩) hS.2.2 dX11_left_69
    · refine lq_top (v := 2) t_7 ?_
      have nt_7 := z_eq rfl (zk (x := 2) 2 rfl) t_7
      refine lv_tableIn (tgt := 70) hx hb dX11_left_24 (by decide) (by decide) (off := 46) (by decide) (by decide) ?_
      refine lv_aload_n hx hb dX11_left_70 rfl (lv_at hl 0 rfl) ?_
      refine tw_get (D := (dC, dI)) (v := .int (y q_6 9)) (C := RX6) (T := TX6) (N := 11) hx hb hts (fun _ hh => (List.mem_cons_of_mem _ (List.mem_append_right _ (List.mem_append_right _ (List.mem_append_right _ (List.mem_append_right _ (List.mem_append_right _ (List.mem_append_left _ hh)))))))) hown hK hT htq_6 (by decide) cl_e2 rfl 9 (by decide) (hts (.fieldLink RX11 283 "TypingPool$Piece" "foundByFirst" "I") (List.mem_cons_of_mem _ (List.mem_append_left _ (List.mem_of_getElem? (i := 10) rfl)))) (fun _ h9 => h9) rfl dX11_left_71 ?_
      refine lv_aload_n hx hb dX11_left_74 rfl (lv_at hl 0 rfl) ?_
      refine tw_get (D := (dC, dI)) (v := .int (y q_6 10)) (C := RX6) (T := TX6) (N := 11) hx hb hts (fun _ hh => (List.mem_cons_of_mem _ (List.mem_append_right _ (List.mem_append_right _ (List.mem_append_right _ (List.mem_append_right _ (List.mem_append_right _ (List.mem_append_left _ hh)))))))) hown hK hT htq_6 (by decide) cl_e2 rfl 10 (by decide) (hts (.fieldLink RX11 286 "TypingPool$Piece" "foundBySecond" "I") (List.mem_cons_of_mem _ (List.mem_append_left _ (List.mem_of_getElem? (i := 11) rfl)))) (fun _ h9 => h9) rfl dX11_left_75 ?_
      refine lv_iand hx hb dX11_left_78 ?_
      refine lv_topi (fun x_13 ex_13 => ?_)
      have hFc := tw_free hF hS hA
      refine va_calli (va_runS (As := [.int x_13]) (rest := []) ⟨hx, hb, hml, hown, hts⟩ (c_bitsX l dC dI ad av H.size a k τ ln y g u x_13  ) (va_cwS 1 hts (gi_3 (List.mem_cons_of_mem _ (List.mem_append_left _ (List.mem_of_getElem? (i := 12) rfl))) (List.mem_cons_of_mem _ (List.mem_append_left _ (List.mem_of_getElem? (i := 13) rfl))) (List.mem_cons_of_mem _ (List.mem_append_left _ (List.mem_of_getElem? (i := 14) rfl))) (fun _ hh => (List.mem_cons_of_mem _ (List.mem_append_right _ (List.mem_append_right _ (List.mem_append_right _ (List.mem_append_right _ (List.mem_append_right _ (List.mem_append_right _ (List.mem_append_left _ hh))))))))) gd_c_bitsX) rfl rfl rfl (by decide +kernel) ⟨Nat.le_of_ble_eq_true rfl, Nat.le_of_ble_eq_true rfl⟩) ⟨pw_blind, pw_use hT hK hFc hS hM⟩ rfl rfl hl.1 rfl (lv_room (Nat.le_of_ble_eq_true rfl)) dX11_left_79 ⟨Nat.le_of_ble_eq_true rfl, Nat.le_of_ble_eq_true rfl⟩) hS (fun q _ h => hFc q h) hFc (fun r0 r_14 t H locs ht hvm hw hB hz1 hk1 hS => ?_)
      refine W.widen (k := 0) (n := 0) (Nat.le_of_ble_eq_true rfl) (Nat.le_of_ble_eq_true rfl) ?_
      clear hvm hz1 hk1
      subst hw
      obtain ⟨hf_15, hT⟩ := hB
      rw [ht] at hT
      have hrv : r_14.toInt = r_14.toInt := rfl
      exact W.iret (v := r_14) hx hb hr (fun t ht hW9 => ⟨⟨r_14, r_14, rfl, rfl, ⟨u, fun _ _ => rfl, (by subst hf_15; subst ex_13; exact lF_2 ⟨by omega, by omega⟩ (by omega) (hSl.1 _ (by rw [n_c (x := p0) rfl (by omega)]; omega) _ hgq_6).1 (hSl.1 _ (by rw [n_c (x := p0) rfl (by omega)]; omega) _ hgq_6).2), ⟨τ, ln, y, g, hMo, hKM, hI, tw_at ht hT⟩⟩⟩, hS.F ht⟩) hS.2.2 dX11_left_82
    · refine lv_tableOut (tgt := 83) hx hb dX11_left_24 t_7 (by decide) ?_
      refine lv_iconst (v := (-1)) hx hb dX11_left_83 (by decide) ?_
      have hrv : (-1 : Int32).toInt = (-1) := (zk (x := (-1)) (-1) rfl)
      exact W.iret (v := (-1)) hx hb hr (fun t ht hW9 => ⟨⟨(-1), (-1), rfl, rfl, ⟨u, fun _ _ => rfl, (lF_out (by omega)), ⟨τ, ln, y, g, hMo, hKM, hI, tw_at ht hT⟩⟩⟩, hS.F ht⟩) hS.2.2 dX11_left_84
  · refine lq_top (v := 0) hre ?_
    rw [ht] at hT
    refine lv_if_ne (tgt := 13) hx hb dX11_left_8 (by decide) (fun c_16 => absurd c_16 (by decide)) (fun c_16 => ?_)
    refine lv_iconst (v := (-1)) hx hb dX11_left_11 (by decide) ?_
    have hrv : (-1 : Int32).toInt = (-1) := (zk (x := (-1)) (-1) rfl)
    exact W.iret (v := (-1)) hx hb hr (fun t ht hW9 => ⟨⟨(-1), (-1), rfl, rfl, ⟨u, fun _ _ => rfl, (lF_out (by omega)), ⟨τ, ln, y, g, hMo, hKM, hI, tw_at ht hT⟩⟩⟩, hS.F ht⟩) hS.2.2 dX11_left_12
def wo_c_slipsF : List Cond := [.fieldLink RX11 10 "TypingPool" "book" "LTypingPool$Book;", .methodLink RX11 201 yX1_hasPiece, .instanceMethod yX1_hasPiece, .selects RX1 yX1_hasPiece yX1_hasPiece, .initialized RX1, .methodLink RX11 68 yX11_within, .static yX11_within, .initialized RX11, .constant RX11 78 (65535), .fieldLink RX11 145 "TypingPool$Book" "pieces" "[LTypingPool$Piece;", .fieldLink RX11 286 "TypingPool$Piece" "foundBySecond" "I", .fieldLink RX11 283 "TypingPool$Piece" "foundByFirst" "I"]
def wm_c_slipsF : List Cond := .code yX11_slips cX11_slips 4 (some .boolean) :: (wo_c_slipsF ++ (wsX110 ++ (wm_c_hasPiece ++ (wm_c_within ++ (wsX10 ++ (wsX60 ++ ([] : List Cond)))))))
theorem gd_c_slipsF : ∀ w ∈ wm_c_slipsF, goodWord w = true := gd_c rfl (gd_a (by decide) (gd_a gd_wsX110 (gd_a gd_c_hasPiece (gd_a gd_c_within (gd_a gd_wsX10 (gd_a gd_wsX60 gd_nil))))))
set_option maxRecDepth 20000 in
theorem im_c_slipsF : ∀ w ∈ wm_c_slipsF, w ∈ lw_tbl := im_c (in_r [.code yX11_slips cX11_slips 4 (some .boolean)] [979] (by decide +kernel)) (in_app (in_r wo_c_slipsF [559, 859, 841, 842, 71, 594, 595, 70, 601, 127, 695, 693] (by decide +kernel)) (in_app im_wsX110 (in_app im_c_hasPiece (in_app im_c_within (in_app im_wsX10 (in_app im_wsX60 im_nil))))))
set_option maxHeartbeats 4000000 in
set_option maxRecDepth 100000 in
theorem c_slipsF (l : Launch) (dC : Nat → ClassId) (dI : Nat → Nat → Nat) (ad av : Nat → Nat) (sz : Nat) (a : Nat → Nat) (k : Nat → ClassId) (τ ln : Nat → Nat) (y : Nat → Nat → Int32) (g : Nat → Nat → Option Nat) (u : Nat → Int) (p0 : Int32) (p1 : Int32) (p2 : Int32) (hI : IC a u τ ln y g) (hFo : FLo a u g y) (hSl : SLf a (u 2) g y (y (a 83))) : Met l yX11_slips wm_c_slipsF ({ frames := 1, cells := 0, slots := 0, locals := 60 }) (pw_ ad av (dC, dI) sz [.ref (a 0), .int p0, .int p1, .int p2] a k τ ln y g) (va_Qi (fun (r u : Int32) => u = r) (fun (r : Int32) (t : State) => (∃ (u' : Nat → Int), r = 1 ∧ (∀ i, i ∉ ([] : List Nat) → u' i = u i) ∧ ((0 ≤ p0.toInt ∧ p0.toInt < u 2 ∧ 0 ≤ p1.toInt ∧ p1.toInt ≤ 1 ∧ 0 ≤ p2.toInt ∧ p2.toInt ≤ 65535)) ∧ pq0 (dC, dI) a k τ y g u' (upd (y (a 83)) (2 * p0.toInt + p1.toInt).toNat p2) sz t.heap) ∨ (∃ (u' : Nat → Int), r = 0 ∧ (∀ i, i ∉ ([] : List Nat) → u' i = u i) ∧ (¬ (0 ≤ p0.toInt ∧ p0.toInt < u 2 ∧ 0 ≤ p1.toInt ∧ p1.toInt ≤ 1 ∧ 0 ≤ p2.toInt ∧ p2.toInt ≤ 65535)) ∧ pq0 (dC, dI) a k τ y g u' (y (a 83)) sz t.heap)) (fr τ sz)) 0 0 (fr τ sz) := by
  refine Met.ofW (cc := cX11_slips) (maxL := 4) (ret := (some .boolean)) (by decide) rfl ?_
  intro p e s m args below meth c s₁ B hml hv
  obtain ⟨rfl, hsz, hT, hK, hM⟩ := hv
  have hx := B.exec
  have hb := B.bytes
  have hr := B.returns
  have hts := atoms_spec (ws := wm_c_slipsF) B.pre
  have hown : s.vm.findClass RX11 = some m.cls := findClass_of_methodNamed B.named
  have hlocks := B.notSynchronized
  subst hsz
  generalize hAe : fr τ s.heap.size = A at hM ⊢
  have hA : ∀ q : Nat, s.heap.size ≤ q → A q := fun q h => by rw [← hAe]; exact Or.inr h
  have hF : ∀ q, τ q ≠ 0 → A q := fun q h => by rw [← hAe]; exact Or.inl h
  have hS : va_S A s.heap s.heap [] := va_S.rf
  have hX := hI.1
  have hR := ic_r hI
  have hMo : mono τ τ s.heap.size := mono.rf
  have hKM : kpM0 τ y g y g := kpM0.rf
  have hl := lv_entry ([.ref (a 0), .int p0, .int p1, .int p2]) (n := 4) (Nat.le_of_ble_eq_true rfl)
  rw [lg_entry_eq]
  generalize (lg_sl ([.ref (a 0), .int p0, .int p1, .int p2]) ++ List.replicate (4 - (lg_sl ([.ref (a 0), .int p0, .int p1, .int p2])).length) Slot.unset).toArray = ls at hl ⊢
  have hl : lv_has ls 4 [(0, .ref (a 0)), (1, .int p0), (2, .int p1), (3, .int p2)] := hl
  have hIz := hI
  refine lv_aload_n hx hb dX11_slips_0 rfl (lv_at hl 0 rfl) ?_
  refine tw_get (D := (dC, dI)) (v := .ref (a 1)) (C := RX11) (T := TX11) (N := 10) hx hb hts (fun _ hh => (List.mem_cons_of_mem _ (List.mem_append_right _ (List.mem_append_left _ hh)))) hown hK hT (fx_0 hX) (by decide) cl_e10 rfl 0 (by decide) (hts (.fieldLink RX11 10 "TypingPool" "book" "LTypingPool$Book;") (List.mem_cons_of_mem _ (List.mem_append_left _ (List.mem_of_getElem? (i := 0) rfl)))) (fun _ h9 => h9) rfl dX11_slips_1 ?_
  refine lv_iload_n hx hb dX11_slips_4 rfl (lv_at hl 1 rfl) ?_
  have hFc := tw_free hF hS hA
  refine va_calli (va_runV (As := [.int p0]) (rest := []) ⟨hx, hb, hml, hown, hts⟩ (c_hasPiece l dC dI ad av s.heap.size a k τ ln y g u p0 hI ) (cwV 1 hts (gi_4 (List.mem_cons_of_mem _ (List.mem_append_left _ (List.mem_of_getElem? (i := 1) rfl))) (List.mem_cons_of_mem _ (List.mem_append_left _ (List.mem_of_getElem? (i := 2) rfl))) (List.mem_cons_of_mem _ (List.mem_append_left _ (List.mem_of_getElem? (i := 3) rfl))) (List.mem_cons_of_mem _ (List.mem_append_left _ (List.mem_of_getElem? (i := 4) rfl))) (fun _ hh => (List.mem_cons_of_mem _ (List.mem_append_right _ (List.mem_append_right _ (List.mem_append_left _ hh))))) gd_c_hasPiece) rfl rfl rfl (by decide +kernel) ⟨Nat.le_of_ble_eq_true rfl, Nat.le_of_ble_eq_true rfl⟩) ⟨pw_blind, tw_recv hK hT (fx_1 hX) (by decide) cl_e11 rfl, pw_use hT hK hFc hS hM⟩ rfl rfl hl.1 rfl (lv_room (Nat.le_of_ble_eq_true rfl)) dX11_slips_5 ⟨Nat.le_of_ble_eq_true rfl, Nat.le_of_ble_eq_true rfl⟩) hS (fun q _ h => hFc q h) hFc (fun r0 r_1 t H locs ht hvm hw hB hz1 hk1 hS => ?_)
  refine W.widen (k := 0) (n := 0) (Nat.le_of_ble_eq_true rfl) (Nat.le_of_ble_eq_true rfl) ?_
  clear hvm hz1 hk1
  subst hw
  rcases hB with ⟨hre, hf_2, hf_3, hT⟩ | ⟨hre, hf_4, hT⟩
  · refine lq_top (v := 1) hre ?_
    rw [ht] at hT
    refine lv_if_eq (tgt := 30) hx hb dX11_slips_8 (by decide) (fun c_5 => absurd c_5 (by decide)) (fun c_5 => ?_)
    refine lv_iload_n hx hb dX11_slips_11 rfl (lv_at hl 2 rfl) ?_
    refine lv_iconst (v := 0) hx hb dX11_slips_12 (by decide) ?_
    refine lv_iconst (v := 1) hx hb dX11_slips_13 (by decide) ?_
    have hFc := tw_free hF hS hA
    have hp_6 : (0 : Int32).toInt = 0 := (zk (x := 0) 0 rfl)
    have hp_7 : (1 : Int32).toInt = 1 := (zk (x := 1) 1 rfl)
    refine va_calli (va_runS (As := [.int p1, .int 0, .int 1]) (rest := []) ⟨hx, hb, hml, hown, hts⟩ (c_within l dC dI ad av H.size a k τ ln y g u p1 (0 : Int32) (1 : Int32)  ) (va_cwS 3 hts (gi_3 (List.mem_cons_of_mem _ (List.mem_append_left _ (List.mem_of_getElem? (i := 5) rfl))) (List.mem_cons_of_mem _ (List.mem_append_left _ (List.mem_of_getElem? (i := 6) rfl))) (List.mem_cons_of_mem _ (List.mem_append_left _ (List.mem_of_getElem? (i := 7) rfl))) (fun _ hh => (List.mem_cons_of_mem _ (List.mem_append_right _ (List.mem_append_right _ (List.mem_append_right _ (List.mem_append_left _ hh)))))) gd_c_within) rfl rfl rfl (by decide +kernel) ⟨Nat.le_of_ble_eq_true rfl, Nat.le_of_ble_eq_true rfl⟩) ⟨pw_blind, pw_use hT hK hFc hS hM⟩ rfl rfl hl.1 rfl (lv_room (Nat.le_of_ble_eq_true rfl)) dX11_slips_14 ⟨Nat.le_of_ble_eq_true rfl, Nat.le_of_ble_eq_true rfl⟩) hS (fun q _ h => hFc q h) hFc (fun r0 r_8 t H locs ht hvm hw hB hz1 hk1 hS => ?_)
    refine W.widen (k := 0) (n := 0) (Nat.le_of_ble_eq_true rfl) (Nat.le_of_ble_eq_true rfl) ?_
    clear hvm hz1 hk1
    subst hw
    rcases hB with ⟨hre, hf_9, hf_10, hT⟩ | ⟨hre, hf_11, hT⟩
    · refine lq_top (v := 1) hre ?_
      rw [ht] at hT
      try simp only [hp_6, hp_7] at hf_9 hf_10
      clear hp_6 hp_7
      refine lv_if_eq (tgt := 30) hx hb dX11_slips_17 (by decide) (fun c_12 => absurd c_12 (by decide)) (fun c_12 => ?_)
      refine lv_iload_n hx hb dX11_slips_20 rfl (lv_at hl 3 rfl) ?_
      refine lv_iconst (v := 0) hx hb dX11_slips_21 (by decide) ?_
      refine lv_ldc hx hb hown (hts (.constant RX11 78 (65535)) (List.mem_cons_of_mem _ (List.mem_append_left _ (List.mem_of_getElem? (i := 8) rfl)))) dX11_slips_22 ?_
      have hFc := tw_free hF hS hA
      have hp_13 : (0 : Int32).toInt = 0 := (zk (x := 0) 0 rfl)
      have hp_14 : (65535 : Int32).toInt = 65535 := (zk (x := 65535) 65535 rfl)
      refine va_calli (va_runS (As := [.int p2, .int 0, .int 65535]) (rest := []) ⟨hx, hb, hml, hown, hts⟩ (c_within l dC dI ad av H.size a k τ ln y g u p2 (0 : Int32) (65535 : Int32)  ) (va_cwS 3 hts (gi_3 (List.mem_cons_of_mem _ (List.mem_append_left _ (List.mem_of_getElem? (i := 5) rfl))) (List.mem_cons_of_mem _ (List.mem_append_left _ (List.mem_of_getElem? (i := 6) rfl))) (List.mem_cons_of_mem _ (List.mem_append_left _ (List.mem_of_getElem? (i := 7) rfl))) (fun _ hh => (List.mem_cons_of_mem _ (List.mem_append_right _ (List.mem_append_right _ (List.mem_append_right _ (List.mem_append_left _ hh)))))) gd_c_within) rfl rfl rfl (by decide +kernel) ⟨Nat.le_of_ble_eq_true rfl, Nat.le_of_ble_eq_true rfl⟩) ⟨pw_blind, pw_use hT hK hFc hS hM⟩ rfl rfl hl.1 rfl (lv_room (Nat.le_of_ble_eq_true rfl)) dX11_slips_24 ⟨Nat.le_of_ble_eq_true rfl, Nat.le_of_ble_eq_true rfl⟩) hS (fun q _ h => hFc q h) hFc (fun r0 r_15 t H locs ht hvm hw hB hz1 hk1 hS => ?_)
      refine W.widen (k := 0) (n := 0) (Nat.le_of_ble_eq_true rfl) (Nat.le_of_ble_eq_true rfl) ?_
      clear hvm hz1 hk1
      subst hw
      rcases hB with ⟨hre, hf_16, hf_17, hT⟩ | ⟨hre, hf_18, hT⟩
      · refine lq_top (v := 1) hre ?_
        rw [ht] at hT
        try simp only [hp_13, hp_14] at hf_16 hf_17
        clear hp_13 hp_14
        refine lv_if_ne (tgt := 32) hx hb dX11_slips_27 (by decide) (fun c_19 => ?_) (fun c_19 => absurd c_19 (by decide))
        refine lv_iload_n hx hb dX11_slips_32 rfl (lv_at hl 2 rfl) ?_
        refine lv_if_ne (tgt := 52) hx hb dX11_slips_33 (by decide) (fun c_20 => ?_) (fun c_20 => ?_)
        · have nc_20 := z_ne rfl (zk (x := 0) 0 rfl) c_20
          refine lv_aload_n hx hb dX11_slips_52 rfl (lv_at hl 0 rfl) ?_
          refine tw_get (D := (dC, dI)) (v := .ref (a 1)) (C := RX11) (T := TX11) (N := 10) hx hb hts (fun _ hh => (List.mem_cons_of_mem _ (List.mem_append_right _ (List.mem_append_left _ hh)))) hown hK hT (fx_0 hX) (by decide) cl_e10 rfl 0 (by decide) (hts (.fieldLink RX11 10 "TypingPool" "book" "LTypingPool$Book;") (List.mem_cons_of_mem _ (List.mem_append_left _ (List.mem_of_getElem? (i := 0) rfl)))) (fun _ h9 => h9) rfl dX11_slips_53 ?_
          refine tw_get (D := (dC, dI)) (v := .ref (a 11)) (C := RX1) (T := TX1) (N := 8) hx hb hts (fun _ hh => (List.mem_cons_of_mem _ (List.mem_append_right _ (List.mem_append_right _ (List.mem_append_right _ (List.mem_append_right _ (List.mem_append_left _ hh))))))) hown hK hT (fx_1 hX) (by decide) cl_e11 rfl 4 (by decide) (hts (.fieldLink RX11 145 "TypingPool$Book" "pieces" "[LTypingPool$Piece;") (List.mem_cons_of_mem _ (List.mem_append_left _ (List.mem_of_getElem? (i := 9) rfl)))) (fun _ h9 => h9) rfl dX11_slips_56 ?_
          refine lv_iload_n hx hb dX11_slips_59 rfl (lv_at hl 1 rfl) ?_
          refine tw_aald hx hb hK hT 4 (fx_11 hX) (by decide) cl_e21 rfl (z_in rfl (by omega) (by omega)) dX11_slips_60 ?_
          obtain ⟨q_21, hgq_21, htq_21⟩ := ic_l11 hI (x := p0) rfl (by omega) (by omega)
          refine lq_topr hgq_21 ?_
          refine lv_iload_n hx hb dX11_slips_61 rfl (lv_at hl 3 rfl) ?_
          refine tw_put (D := (dC, dI)) (x := p2) (ty := .int) (C := RX6) (T := TX6) (N := 11) hx hb hts (fun _ hh => (List.mem_cons_of_mem _ (List.mem_append_right _ (List.mem_append_right _ (List.mem_append_right _ (List.mem_append_right _ (List.mem_append_right _ (List.mem_append_left _ hh)))))))) tyX6 tyX6_ok nmX6 hown hK hT hF hS htq_21 (by decide) cl_e2 rfl 10 (by decide) (hts (.fieldLink RX11 286 "TypingPool$Piece" "foundBySecond" "I") (List.mem_cons_of_mem _ (List.mem_append_left _ (List.mem_of_getElem? (i := 10) rfl)))) (fun _ h9 => h9) rfl (tyX6_ok 10 (by decide)) rfl rfl (Nat.le_of_ble_eq_true rfl) rfl dX11_slips_62 (fun H locs hT hS => ?_)
          obtain ⟨y_22, hy_22, hT⟩ : ∃ z : Nat → Nat → Int32, z = up2 y q_21 10 p2 ∧ tw (dC, dI) a k τ ln z g H := ⟨_, rfl, hT⟩
          have hKM : kpM0 τ y g y_22 g := by rw [hy_22]; exact hKM.up hMo htq_21 (by decide)
          have hI := hI.ag (S := [2]) (y' := y_22) (by rw [hy_22]; exact ag.one htq_21) (by decide)
          have hFo : FLo a u g y_22 := hFo.m hIz (S := [2]) (by rw [hy_22]; exact ag.one htq_21) (by decide) rfl
          have hSl : SLf a (u 2) g y_22 (upd (y (a 83)) (2 * p0.toInt + p1.toInt).toNat p2) := by rw [hy_22]; exact sl_slip hSl (by rw [n_c (x := p0) rfl (by omega)]; omega) hgq_21 (Or.inr ⟨rfl, by rw [z_nat (x := p0) rfl]; omega⟩)
          refine lv_iconst (v := 1) hx hb dX11_slips_65 (by decide) ?_
          have hrv : (1 : Int32).toInt = 1 := (zk (x := 1) 1 rfl)
          exact W.zret (v := 1) hx hb hr (by decide) (fun t ht hW9 => ⟨⟨1, 1, rfl, rfl, Or.inl ⟨u, rfl, fun _ _ => rfl, by omega, ⟨τ, ln, y_22, g, hMo, hKM, hI, hFo, hSl, tw_at ht hT⟩⟩⟩, hS.F ht⟩) hS.2.2 dX11_slips_66
        · have nc_20 := z_eq rfl (zk (x := 0) 0 rfl) c_20
          refine lv_aload_n hx hb dX11_slips_36 rfl (lv_at hl 0 rfl) ?_
          refine tw_get (D := (dC, dI)) (v := .ref (a 1)) (C := RX11) (T := TX11) (N := 10) hx hb hts (fun _ hh => (List.mem_cons_of_mem _ (List.mem_append_right _ (List.mem_append_left _ hh)))) hown hK hT (fx_0 hX) (by decide) cl_e10 rfl 0 (by decide) (hts (.fieldLink RX11 10 "TypingPool" "book" "LTypingPool$Book;") (List.mem_cons_of_mem _ (List.mem_append_left _ (List.mem_of_getElem? (i := 0) rfl)))) (fun _ h9 => h9) rfl dX11_slips_37 ?_
          refine tw_get (D := (dC, dI)) (v := .ref (a 11)) (C := RX1) (T := TX1) (N := 8) hx hb hts (fun _ hh => (List.mem_cons_of_mem _ (List.mem_append_right _ (List.mem_append_right _ (List.mem_append_right _ (List.mem_append_right _ (List.mem_append_left _ hh))))))) hown hK hT (fx_1 hX) (by decide) cl_e11 rfl 4 (by decide) (hts (.fieldLink RX11 145 "TypingPool$Book" "pieces" "[LTypingPool$Piece;") (List.mem_cons_of_mem _ (List.mem_append_left _ (List.mem_of_getElem? (i := 9) rfl)))) (fun _ h9 => h9) rfl dX11_slips_40 ?_
          refine lv_iload_n hx hb dX11_slips_43 rfl (lv_at hl 1 rfl) ?_
          refine tw_aald hx hb hK hT 4 (fx_11 hX) (by decide) cl_e21 rfl (z_in rfl (by omega) (by omega)) dX11_slips_44 ?_
          obtain ⟨q_23, hgq_23, htq_23⟩ := ic_l11 hI (x := p0) rfl (by omega) (by omega)
          refine lq_topr hgq_23 ?_
          refine lv_iload_n hx hb dX11_slips_45 rfl (lv_at hl 3 rfl) ?_
          refine tw_put (D := (dC, dI)) (x := p2) (ty := .int) (C := RX6) (T := TX6) (N := 11) hx hb hts (fun _ hh => (List.mem_cons_of_mem _ (List.mem_append_right _ (List.mem_append_right _ (List.mem_append_right _ (List.mem_append_right _ (List.mem_append_right _ (List.mem_append_left _ hh)))))))) tyX6 tyX6_ok nmX6 hown hK hT hF hS htq_23 (by decide) cl_e2 rfl 9 (by decide) (hts (.fieldLink RX11 283 "TypingPool$Piece" "foundByFirst" "I") (List.mem_cons_of_mem _ (List.mem_append_left _ (List.mem_of_getElem? (i := 11) rfl)))) (fun _ h9 => h9) rfl (tyX6_ok 9 (by decide)) rfl rfl (Nat.le_of_ble_eq_true rfl) rfl dX11_slips_46 (fun H locs hT hS => ?_)
          obtain ⟨y_24, hy_24, hT⟩ : ∃ z : Nat → Nat → Int32, z = up2 y q_23 9 p2 ∧ tw (dC, dI) a k τ ln z g H := ⟨_, rfl, hT⟩
          have hKM : kpM0 τ y g y_24 g := by rw [hy_24]; exact hKM.up hMo htq_23 (by decide)
          have hI := hI.ag (S := [2]) (y' := y_24) (by rw [hy_24]; exact ag.one htq_23) (by decide)
          have hFo : FLo a u g y_24 := hFo.m hIz (S := [2]) (by rw [hy_24]; exact ag.one htq_23) (by decide) rfl
          have hSl : SLf a (u 2) g y_24 (upd (y (a 83)) (2 * p0.toInt + p1.toInt).toNat p2) := by rw [hy_24]; exact sl_slip hSl (by rw [n_c (x := p0) rfl (by omega)]; omega) hgq_23 (Or.inl ⟨rfl, by rw [z_nat (x := p0) rfl]; omega⟩)
          refine lv_goto (tgt := 65) hx hb dX11_slips_49 (by decide) ?_
          refine lv_iconst (v := 1) hx hb dX11_slips_65 (by decide) ?_
          have hrv : (1 : Int32).toInt = 1 := (zk (x := 1) 1 rfl)
          exact W.zret (v := 1) hx hb hr (by decide) (fun t ht hW9 => ⟨⟨1, 1, rfl, rfl, Or.inl ⟨u, rfl, fun _ _ => rfl, by omega, ⟨τ, ln, y_24, g, hMo, hKM, hI, hFo, hSl, tw_at ht hT⟩⟩⟩, hS.F ht⟩) hS.2.2 dX11_slips_66
      · refine lq_top (v := 0) hre ?_
        rw [ht] at hT
        try simp only [hp_13, hp_14] at hf_18
        clear hp_13 hp_14
        refine lv_if_ne (tgt := 32) hx hb dX11_slips_27 (by decide) (fun c_25 => absurd c_25 (by decide)) (fun c_25 => ?_)
        refine lv_iconst (v := 0) hx hb dX11_slips_30 (by decide) ?_
        have hrv : (0 : Int32).toInt = 0 := (zk (x := 0) 0 rfl)
        exact W.zret (v := 0) hx hb hr (by decide) (fun t ht hW9 => ⟨⟨0, 0, rfl, rfl, Or.inr (⟨u, rfl, fun _ _ => rfl, by omega, ⟨τ, ln, y, g, hMo, hKM, hI, hFo, hSl, tw_at ht hT⟩⟩)⟩, hS.F ht⟩) hS.2.2 dX11_slips_31
    · refine lq_top (v := 0) hre ?_
      rw [ht] at hT
      try simp only [hp_6, hp_7] at hf_11
      clear hp_6 hp_7
      refine lv_if_eq (tgt := 30) hx hb dX11_slips_17 (by decide) (fun c_26 => ?_) (fun c_26 => absurd c_26 (by decide))
      refine lv_iconst (v := 0) hx hb dX11_slips_30 (by decide) ?_
      have hrv : (0 : Int32).toInt = 0 := (zk (x := 0) 0 rfl)
      exact W.zret (v := 0) hx hb hr (by decide) (fun t ht hW9 => ⟨⟨0, 0, rfl, rfl, Or.inr (⟨u, rfl, fun _ _ => rfl, by omega, ⟨τ, ln, y, g, hMo, hKM, hI, hFo, hSl, tw_at ht hT⟩⟩)⟩, hS.F ht⟩) hS.2.2 dX11_slips_31
  · refine lq_top (v := 0) hre ?_
    rw [ht] at hT
    refine lv_if_eq (tgt := 30) hx hb dX11_slips_8 (by decide) (fun c_27 => ?_) (fun c_27 => absurd c_27 (by decide))
    refine lv_iconst (v := 0) hx hb dX11_slips_30 (by decide) ?_
    have hrv : (0 : Int32).toInt = 0 := (zk (x := 0) 0 rfl)
    exact W.zret (v := 0) hx hb hr (by decide) (fun t ht hW9 => ⟨⟨0, 0, rfl, rfl, Or.inr (⟨u, rfl, fun _ _ => rfl, by omega, ⟨τ, ln, y, g, hMo, hKM, hI, hFo, hSl, tw_at ht hT⟩⟩)⟩, hS.F ht⟩) hS.2.2 dX11_slips_31
