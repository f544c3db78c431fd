theorem dX12_beginHand_0 : decode cX12_beginHand 0 = .ok (.aload_n 0, 1) := by decide +kernel
theorem dX12_beginHand_1 : decode cX12_beginHand 1 = .ok (.getfield 126, 3) := by decide +kernel
theorem dX12_beginHand_11 : decode cX12_beginHand 11 = .ok (.iconst 0, 1) := by decide +kernel
theorem dX12_beginHand_12 : decode cX12_beginHand 12 = .ok (.invokevirtual 272, 3) := by decide +kernel
theorem dX12_beginHand_15 : decode cX12_beginHand 15 = .ok (.istore 7, 2) := by decide +kernel
theorem dX12_beginHand_17 : decode cX12_beginHand 17 = .ok (.iload 7, 2) := by decide +kernel
theorem dX12_beginHand_19 : decode cX12_beginHand 19 = .ok (.iconst (-1), 1) := by decide +kernel
theorem dX12_beginHand_20 : decode cX12_beginHand 20 = .ok (.if_icmp .ne 10, 3) := by decide +kernel
theorem dX12_beginHand_23 : decode cX12_beginHand 23 = .ok (.aload_n 0, 1) := by decide +kernel
theorem dX12_beginHand_24 : decode cX12_beginHand 24 = .ok (.invokevirtual 164, 3) := by decide +kernel
theorem dX12_beginHand_27 : decode cX12_beginHand 27 = .ok (.goto 30, 3) := by decide +kernel
theorem dX12_beginHand_30 : decode cX12_beginHand 30 = .ok (.aload_n 0, 1) := by decide +kernel
theorem dX12_beginHand_31 : decode cX12_beginHand 31 = .ok (.iload 6, 2) := by decide +kernel
theorem dX12_beginHand_33 : decode cX12_beginHand 33 = .ok (.aload_n 0, 1) := by decide +kernel
theorem dX12_beginHand_34 : decode cX12_beginHand 34 = .ok (.invokevirtual 164, 3) := by decide +kernel
theorem dX12_beginHand_37 : decode cX12_beginHand 37 = .ok (.aload_n 0, 1) := by decide +kernel
theorem dX12_beginHand_38 : decode cX12_beginHand 38 = .ok (.iload 7, 2) := by decide +kernel
theorem dX12_beginHand_4 : decode cX12_beginHand 4 = .ok (.iload_n 1, 1) := by decide +kernel
theorem dX12_beginHand_40 : decode cX12_beginHand 40 = .ok (.iconst 3, 1) := by decide +kernel
theorem dX12_beginHand_41 : decode cX12_beginHand 41 = .ok (.invokevirtual 261, 3) := by decide +kernel
theorem dX12_beginHand_44 : decode cX12_beginHand 44 = .ok (.aload_n 0, 1) := by decide +kernel
theorem dX12_beginHand_45 : decode cX12_beginHand 45 = .ok (.iload 6, 2) := by decide +kernel
theorem dX12_beginHand_47 : decode cX12_beginHand 47 = .ok (.iconst 1, 1) := by decide +kernel
theorem dX12_beginHand_48 : decode cX12_beginHand 48 = .ok (.invokevirtual 272, 3) := by decide +kernel
theorem dX12_beginHand_5 : decode cX12_beginHand 5 = .ok (.iaload, 1) := by decide +kernel
theorem dX12_beginHand_51 : decode cX12_beginHand 51 = .ok (.invokestatic 355, 3) := by decide +kernel
theorem dX12_beginHand_54 : decode cX12_beginHand 54 = .ok (.invokevirtual 358, 3) := by decide +kernel
theorem dX12_beginHand_57 : decode cX12_beginHand 57 = .ok (.istore 8, 2) := by decide +kernel
theorem dX12_beginHand_59 : decode cX12_beginHand 59 = .ok (.aload_n 0, 1) := by decide +kernel
theorem dX12_beginHand_6 : decode cX12_beginHand 6 = .ok (.istore 6, 2) := by decide +kernel
theorem dX12_beginHand_60 : decode cX12_beginHand 60 = .ok (.iload_n 1, 1) := by decide +kernel
theorem dX12_beginHand_61 : decode cX12_beginHand 61 = .ok (.iload_n 2, 1) := by decide +kernel
theorem dX12_beginHand_62 : decode cX12_beginHand 62 = .ok (.iload_n 3, 1) := by decide +kernel
theorem dX12_beginHand_63 : decode cX12_beginHand 63 = .ok (.iload 8, 2) := by decide +kernel
theorem dX12_beginHand_65 : decode cX12_beginHand 65 = .ok (.aload_n 0, 1) := by decide +kernel
theorem dX12_beginHand_66 : decode cX12_beginHand 66 = .ok (.iload 6, 2) := by decide +kernel
theorem dX12_beginHand_68 : decode cX12_beginHand 68 = .ok (.iconst 2, 1) := by decide +kernel
theorem dX12_beginHand_69 : decode cX12_beginHand 69 = .ok (.invokevirtual 272, 3) := by decide +kernel
theorem dX12_beginHand_72 : decode cX12_beginHand 72 = .ok (.iload 7, 2) := by decide +kernel
theorem dX12_beginHand_74 : decode cX12_beginHand 74 = .ok (.iconst (-1), 1) := by decide +kernel
theorem dX12_beginHand_75 : decode cX12_beginHand 75 = .ok (.if_icmp .ne 7, 3) := by decide +kernel
theorem dX12_beginHand_78 : decode cX12_beginHand 78 = .ok (.iconst 0, 1) := by decide +kernel
theorem dX12_beginHand_79 : decode cX12_beginHand 79 = .ok (.goto 10, 3) := by decide +kernel
theorem dX12_beginHand_8 : decode cX12_beginHand 8 = .ok (.aload_n 0, 1) := by decide +kernel
theorem dX12_beginHand_82 : decode cX12_beginHand 82 = .ok (.aload_n 0, 1) := by decide +kernel
theorem dX12_beginHand_83 : decode cX12_beginHand 83 = .ok (.getfield 52, 3) := by decide +kernel
theorem dX12_beginHand_86 : decode cX12_beginHand 86 = .ok (.iload 7, 2) := by decide +kernel
theorem dX12_beginHand_88 : decode cX12_beginHand 88 = .ok (.iaload, 1) := by decide +kernel
theorem dX12_beginHand_89 : decode cX12_beginHand 89 = .ok (.ior, 1) := by decide +kernel
theorem dX12_beginHand_9 : decode cX12_beginHand 9 = .ok (.iload 6, 2) := by decide +kernel
theorem dX12_beginHand_90 : decode cX12_beginHand 90 = .ok (.iload 4, 2) := by decide +kernel
theorem dX12_beginHand_92 : decode cX12_beginHand 92 = .ok (.iload 5, 2) := by decide +kernel
theorem dX12_beginHand_94 : decode cX12_beginHand 94 = .ok (.invokevirtual 362, 3) := by decide +kernel
theorem dX12_beginHand_97 : decode cX12_beginHand 97 = .ok (.return_, 1) := by decide +kernel
theorem dX12_ends_0 : decode cX12_ends 0 = .ok (.iload_n 2, 1) := by decide +kernel
theorem dX12_ends_1 : decode cX12_ends 1 = .ok (.sipush 4800, 3) := by decide +kernel
theorem dX12_ends_10 : decode cX12_ends 10 = .ok (.ireturn, 1) := by decide +kernel
theorem dX12_ends_100 : decode cX12_ends 100 = .ok (.iload 5, 2) := by decide +kernel
theorem dX12_ends_102 : decode cX12_ends 102 = .ok (.if_icmp .lt 10, 3) := by decide +kernel
theorem dX12_ends_105 : decode cX12_ends 105 = .ok (.iload 8, 2) := by decide +kernel
theorem dX12_ends_107 : decode cX12_ends 107 = .ok (.istore 7, 2) := by decide +kernel
theorem dX12_ends_109 : decode cX12_ends 109 = .ok (.goto 9, 3) := by decide +kernel
theorem dX12_ends_11 : decode cX12_ends 11 = .ok (.iload_n 1, 1) := by decide +kernel
theorem dX12_ends_112 : decode cX12_ends 112 = .ok (.iload 8, 2) := by decide +kernel
theorem dX12_ends_114 : decode cX12_ends 114 = .ok (.iconst 1, 1) := by decide +kernel
theorem dX12_ends_115 : decode cX12_ends 115 = .ok (.iadd, 1) := by decide +kernel
theorem dX12_ends_116 : decode cX12_ends 116 = .ok (.istore 6, 2) := by decide +kernel
theorem dX12_ends_118 : decode cX12_ends 118 = .ok (.goto (-44), 3) := by decide +kernel
theorem dX12_ends_12 : decode cX12_ends 12 = .ok (.sipush 4801, 3) := by decide +kernel
theorem dX12_ends_121 : decode cX12_ends 121 = .ok (.iload 6, 2) := by decide +kernel
theorem dX12_ends_123 : decode cX12_ends 123 = .ok (.ireturn, 1) := by decide +kernel
theorem dX12_ends_15 : decode cX12_ends 15 = .ok (.imul, 1) := by decide +kernel
theorem dX12_ends_16 : decode cX12_ends 16 = .ok (.istore 4, 2) := by decide +kernel
theorem dX12_ends_18 : decode cX12_ends 18 = .ok (.aload_n 0, 1) := by decide +kernel
theorem dX12_ends_19 : decode cX12_ends 19 = .ok (.getfield 120, 3) := by decide +kernel
theorem dX12_ends_22 : decode cX12_ends 22 = .ok (.iload 4, 2) := by decide +kernel
theorem dX12_ends_24 : decode cX12_ends 24 = .ok (.iload_n 2, 1) := by decide +kernel
theorem dX12_ends_25 : decode cX12_ends 25 = .ok (.iadd, 1) := by decide +kernel
theorem dX12_ends_26 : decode cX12_ends 26 = .ok (.iaload, 1) := by decide +kernel
theorem dX12_ends_27 : decode cX12_ends 27 = .ok (.iload_n 3, 1) := by decide +kernel
theorem dX12_ends_28 : decode cX12_ends 28 = .ok (.iadd, 1) := by decide +kernel
theorem dX12_ends_29 : decode cX12_ends 29 = .ok (.istore 5, 2) := by decide +kernel
theorem dX12_ends_31 : decode cX12_ends 31 = .ok (.aload_n 0, 1) := by decide +kernel
theorem dX12_ends_32 : decode cX12_ends 32 = .ok (.getfield 120, 3) := by decide +kernel
theorem dX12_ends_35 : decode cX12_ends 35 = .ok (.iload 4, 2) := by decide +kernel
theorem dX12_ends_37 : decode cX12_ends 37 = .ok (.sipush 4800, 3) := by decide +kernel
theorem dX12_ends_4 : decode cX12_ends 4 = .ok (.if_icmp .lt 7, 3) := by decide +kernel
theorem dX12_ends_40 : decode cX12_ends 40 = .ok (.iadd, 1) := by decide +kernel
theorem dX12_ends_41 : decode cX12_ends 41 = .ok (.iaload, 1) := by decide +kernel
theorem dX12_ends_42 : decode cX12_ends 42 = .ok (.iload 5, 2) := by decide +kernel
theorem dX12_ends_44 : decode cX12_ends 44 = .ok (.if_icmp .ge 22, 3) := by decide +kernel
theorem dX12_ends_47 : decode cX12_ends 47 = .ok (.sipush 4800, 3) := by decide +kernel
theorem dX12_ends_50 : decode cX12_ends 50 = .ok (.iload 5, 2) := by decide +kernel
theorem dX12_ends_52 : decode cX12_ends 52 = .ok (.iadd, 1) := by decide +kernel
theorem dX12_ends_53 : decode cX12_ends 53 = .ok (.aload_n 0, 1) := by decide +kernel
theorem dX12_ends_54 : decode cX12_ends 54 = .ok (.getfield 120, 3) := by decide +kernel
theorem dX12_ends_57 : decode cX12_ends 57 = .ok (.iload 4, 2) := by decide +kernel
theorem dX12_ends_59 : decode cX12_ends 59 = .ok (.sipush 4800, 3) := by decide +kernel
theorem dX12_ends_62 : decode cX12_ends 62 = .ok (.iadd, 1) := by decide +kernel
theorem dX12_ends_63 : decode cX12_ends 63 = .ok (.iaload, 1) := by decide +kernel
theorem dX12_ends_64 : decode cX12_ends 64 = .ok (.isub, 1) := by decide +kernel
theorem dX12_ends_65 : decode cX12_ends 65 = .ok (.ireturn, 1) := by decide +kernel
theorem dX12_ends_66 : decode cX12_ends 66 = .ok (.iload_n 2, 1) := by decide +kernel
theorem dX12_ends_67 : decode cX12_ends 67 = .ok (.istore 6, 2) := by decide +kernel
theorem dX12_ends_69 : decode cX12_ends 69 = .ok (.sipush 4800, 3) := by decide +kernel
theorem dX12_ends_7 : decode cX12_ends 7 = .ok (.iload_n 2, 1) := by decide +kernel
theorem dX12_ends_72 : decode cX12_ends 72 = .ok (.istore 7, 2) := by decide +kernel
theorem dX12_ends_74 : decode cX12_ends 74 = .ok (.iload 6, 2) := by decide +kernel
theorem dX12_ends_76 : decode cX12_ends 76 = .ok (.iload 7, 2) := by decide +kernel
theorem dX12_ends_78 : decode cX12_ends 78 = .ok (.if_icmp .ge 43, 3) := by decide +kernel
theorem dX12_ends_8 : decode cX12_ends 8 = .ok (.iload_n 3, 1) := by decide +kernel
theorem dX12_ends_81 : decode cX12_ends 81 = .ok (.iload 6, 2) := by decide +kernel
theorem dX12_ends_83 : decode cX12_ends 83 = .ok (.iload 7, 2) := by decide +kernel
theorem dX12_ends_85 : decode cX12_ends 85 = .ok (.iadd, 1) := by decide +kernel
theorem dX12_ends_86 : decode cX12_ends 86 = .ok (.iconst 2, 1) := by decide +kernel
theorem dX12_ends_87 : decode cX12_ends 87 = .ok (.idiv, 1) := by decide +kernel
theorem dX12_ends_88 : decode cX12_ends 88 = .ok (.istore 8, 2) := by decide +kernel
theorem dX12_ends_9 : decode cX12_ends 9 = .ok (.iadd, 1) := by decide +kernel
theorem dX12_ends_90 : decode cX12_ends 90 = .ok (.aload_n 0, 1) := by decide +kernel
theorem dX12_ends_91 : decode cX12_ends 91 = .ok (.getfield 120, 3) := by decide +kernel
theorem dX12_ends_94 : decode cX12_ends 94 = .ok (.iload 4, 2) := by decide +kernel
theorem dX12_ends_96 : decode cX12_ends 96 = .ok (.iload 8, 2) := by decide +kernel
theorem dX12_ends_98 : decode cX12_ends 98 = .ok (.iadd, 1) := by decide +kernel
theorem dX12_ends_99 : decode cX12_ends 99 = .ok (.iaload, 1) := by decide +kernel
theorem dX12_findPlan_0 : decode cX12_findPlan 0 = .ok (.iload_n 1, 1) := by decide +kernel
theorem dX12_findPlan_1 : decode cX12_findPlan 1 = .ok (.iconst 1, 1) := by decide +kernel
theorem dX12_findPlan_10 : decode cX12_findPlan 10 = .ok (.invokestatic 145, 3) := by decide +kernel
theorem dX12_findPlan_100 : decode cX12_findPlan 100 = .ok (.dup_x1, 1) := by decide +kernel
theorem dX12_findPlan_101 : decode cX12_findPlan 101 = .ok (.iconst 1, 1) := by decide +kernel
theorem dX12_findPlan_102 : decode cX12_findPlan 102 = .ok (.iadd, 1) := by decide +kernel
theorem dX12_findPlan_103 : decode cX12_findPlan 103 = .ok (.putfield 349, 3) := by decide +kernel
theorem dX12_findPlan_106 : decode cX12_findPlan 106 = .ok (.iload_n 3, 1) := by decide +kernel
theorem dX12_findPlan_107 : decode cX12_findPlan 107 = .ok (.iastore, 1) := by decide +kernel
theorem dX12_findPlan_108 : decode cX12_findPlan 108 = .ok (.iinc 3 1, 3) := by decide +kernel
theorem dX12_findPlan_111 : decode cX12_findPlan 111 = .ok (.goto (-49), 3) := by decide +kernel
theorem dX12_findPlan_114 : decode cX12_findPlan 114 = .ok (.iconst 0, 1) := by decide +kernel
theorem dX12_findPlan_115 : decode cX12_findPlan 115 = .ok (.istore_n 3, 1) := by decide +kernel
theorem dX12_findPlan_116 : decode cX12_findPlan 116 = .ok (.iload_n 3, 1) := by decide +kernel
theorem dX12_findPlan_117 : decode cX12_findPlan 117 = .ok (.aload_n 0, 1) := by decide +kernel
theorem dX12_findPlan_118 : decode cX12_findPlan 118 = .ok (.getfield 142, 3) := by decide +kernel
theorem dX12_findPlan_121 : decode cX12_findPlan 121 = .ok (.if_icmp .ge 107, 3) := by decide +kernel
theorem dX12_findPlan_124 : decode cX12_findPlan 124 = .ok (.iload_n 2, 1) := by decide +kernel
theorem dX12_findPlan_125 : decode cX12_findPlan 125 = .ok (.iload_n 3, 1) := by decide +kernel
theorem dX12_findPlan_126 : decode cX12_findPlan 126 = .ok (.ishr, 1) := by decide +kernel
theorem dX12_findPlan_127 : decode cX12_findPlan 127 = .ok (.iconst 1, 1) := by decide +kernel
theorem dX12_findPlan_128 : decode cX12_findPlan 128 = .ok (.iand, 1) := by decide +kernel
theorem dX12_findPlan_129 : decode cX12_findPlan 129 = .ok (.ifCond .ne 6, 3) := by decide +kernel
theorem dX12_findPlan_13 : decode cX12_findPlan 13 = .ok (.ifCond .eq 35, 3) := by decide +kernel
theorem dX12_findPlan_132 : decode cX12_findPlan 132 = .ok (.goto 90, 3) := by decide +kernel
theorem dX12_findPlan_135 : decode cX12_findPlan 135 = .ok (.aload_n 0, 1) := by decide +kernel
theorem dX12_findPlan_136 : decode cX12_findPlan 136 = .ok (.getfield 126, 3) := by decide +kernel
theorem dX12_findPlan_139 : decode cX12_findPlan 139 = .ok (.aload_n 0, 1) := by decide +kernel
theorem dX12_findPlan_140 : decode cX12_findPlan 140 = .ok (.dup, 1) := by decide +kernel
theorem dX12_findPlan_141 : decode cX12_findPlan 141 = .ok (.getfield 342, 3) := by decide +kernel
theorem dX12_findPlan_144 : decode cX12_findPlan 144 = .ok (.dup_x1, 1) := by decide +kernel
theorem dX12_findPlan_145 : decode cX12_findPlan 145 = .ok (.iconst 1, 1) := by decide +kernel
theorem dX12_findPlan_146 : decode cX12_findPlan 146 = .ok (.iadd, 1) := by decide +kernel
theorem dX12_findPlan_147 : decode cX12_findPlan 147 = .ok (.putfield 342, 3) := by decide +kernel
theorem dX12_findPlan_150 : decode cX12_findPlan 150 = .ok (.iload_n 3, 1) := by decide +kernel
theorem dX12_findPlan_151 : decode cX12_findPlan 151 = .ok (.iastore, 1) := by decide +kernel
theorem dX12_findPlan_152 : decode cX12_findPlan 152 = .ok (.iload_n 3, 1) := by decide +kernel
theorem dX12_findPlan_153 : decode cX12_findPlan 153 = .ok (.sipush 4801, 3) := by decide +kernel
theorem dX12_findPlan_156 : decode cX12_findPlan 156 = .ok (.imul, 1) := by decide +kernel
theorem dX12_findPlan_157 : decode cX12_findPlan 157 = .ok (.istore 4, 2) := by decide +kernel
theorem dX12_findPlan_159 : decode cX12_findPlan 159 = .ok (.aload_n 0, 1) := by decide +kernel
theorem dX12_findPlan_16 : decode cX12_findPlan 16 = .ok (.iload_n 2, 1) := by decide +kernel
theorem dX12_findPlan_160 : decode cX12_findPlan 160 = .ok (.getfield 120, 3) := by decide +kernel
theorem dX12_findPlan_163 : decode cX12_findPlan 163 = .ok (.iload 4, 2) := by decide +kernel
theorem dX12_findPlan_165 : decode cX12_findPlan 165 = .ok (.iconst 0, 1) := by decide +kernel
theorem dX12_findPlan_166 : decode cX12_findPlan 166 = .ok (.iastore, 1) := by decide +kernel
theorem dX12_findPlan_167 : decode cX12_findPlan 167 = .ok (.iconst 0, 1) := by decide +kernel
theorem dX12_findPlan_168 : decode cX12_findPlan 168 = .ok (.istore 5, 2) := by decide +kernel
theorem dX12_findPlan_17 : decode cX12_findPlan 17 = .ok (.iconst 1, 1) := by decide +kernel
theorem dX12_findPlan_170 : decode cX12_findPlan 170 = .ok (.iload 5, 2) := by decide +kernel
theorem dX12_findPlan_172 : decode cX12_findPlan 172 = .ok (.sipush 4800, 3) := by decide +kernel
theorem dX12_findPlan_175 : decode cX12_findPlan 175 = .ok (.if_icmp .ge 47, 3) := by decide +kernel
theorem dX12_findPlan_178 : decode cX12_findPlan 178 = .ok (.aload_n 0, 1) := by decide +kernel
theorem dX12_findPlan_179 : decode cX12_findPlan 179 = .ok (.getfield 120, 3) := by decide +kernel
theorem dX12_findPlan_18 : decode cX12_findPlan 18 = .ok (.iconst 1, 1) := by decide +kernel
theorem dX12_findPlan_182 : decode cX12_findPlan 182 = .ok (.iload 4, 2) := by decide +kernel
theorem dX12_findPlan_184 : decode cX12_findPlan 184 = .ok (.iload 5, 2) := by decide +kernel
theorem dX12_findPlan_186 : decode cX12_findPlan 186 = .ok (.iadd, 1) := by decide +kernel
theorem dX12_findPlan_187 : decode cX12_findPlan 187 = .ok (.iconst 1, 1) := by decide +kernel
theorem dX12_findPlan_188 : decode cX12_findPlan 188 = .ok (.iadd, 1) := by decide +kernel
theorem dX12_findPlan_189 : decode cX12_findPlan 189 = .ok (.aload_n 0, 1) := by decide +kernel
theorem dX12_findPlan_19 : decode cX12_findPlan 19 = .ok (.aload_n 0, 1) := by decide +kernel
theorem dX12_findPlan_190 : decode cX12_findPlan 190 = .ok (.getfield 120, 3) := by decide +kernel
theorem dX12_findPlan_193 : decode cX12_findPlan 193 = .ok (.iload 4, 2) := by decide +kernel
theorem dX12_findPlan_195 : decode cX12_findPlan 195 = .ok (.iload 5, 2) := by decide +kernel
theorem dX12_findPlan_197 : decode cX12_findPlan 197 = .ok (.iadd, 1) := by decide +kernel
theorem dX12_findPlan_198 : decode cX12_findPlan 198 = .ok (.iaload, 1) := by decide +kernel
theorem dX12_findPlan_199 : decode cX12_findPlan 199 = .ok (.aload_n 0, 1) := by decide +kernel
theorem dX12_findPlan_2 : decode cX12_findPlan 2 = .ok (.iconst 1, 1) := by decide +kernel
theorem dX12_findPlan_20 : decode cX12_findPlan 20 = .ok (.getfield 142, 3) := by decide +kernel
theorem dX12_findPlan_200 : decode cX12_findPlan 200 = .ok (.iload_n 3, 1) := by decide +kernel
theorem dX12_findPlan_201 : decode cX12_findPlan 201 = .ok (.iload 5, 2) := by decide +kernel
theorem dX12_findPlan_203 : decode cX12_findPlan 203 = .ok (.invokevirtual 293, 3) := by decide +kernel
theorem dX12_findPlan_206 : decode cX12_findPlan 206 = .ok (.ifCond .eq 7, 3) := by decide +kernel
theorem dX12_findPlan_209 : decode cX12_findPlan 209 = .ok (.iconst 0, 1) := by decide +kernel
theorem dX12_findPlan_210 : decode cX12_findPlan 210 = .ok (.goto 4, 3) := by decide +kernel
theorem dX12_findPlan_213 : decode cX12_findPlan 213 = .ok (.iconst 1, 1) := by decide +kernel
theorem dX12_findPlan_214 : decode cX12_findPlan 214 = .ok (.iadd, 1) := by decide +kernel
theorem dX12_findPlan_215 : decode cX12_findPlan 215 = .ok (.iastore, 1) := by decide +kernel
theorem dX12_findPlan_216 : decode cX12_findPlan 216 = .ok (.iinc 5 1, 3) := by decide +kernel
theorem dX12_findPlan_219 : decode cX12_findPlan 219 = .ok (.goto (-49), 3) := by decide +kernel
theorem dX12_findPlan_222 : decode cX12_findPlan 222 = .ok (.iinc 3 1, 3) := by decide +kernel
theorem dX12_findPlan_225 : decode cX12_findPlan 225 = .ok (.goto (-109), 3) := by decide +kernel
theorem dX12_findPlan_228 : decode cX12_findPlan 228 = .ok (.aload_n 0, 1) := by decide +kernel
theorem dX12_findPlan_229 : decode cX12_findPlan 229 = .ok (.iconst 0, 1) := by decide +kernel
theorem dX12_findPlan_23 : decode cX12_findPlan 23 = .ok (.ishl, 1) := by decide +kernel
theorem dX12_findPlan_230 : decode cX12_findPlan 230 = .ok (.putfield 366, 3) := by decide +kernel
theorem dX12_findPlan_233 : decode cX12_findPlan 233 = .ok (.aload_n 0, 1) := by decide +kernel
theorem dX12_findPlan_234 : decode cX12_findPlan 234 = .ok (.iconst 0, 1) := by decide +kernel
theorem dX12_findPlan_235 : decode cX12_findPlan 235 = .ok (.iconst 0, 1) := by decide +kernel
theorem dX12_findPlan_236 : decode cX12_findPlan 236 = .ok (.iconst 0, 1) := by decide +kernel
theorem dX12_findPlan_237 : decode cX12_findPlan 237 = .ok (.iconst 0, 1) := by decide +kernel
theorem dX12_findPlan_238 : decode cX12_findPlan 238 = .ok (.iconst 0, 1) := by decide +kernel
theorem dX12_findPlan_239 : decode cX12_findPlan 239 = .ok (.invokevirtual 345, 3) := by decide +kernel
theorem dX12_findPlan_24 : decode cX12_findPlan 24 = .ok (.iconst 1, 1) := by decide +kernel
theorem dX12_findPlan_242 : decode cX12_findPlan 242 = .ok (.aload_n 0, 1) := by decide +kernel
theorem dX12_findPlan_243 : decode cX12_findPlan 243 = .ok (.getfield 366, 3) := by decide +kernel
theorem dX12_findPlan_246 : decode cX12_findPlan 246 = .ok (.ifCond .eq 7, 3) := by decide +kernel
theorem dX12_findPlan_249 : decode cX12_findPlan 249 = .ok (.iconst 0, 1) := by decide +kernel
theorem dX12_findPlan_25 : decode cX12_findPlan 25 = .ok (.isub, 1) := by decide +kernel
theorem dX12_findPlan_250 : decode cX12_findPlan 250 = .ok (.goto 5, 3) := by decide +kernel
theorem dX12_findPlan_253 : decode cX12_findPlan 253 = .ok (.bipush (-2), 2) := by decide +kernel
theorem dX12_findPlan_255 : decode cX12_findPlan 255 = .ok (.ireturn, 1) := by decide +kernel
theorem dX12_findPlan_26 : decode cX12_findPlan 26 = .ok (.invokestatic 145, 3) := by decide +kernel
theorem dX12_findPlan_29 : decode cX12_findPlan 29 = .ok (.ifCond .eq 19, 3) := by decide +kernel
theorem dX12_findPlan_3 : decode cX12_findPlan 3 = .ok (.aload_n 0, 1) := by decide +kernel
theorem dX12_findPlan_32 : decode cX12_findPlan 32 = .ok (.iload_n 1, 1) := by decide +kernel
theorem dX12_findPlan_33 : decode cX12_findPlan 33 = .ok (.invokestatic 275, 3) := by decide +kernel
theorem dX12_findPlan_36 : decode cX12_findPlan 36 = .ok (.iconst 5, 1) := by decide +kernel
theorem dX12_findPlan_37 : decode cX12_findPlan 37 = .ok (.if_icmp .gt 11, 3) := by decide +kernel
theorem dX12_findPlan_4 : decode cX12_findPlan 4 = .ok (.getfield 149, 3) := by decide +kernel
theorem dX12_findPlan_40 : decode cX12_findPlan 40 = .ok (.iload_n 2, 1) := by decide +kernel
theorem dX12_findPlan_41 : decode cX12_findPlan 41 = .ok (.invokestatic 275, 3) := by decide +kernel
theorem dX12_findPlan_44 : decode cX12_findPlan 44 = .ok (.iconst 3, 1) := by decide +kernel
theorem dX12_findPlan_45 : decode cX12_findPlan 45 = .ok (.if_icmp .le 5, 3) := by decide +kernel
theorem dX12_findPlan_48 : decode cX12_findPlan 48 = .ok (.iconst (-1), 1) := by decide +kernel
theorem dX12_findPlan_49 : decode cX12_findPlan 49 = .ok (.ireturn, 1) := by decide +kernel
theorem dX12_findPlan_50 : decode cX12_findPlan 50 = .ok (.aload_n 0, 1) := by decide +kernel
theorem dX12_findPlan_51 : decode cX12_findPlan 51 = .ok (.iconst 0, 1) := by decide +kernel
theorem dX12_findPlan_52 : decode cX12_findPlan 52 = .ok (.putfield 349, 3) := by decide +kernel
theorem dX12_findPlan_55 : decode cX12_findPlan 55 = .ok (.aload_n 0, 1) := by decide +kernel
theorem dX12_findPlan_56 : decode cX12_findPlan 56 = .ok (.iconst 0, 1) := by decide +kernel
theorem dX12_findPlan_57 : decode cX12_findPlan 57 = .ok (.putfield 342, 3) := by decide +kernel
theorem dX12_findPlan_60 : decode cX12_findPlan 60 = .ok (.iconst 0, 1) := by decide +kernel
theorem dX12_findPlan_61 : decode cX12_findPlan 61 = .ok (.istore_n 3, 1) := by decide +kernel
theorem dX12_findPlan_62 : decode cX12_findPlan 62 = .ok (.iload_n 3, 1) := by decide +kernel
theorem dX12_findPlan_63 : decode cX12_findPlan 63 = .ok (.aload_n 0, 1) := by decide +kernel
theorem dX12_findPlan_64 : decode cX12_findPlan 64 = .ok (.getfield 149, 3) := by decide +kernel
theorem dX12_findPlan_67 : decode cX12_findPlan 67 = .ok (.if_icmp .ge 47, 3) := by decide +kernel
theorem dX12_findPlan_7 : decode cX12_findPlan 7 = .ok (.ishl, 1) := by decide +kernel
theorem dX12_findPlan_70 : decode cX12_findPlan 70 = .ok (.iload_n 1, 1) := by decide +kernel
theorem dX12_findPlan_71 : decode cX12_findPlan 71 = .ok (.iload_n 3, 1) := by decide +kernel
theorem dX12_findPlan_72 : decode cX12_findPlan 72 = .ok (.ishr, 1) := by decide +kernel
theorem dX12_findPlan_73 : decode cX12_findPlan 73 = .ok (.iconst 1, 1) := by decide +kernel
theorem dX12_findPlan_74 : decode cX12_findPlan 74 = .ok (.iand, 1) := by decide +kernel
theorem dX12_findPlan_75 : decode cX12_findPlan 75 = .ok (.ifCond .ne 6, 3) := by decide +kernel
theorem dX12_findPlan_78 : decode cX12_findPlan 78 = .ok (.goto 30, 3) := by decide +kernel
theorem dX12_findPlan_8 : decode cX12_findPlan 8 = .ok (.iconst 1, 1) := by decide +kernel
theorem dX12_findPlan_81 : decode cX12_findPlan 81 = .ok (.aload_n 0, 1) := by decide +kernel
theorem dX12_findPlan_82 : decode cX12_findPlan 82 = .ok (.iload_n 3, 1) := by decide +kernel
theorem dX12_findPlan_83 : decode cX12_findPlan 83 = .ok (.invokevirtual 269, 3) := by decide +kernel
theorem dX12_findPlan_86 : decode cX12_findPlan 86 = .ok (.ifCond .ne 5, 3) := by decide +kernel
theorem dX12_findPlan_89 : decode cX12_findPlan 89 = .ok (.iconst (-1), 1) := by decide +kernel
theorem dX12_findPlan_9 : decode cX12_findPlan 9 = .ok (.isub, 1) := by decide +kernel
theorem dX12_findPlan_90 : decode cX12_findPlan 90 = .ok (.ireturn, 1) := by decide +kernel
theorem dX12_findPlan_91 : decode cX12_findPlan 91 = .ok (.aload_n 0, 1) := by decide +kernel
theorem dX12_findPlan_92 : decode cX12_findPlan 92 = .ok (.getfield 123, 3) := by decide +kernel
theorem dX12_findPlan_95 : decode cX12_findPlan 95 = .ok (.aload_n 0, 1) := by decide +kernel
theorem dX12_findPlan_96 : decode cX12_findPlan 96 = .ok (.dup, 1) := by decide +kernel
theorem dX12_findPlan_97 : decode cX12_findPlan 97 = .ok (.getfield 349, 3) := by decide +kernel
theorem dX12_goMinute_0 : decode cX12_goMinute 0 = .ok (.iconst 0, 1) := by decide +kernel
theorem dX12_goMinute_1 : decode cX12_goMinute 1 = .ok (.istore_n 1, 1) := by decide +kernel
theorem dX12_goMinute_10 : decode cX12_goMinute 10 = .ok (.aload_n 0, 1) := by decide +kernel
theorem dX12_goMinute_102 : decode cX12_goMinute 102 = .ok (.invokevirtual 170, 3) := by decide +kernel
theorem dX12_goMinute_105 : decode cX12_goMinute 105 = .ok (.aload_n 0, 1) := by decide +kernel
theorem dX12_goMinute_106 : decode cX12_goMinute 106 = .ok (.iload_n 2, 1) := by decide +kernel
theorem dX12_goMinute_107 : decode cX12_goMinute 107 = .ok (.iconst 4, 1) := by decide +kernel
theorem dX12_goMinute_108 : decode cX12_goMinute 108 = .ok (.iload_n 3, 1) := by decide +kernel
theorem dX12_goMinute_109 : decode cX12_goMinute 109 = .ok (.ifCond .ne 7, 3) := by decide +kernel
theorem dX12_goMinute_11 : decode cX12_goMinute 11 = .ok (.iload_n 1, 1) := by decide +kernel
theorem dX12_goMinute_112 : decode cX12_goMinute 112 = .ok (.iconst 1, 1) := by decide +kernel
theorem dX12_goMinute_113 : decode cX12_goMinute 113 = .ok (.goto 4, 3) := by decide +kernel
theorem dX12_goMinute_116 : decode cX12_goMinute 116 = .ok (.iconst 0, 1) := by decide +kernel
theorem dX12_goMinute_117 : decode cX12_goMinute 117 = .ok (.invokevirtual 170, 3) := by decide +kernel
theorem dX12_goMinute_12 : decode cX12_goMinute 12 = .ok (.iconst 0, 1) := by decide +kernel
theorem dX12_goMinute_120 : decode cX12_goMinute 120 = .ok (.iinc 1 1, 3) := by decide +kernel
theorem dX12_goMinute_123 : decode cX12_goMinute 123 = .ok (.goto (-121), 3) := by decide +kernel
theorem dX12_goMinute_126 : decode cX12_goMinute 126 = .ok (.iconst 0, 1) := by decide +kernel
theorem dX12_goMinute_127 : decode cX12_goMinute 127 = .ok (.istore_n 1, 1) := by decide +kernel
theorem dX12_goMinute_128 : decode cX12_goMinute 128 = .ok (.iload_n 1, 1) := by decide +kernel
theorem dX12_goMinute_129 : decode cX12_goMinute 129 = .ok (.aload_n 0, 1) := by decide +kernel
theorem dX12_goMinute_13 : decode cX12_goMinute 13 = .ok (.invokevirtual 272, 3) := by decide +kernel
theorem dX12_goMinute_130 : decode cX12_goMinute 130 = .ok (.getfield 142, 3) := by decide +kernel
theorem dX12_goMinute_133 : decode cX12_goMinute 133 = .ok (.if_icmp .ge 163, 3) := by decide +kernel
theorem dX12_goMinute_136 : decode cX12_goMinute 136 = .ok (.aload_n 0, 1) := by decide +kernel
theorem dX12_goMinute_137 : decode cX12_goMinute 137 = .ok (.iload_n 1, 1) := by decide +kernel
theorem dX12_goMinute_138 : decode cX12_goMinute 138 = .ok (.iconst 0, 1) := by decide +kernel
theorem dX12_goMinute_139 : decode cX12_goMinute 139 = .ok (.invokevirtual 272, 3) := by decide +kernel
theorem dX12_goMinute_142 : decode cX12_goMinute 142 = .ok (.istore_n 2, 1) := by decide +kernel
theorem dX12_goMinute_143 : decode cX12_goMinute 143 = .ok (.iload_n 2, 1) := by decide +kernel
theorem dX12_goMinute_144 : decode cX12_goMinute 144 = .ok (.iconst (-1), 1) := by decide +kernel
theorem dX12_goMinute_145 : decode cX12_goMinute 145 = .ok (.if_icmp .eq 145, 3) := by decide +kernel
theorem dX12_goMinute_148 : decode cX12_goMinute 148 = .ok (.aload_n 0, 1) := by decide +kernel
theorem dX12_goMinute_149 : decode cX12_goMinute 149 = .ok (.iload_n 1, 1) := by decide +kernel
theorem dX12_goMinute_150 : decode cX12_goMinute 150 = .ok (.aload_n 0, 1) := by decide +kernel
theorem dX12_goMinute_151 : decode cX12_goMinute 151 = .ok (.invokevirtual 164, 3) := by decide +kernel
theorem dX12_goMinute_154 : decode cX12_goMinute 154 = .ok (.invokevirtual 293, 3) := by decide +kernel
theorem dX12_goMinute_157 : decode cX12_goMinute 157 = .ok (.ifCond .eq 6, 3) := by decide +kernel
theorem dX12_goMinute_16 : decode cX12_goMinute 16 = .ok (.iconst (-1), 1) := by decide +kernel
theorem dX12_goMinute_160 : decode cX12_goMinute 160 = .ok (.goto 130, 3) := by decide +kernel
theorem dX12_goMinute_163 : decode cX12_goMinute 163 = .ok (.aload_n 0, 1) := by decide +kernel
theorem dX12_goMinute_164 : decode cX12_goMinute 164 = .ok (.iload_n 1, 1) := by decide +kernel
theorem dX12_goMinute_165 : decode cX12_goMinute 165 = .ok (.iconst 3, 1) := by decide +kernel
theorem dX12_goMinute_166 : decode cX12_goMinute 166 = .ok (.aload_n 0, 1) := by decide +kernel
theorem dX12_goMinute_167 : decode cX12_goMinute 167 = .ok (.iload_n 1, 1) := by decide +kernel
theorem dX12_goMinute_168 : decode cX12_goMinute 168 = .ok (.iconst 3, 1) := by decide +kernel
theorem dX12_goMinute_169 : decode cX12_goMinute 169 = .ok (.invokevirtual 272, 3) := by decide +kernel
theorem dX12_goMinute_17 : decode cX12_goMinute 17 = .ok (.if_icmp .ne 103, 3) := by decide +kernel
theorem dX12_goMinute_172 : decode cX12_goMinute 172 = .ok (.iconst 1, 1) := by decide +kernel
theorem dX12_goMinute_173 : decode cX12_goMinute 173 = .ok (.iadd, 1) := by decide +kernel
theorem dX12_goMinute_174 : decode cX12_goMinute 174 = .ok (.invokevirtual 156, 3) := by decide +kernel
theorem dX12_goMinute_177 : decode cX12_goMinute 177 = .ok (.aload_n 0, 1) := by decide +kernel
theorem dX12_goMinute_178 : decode cX12_goMinute 178 = .ok (.iload_n 2, 1) := by decide +kernel
theorem dX12_goMinute_179 : decode cX12_goMinute 179 = .ok (.iconst 3, 1) := by decide +kernel
theorem dX12_goMinute_180 : decode cX12_goMinute 180 = .ok (.iconst 0, 1) := by decide +kernel
theorem dX12_goMinute_181 : decode cX12_goMinute 181 = .ok (.aload_n 0, 1) := by decide +kernel
theorem dX12_goMinute_182 : decode cX12_goMinute 182 = .ok (.iload_n 2, 1) := by decide +kernel
theorem dX12_goMinute_183 : decode cX12_goMinute 183 = .ok (.iconst 3, 1) := by decide +kernel
theorem dX12_goMinute_184 : decode cX12_goMinute 184 = .ok (.invokevirtual 261, 3) := by decide +kernel
theorem dX12_goMinute_187 : decode cX12_goMinute 187 = .ok (.aload_n 0, 1) := by decide +kernel
theorem dX12_goMinute_188 : decode cX12_goMinute 188 = .ok (.iload_n 1, 1) := by decide +kernel
theorem dX12_goMinute_189 : decode cX12_goMinute 189 = .ok (.iconst 1, 1) := by decide +kernel
theorem dX12_goMinute_190 : decode cX12_goMinute 190 = .ok (.invokevirtual 272, 3) := by decide +kernel
theorem dX12_goMinute_193 : decode cX12_goMinute 193 = .ok (.isub, 1) := by decide +kernel
theorem dX12_goMinute_194 : decode cX12_goMinute 194 = .ok (.invokestatic 281, 3) := by decide +kernel
theorem dX12_goMinute_197 : decode cX12_goMinute 197 = .ok (.invokevirtual 170, 3) := by decide +kernel
theorem dX12_goMinute_2 : decode cX12_goMinute 2 = .ok (.iload_n 1, 1) := by decide +kernel
theorem dX12_goMinute_20 : decode cX12_goMinute 20 = .ok (.aload_n 0, 1) := by decide +kernel
theorem dX12_goMinute_200 : decode cX12_goMinute 200 = .ok (.aload_n 0, 1) := by decide +kernel
theorem dX12_goMinute_201 : decode cX12_goMinute 201 = .ok (.iload_n 2, 1) := by decide +kernel
theorem dX12_goMinute_202 : decode cX12_goMinute 202 = .ok (.iconst 3, 1) := by decide +kernel
theorem dX12_goMinute_203 : decode cX12_goMinute 203 = .ok (.invokevirtual 261, 3) := by decide +kernel
theorem dX12_goMinute_206 : decode cX12_goMinute 206 = .ok (.ifCond .le 6, 3) := by decide +kernel
theorem dX12_goMinute_209 : decode cX12_goMinute 209 = .ok (.goto 81, 3) := by decide +kernel
theorem dX12_goMinute_21 : decode cX12_goMinute 21 = .ok (.iload_n 1, 1) := by decide +kernel
theorem dX12_goMinute_212 : decode cX12_goMinute 212 = .ok (.aload_n 0, 1) := by decide +kernel
theorem dX12_goMinute_213 : decode cX12_goMinute 213 = .ok (.iload_n 2, 1) := by decide +kernel
theorem dX12_goMinute_214 : decode cX12_goMinute 214 = .ok (.iconst 2, 1) := by decide +kernel
theorem dX12_goMinute_215 : decode cX12_goMinute 215 = .ok (.aload_n 0, 1) := by decide +kernel
theorem dX12_goMinute_216 : decode cX12_goMinute 216 = .ok (.invokevirtual 164, 3) := by decide +kernel
theorem dX12_goMinute_219 : decode cX12_goMinute 219 = .ok (.iconst 1, 1) := by decide +kernel
theorem dX12_goMinute_22 : decode cX12_goMinute 22 = .ok (.aload_n 0, 1) := by decide +kernel
theorem dX12_goMinute_220 : decode cX12_goMinute 220 = .ok (.iadd, 1) := by decide +kernel
theorem dX12_goMinute_221 : decode cX12_goMinute 221 = .ok (.invokevirtual 170, 3) := by decide +kernel
theorem dX12_goMinute_224 : decode cX12_goMinute 224 = .ok (.aload_n 0, 1) := by decide +kernel
theorem dX12_goMinute_225 : decode cX12_goMinute 225 = .ok (.iload_n 1, 1) := by decide +kernel
theorem dX12_goMinute_226 : decode cX12_goMinute 226 = .ok (.iconst 0, 1) := by decide +kernel
theorem dX12_goMinute_227 : decode cX12_goMinute 227 = .ok (.iconst (-1), 1) := by decide +kernel
theorem dX12_goMinute_228 : decode cX12_goMinute 228 = .ok (.invokevirtual 156, 3) := by decide +kernel
theorem dX12_goMinute_23 : decode cX12_goMinute 23 = .ok (.invokevirtual 164, 3) := by decide +kernel
theorem dX12_goMinute_231 : decode cX12_goMinute 231 = .ok (.aload_n 0, 1) := by decide +kernel
theorem dX12_goMinute_232 : decode cX12_goMinute 232 = .ok (.iload_n 1, 1) := by decide +kernel
theorem dX12_goMinute_233 : decode cX12_goMinute 233 = .ok (.iconst 1, 1) := by decide +kernel
theorem dX12_goMinute_234 : decode cX12_goMinute 234 = .ok (.iconst (-1), 1) := by decide +kernel
theorem dX12_goMinute_235 : decode cX12_goMinute 235 = .ok (.invokevirtual 156, 3) := by decide +kernel
theorem dX12_goMinute_238 : decode cX12_goMinute 238 = .ok (.aload_n 0, 1) := by decide +kernel
theorem dX12_goMinute_239 : decode cX12_goMinute 239 = .ok (.iload_n 1, 1) := by decide +kernel
theorem dX12_goMinute_240 : decode cX12_goMinute 240 = .ok (.iconst 2, 1) := by decide +kernel
theorem dX12_goMinute_241 : decode cX12_goMinute 241 = .ok (.aload_n 0, 1) := by decide +kernel
theorem dX12_goMinute_242 : decode cX12_goMinute 242 = .ok (.iload_n 1, 1) := by decide +kernel
theorem dX12_goMinute_243 : decode cX12_goMinute 243 = .ok (.iconst 2, 1) := by decide +kernel
theorem dX12_goMinute_244 : decode cX12_goMinute 244 = .ok (.invokevirtual 272, 3) := by decide +kernel
theorem dX12_goMinute_247 : decode cX12_goMinute 247 = .ok (.aload_n 0, 1) := by decide +kernel
theorem dX12_goMinute_248 : decode cX12_goMinute 248 = .ok (.getfield 52, 3) := by decide +kernel
theorem dX12_goMinute_251 : decode cX12_goMinute 251 = .ok (.iload_n 2, 1) := by decide +kernel
theorem dX12_goMinute_252 : decode cX12_goMinute 252 = .ok (.iaload, 1) := by decide +kernel
theorem dX12_goMinute_253 : decode cX12_goMinute 253 = .ok (.ior, 1) := by decide +kernel
theorem dX12_goMinute_254 : decode cX12_goMinute 254 = .ok (.invokevirtual 156, 3) := by decide +kernel
theorem dX12_goMinute_257 : decode cX12_goMinute 257 = .ok (.aload_n 0, 1) := by decide +kernel
theorem dX12_goMinute_258 : decode cX12_goMinute 258 = .ok (.iload_n 1, 1) := by decide +kernel
theorem dX12_goMinute_259 : decode cX12_goMinute 259 = .ok (.iconst 4, 1) := by decide +kernel
theorem dX12_goMinute_26 : decode cX12_goMinute 26 = .ok (.invokevirtual 293, 3) := by decide +kernel
theorem dX12_goMinute_260 : decode cX12_goMinute 260 = .ok (.aload_n 0, 1) := by decide +kernel
theorem dX12_goMinute_261 : decode cX12_goMinute 261 = .ok (.iload_n 1, 1) := by decide +kernel
theorem dX12_goMinute_262 : decode cX12_goMinute 262 = .ok (.iconst 4, 1) := by decide +kernel
theorem dX12_goMinute_263 : decode cX12_goMinute 263 = .ok (.invokevirtual 272, 3) := by decide +kernel
theorem dX12_goMinute_266 : decode cX12_goMinute 266 = .ok (.aload_n 0, 1) := by decide +kernel
theorem dX12_goMinute_267 : decode cX12_goMinute 267 = .ok (.getfield 37, 3) := by decide +kernel
theorem dX12_goMinute_270 : decode cX12_goMinute 270 = .ok (.iload_n 2, 1) := by decide +kernel
theorem dX12_goMinute_271 : decode cX12_goMinute 271 = .ok (.iaload, 1) := by decide +kernel
theorem dX12_goMinute_272 : decode cX12_goMinute 272 = .ok (.iadd, 1) := by decide +kernel
theorem dX12_goMinute_273 : decode cX12_goMinute 273 = .ok (.invokevirtual 156, 3) := by decide +kernel
theorem dX12_goMinute_276 : decode cX12_goMinute 276 = .ok (.aload_n 0, 1) := by decide +kernel
theorem dX12_goMinute_277 : decode cX12_goMinute 277 = .ok (.iload_n 1, 1) := by decide +kernel
theorem dX12_goMinute_278 : decode cX12_goMinute 278 = .ok (.iconst 5, 1) := by decide +kernel
theorem dX12_goMinute_279 : decode cX12_goMinute 279 = .ok (.aload_n 0, 1) := by decide +kernel
theorem dX12_goMinute_280 : decode cX12_goMinute 280 = .ok (.iload_n 1, 1) := by decide +kernel
theorem dX12_goMinute_281 : decode cX12_goMinute 281 = .ok (.iconst 5, 1) := by decide +kernel
theorem dX12_goMinute_282 : decode cX12_goMinute 282 = .ok (.invokevirtual 272, 3) := by decide +kernel
theorem dX12_goMinute_285 : decode cX12_goMinute 285 = .ok (.iconst 1, 1) := by decide +kernel
theorem dX12_goMinute_286 : decode cX12_goMinute 286 = .ok (.iadd, 1) := by decide +kernel
theorem dX12_goMinute_287 : decode cX12_goMinute 287 = .ok (.invokevirtual 156, 3) := by decide +kernel
theorem dX12_goMinute_29 : decode cX12_goMinute 29 = .ok (.ifCond .eq 6, 3) := by decide +kernel
theorem dX12_goMinute_290 : decode cX12_goMinute 290 = .ok (.iinc 1 1, 3) := by decide +kernel
theorem dX12_goMinute_293 : decode cX12_goMinute 293 = .ok (.goto (-165), 3) := by decide +kernel
theorem dX12_goMinute_296 : decode cX12_goMinute 296 = .ok (.aload_n 0, 1) := by decide +kernel
theorem dX12_goMinute_297 : decode cX12_goMinute 297 = .ok (.getfield 107, 3) := by decide +kernel
theorem dX12_goMinute_3 : decode cX12_goMinute 3 = .ok (.aload_n 0, 1) := by decide +kernel
theorem dX12_goMinute_300 : decode cX12_goMinute 300 = .ok (.iconst 0, 1) := by decide +kernel
theorem dX12_goMinute_301 : decode cX12_goMinute 301 = .ok (.dup2, 1) := by decide +kernel
theorem dX12_goMinute_302 : decode cX12_goMinute 302 = .ok (.iaload, 1) := by decide +kernel
theorem dX12_goMinute_303 : decode cX12_goMinute 303 = .ok (.iconst 1, 1) := by decide +kernel
theorem dX12_goMinute_304 : decode cX12_goMinute 304 = .ok (.iadd, 1) := by decide +kernel
theorem dX12_goMinute_305 : decode cX12_goMinute 305 = .ok (.iastore, 1) := by decide +kernel
theorem dX12_goMinute_306 : decode cX12_goMinute 306 = .ok (.return_, 1) := by decide +kernel
theorem dX12_goMinute_32 : decode cX12_goMinute 32 = .ok (.goto 88, 3) := by decide +kernel
theorem dX12_goMinute_35 : decode cX12_goMinute 35 = .ok (.aload_n 0, 1) := by decide +kernel
theorem dX12_goMinute_36 : decode cX12_goMinute 36 = .ok (.iload_n 1, 1) := by decide +kernel
theorem dX12_goMinute_37 : decode cX12_goMinute 37 = .ok (.invokevirtual 296, 3) := by decide +kernel
theorem dX12_goMinute_4 : decode cX12_goMinute 4 = .ok (.getfield 142, 3) := by decide +kernel
theorem dX12_goMinute_40 : decode cX12_goMinute 40 = .ok (.istore_n 2, 1) := by decide +kernel
theorem dX12_goMinute_41 : decode cX12_goMinute 41 = .ok (.iload_n 2, 1) := by decide +kernel
theorem dX12_goMinute_42 : decode cX12_goMinute 42 = .ok (.iconst (-1), 1) := by decide +kernel
theorem dX12_goMinute_43 : decode cX12_goMinute 43 = .ok (.if_icmp .ne 6, 3) := by decide +kernel
theorem dX12_goMinute_46 : decode cX12_goMinute 46 = .ok (.goto 74, 3) := by decide +kernel
theorem dX12_goMinute_49 : decode cX12_goMinute 49 = .ok (.aload_n 0, 1) := by decide +kernel
theorem dX12_goMinute_50 : decode cX12_goMinute 50 = .ok (.getfield 52, 3) := by decide +kernel
theorem dX12_goMinute_53 : decode cX12_goMinute 53 = .ok (.iload_n 2, 1) := by decide +kernel
theorem dX12_goMinute_54 : decode cX12_goMinute 54 = .ok (.iaload, 1) := by decide +kernel
theorem dX12_goMinute_55 : decode cX12_goMinute 55 = .ok (.aload_n 0, 1) := by decide +kernel
theorem dX12_goMinute_56 : decode cX12_goMinute 56 = .ok (.iload_n 1, 1) := by decide +kernel
theorem dX12_goMinute_57 : decode cX12_goMinute 57 = .ok (.iconst 2, 1) := by decide +kernel
theorem dX12_goMinute_58 : decode cX12_goMinute 58 = .ok (.invokevirtual 272, 3) := by decide +kernel
theorem dX12_goMinute_61 : decode cX12_goMinute 61 = .ok (.iconst (-1), 1) := by decide +kernel
theorem dX12_goMinute_62 : decode cX12_goMinute 62 = .ok (.ixor, 1) := by decide +kernel
theorem dX12_goMinute_63 : decode cX12_goMinute 63 = .ok (.iand, 1) := by decide +kernel
theorem dX12_goMinute_64 : decode cX12_goMinute 64 = .ok (.istore_n 3, 1) := by decide +kernel
theorem dX12_goMinute_65 : decode cX12_goMinute 65 = .ok (.aload_n 0, 1) := by decide +kernel
theorem dX12_goMinute_66 : decode cX12_goMinute 66 = .ok (.iload_n 1, 1) := by decide +kernel
theorem dX12_goMinute_67 : decode cX12_goMinute 67 = .ok (.iconst 0, 1) := by decide +kernel
theorem dX12_goMinute_68 : decode cX12_goMinute 68 = .ok (.iload_n 2, 1) := by decide +kernel
theorem dX12_goMinute_69 : decode cX12_goMinute 69 = .ok (.invokevirtual 156, 3) := by decide +kernel
theorem dX12_goMinute_7 : decode cX12_goMinute 7 = .ok (.if_icmp .ge 119, 3) := by decide +kernel
theorem dX12_goMinute_72 : decode cX12_goMinute 72 = .ok (.aload_n 0, 1) := by decide +kernel
theorem dX12_goMinute_73 : decode cX12_goMinute 73 = .ok (.iload_n 1, 1) := by decide +kernel
theorem dX12_goMinute_74 : decode cX12_goMinute 74 = .ok (.iconst 1, 1) := by decide +kernel
theorem dX12_goMinute_75 : decode cX12_goMinute 75 = .ok (.aload_n 0, 1) := by decide +kernel
theorem dX12_goMinute_76 : decode cX12_goMinute 76 = .ok (.getfield 13, 3) := by decide +kernel
theorem dX12_goMinute_79 : decode cX12_goMinute 79 = .ok (.iload_n 1, 1) := by decide +kernel
theorem dX12_goMinute_80 : decode cX12_goMinute 80 = .ok (.iaload, 1) := by decide +kernel
theorem dX12_goMinute_81 : decode cX12_goMinute 81 = .ok (.iload_n 3, 1) := by decide +kernel
theorem dX12_goMinute_82 : decode cX12_goMinute 82 = .ok (.invokestatic 299, 3) := by decide +kernel
theorem dX12_goMinute_85 : decode cX12_goMinute 85 = .ok (.invokevirtual 156, 3) := by decide +kernel
theorem dX12_goMinute_88 : decode cX12_goMinute 88 = .ok (.aload_n 0, 1) := by decide +kernel
theorem dX12_goMinute_89 : decode cX12_goMinute 89 = .ok (.iload_n 2, 1) := by decide +kernel
theorem dX12_goMinute_90 : decode cX12_goMinute 90 = .ok (.iconst 0, 1) := by decide +kernel
theorem dX12_goMinute_91 : decode cX12_goMinute 91 = .ok (.iload_n 1, 1) := by decide +kernel
theorem dX12_goMinute_92 : decode cX12_goMinute 92 = .ok (.invokevirtual 170, 3) := by decide +kernel
theorem dX12_goMinute_95 : decode cX12_goMinute 95 = .ok (.aload_n 0, 1) := by decide +kernel
theorem dX12_goMinute_96 : decode cX12_goMinute 96 = .ok (.iload_n 2, 1) := by decide +kernel
theorem dX12_goMinute_97 : decode cX12_goMinute 97 = .ok (.iconst 1, 1) := by decide +kernel
theorem dX12_goMinute_98 : decode cX12_goMinute 98 = .ok (.aload_n 0, 1) := by decide +kernel
theorem dX12_goMinute_99 : decode cX12_goMinute 99 = .ok (.invokevirtual 164, 3) := by decide +kernel
theorem dX12_go_0 : decode cX12_go 0 = .ok (.iconst 0, 1) := by decide +kernel
theorem dX12_go_1 : decode cX12_go 1 = .ok (.istore_n 2, 1) := by decide +kernel
theorem dX12_go_11 : decode cX12_go 11 = .ok (.iinc 2 1, 3) := by decide +kernel
theorem dX12_go_14 : decode cX12_go 14 = .ok (.goto (-12), 3) := by decide +kernel
theorem dX12_go_17 : decode cX12_go 17 = .ok (.return_, 1) := by decide +kernel
theorem dX12_go_2 : decode cX12_go 2 = .ok (.iload_n 2, 1) := by decide +kernel
theorem dX12_go_3 : decode cX12_go 3 = .ok (.iload_n 1, 1) := by decide +kernel
theorem dX12_go_4 : decode cX12_go 4 = .ok (.if_icmp .ge 13, 3) := by decide +kernel
theorem dX12_go_7 : decode cX12_go 7 = .ok (.aload_n 0, 1) := by decide +kernel
theorem dX12_go_8 : decode cX12_go 8 = .ok (.invokevirtual 302, 3) := by decide +kernel
theorem dX12_ill_0 : decode cX12_ill 0 = .ok (.aload_n 0, 1) := by decide +kernel
theorem dX12_ill_1 : decode cX12_ill 1 = .ok (.iconst 0, 1) := by decide +kernel
theorem dX12_ill_10 : decode cX12_ill 10 = .ok (.ifCond .eq 12, 3) := by decide +kernel
theorem dX12_ill_102 : decode cX12_ill 102 = .ok (.istore 4, 2) := by decide +kernel
theorem dX12_ill_104 : decode cX12_ill 104 = .ok (.aload_n 0, 1) := by decide +kernel
theorem dX12_ill_105 : decode cX12_ill 105 = .ok (.invokevirtual 382, 3) := by decide +kernel
theorem dX12_ill_108 : decode cX12_ill 108 = .ok (.aload_n 0, 1) := by decide +kernel
theorem dX12_ill_109 : decode cX12_ill 109 = .ok (.dup, 1) := by decide +kernel
theorem dX12_ill_110 : decode cX12_ill 110 = .ok (.getfield 167, 3) := by decide +kernel
theorem dX12_ill_113 : decode cX12_ill 113 = .ok (.iconst 1, 1) := by decide +kernel
theorem dX12_ill_114 : decode cX12_ill 114 = .ok (.isub, 1) := by decide +kernel
theorem dX12_ill_115 : decode cX12_ill 115 = .ok (.putfield 167, 3) := by decide +kernel
theorem dX12_ill_118 : decode cX12_ill 118 = .ok (.iload 4, 2) := by decide +kernel
theorem dX12_ill_120 : decode cX12_ill 120 = .ok (.iload_n 3, 1) := by decide +kernel
theorem dX12_ill_121 : decode cX12_ill 121 = .ok (.isub, 1) := by decide +kernel
theorem dX12_ill_122 : decode cX12_ill 122 = .ok (.ireturn, 1) := by decide +kernel
theorem dX12_ill_13 : decode cX12_ill 13 = .ok (.aload_n 0, 1) := by decide +kernel
theorem dX12_ill_14 : decode cX12_ill 14 = .ok (.iload_n 2, 1) := by decide +kernel
theorem dX12_ill_15 : decode cX12_ill 15 = .ok (.iconst 1, 1) := by decide +kernel
theorem dX12_ill_16 : decode cX12_ill 16 = .ok (.invokevirtual 305, 3) := by decide +kernel
theorem dX12_ill_19 : decode cX12_ill 19 = .ok (.ifCond .ne 8, 3) := by decide +kernel
theorem dX12_ill_2 : decode cX12_ill 2 = .ok (.putfield 139, 3) := by decide +kernel
theorem dX12_ill_22 : decode cX12_ill 22 = .ok (.aload_n 0, 1) := by decide +kernel
theorem dX12_ill_23 : decode cX12_ill 23 = .ok (.invokevirtual 312, 3) := by decide +kernel
theorem dX12_ill_26 : decode cX12_ill 26 = .ok (.ireturn, 1) := by decide +kernel
theorem dX12_ill_27 : decode cX12_ill 27 = .ok (.aload_n 0, 1) := by decide +kernel
theorem dX12_ill_28 : decode cX12_ill 28 = .ok (.invokevirtual 379, 3) := by decide +kernel
theorem dX12_ill_31 : decode cX12_ill 31 = .ok (.aload_n 0, 1) := by decide +kernel
theorem dX12_ill_32 : decode cX12_ill 32 = .ok (.iload_n 2, 1) := by decide +kernel
theorem dX12_ill_33 : decode cX12_ill 33 = .ok (.invokevirtual 308, 3) := by decide +kernel
theorem dX12_ill_36 : decode cX12_ill 36 = .ok (.aload_n 0, 1) := by decide +kernel
theorem dX12_ill_37 : decode cX12_ill 37 = .ok (.invokevirtual 324, 3) := by decide +kernel
theorem dX12_ill_40 : decode cX12_ill 40 = .ok (.istore_n 3, 1) := by decide +kernel
theorem dX12_ill_41 : decode cX12_ill 41 = .ok (.aload_n 0, 1) := by decide +kernel
theorem dX12_ill_42 : decode cX12_ill 42 = .ok (.invokevirtual 382, 3) := by decide +kernel
theorem dX12_ill_45 : decode cX12_ill 45 = .ok (.aload_n 0, 1) := by decide +kernel
theorem dX12_ill_46 : decode cX12_ill 46 = .ok (.getfield 22, 3) := by decide +kernel
theorem dX12_ill_49 : decode cX12_ill 49 = .ok (.aload_n 0, 1) := by decide +kernel
theorem dX12_ill_5 : decode cX12_ill 5 = .ok (.aload_n 0, 1) := by decide +kernel
theorem dX12_ill_50 : decode cX12_ill 50 = .ok (.getfield 167, 3) := by decide +kernel
theorem dX12_ill_53 : decode cX12_ill 53 = .ok (.iload_n 1, 1) := by decide +kernel
theorem dX12_ill_54 : decode cX12_ill 54 = .ok (.iastore, 1) := by decide +kernel
theorem dX12_ill_55 : decode cX12_ill 55 = .ok (.aload_n 0, 1) := by decide +kernel
theorem dX12_ill_56 : decode cX12_ill 56 = .ok (.getfield 25, 3) := by decide +kernel
theorem dX12_ill_59 : decode cX12_ill 59 = .ok (.aload_n 0, 1) := by decide +kernel
theorem dX12_ill_6 : decode cX12_ill 6 = .ok (.iload_n 1, 1) := by decide +kernel
theorem dX12_ill_60 : decode cX12_ill 60 = .ok (.getfield 167, 3) := by decide +kernel
theorem dX12_ill_63 : decode cX12_ill 63 = .ok (.aload_n 0, 1) := by decide +kernel
theorem dX12_ill_64 : decode cX12_ill 64 = .ok (.invokevirtual 164, 3) := by decide +kernel
theorem dX12_ill_67 : decode cX12_ill 67 = .ok (.iastore, 1) := by decide +kernel
theorem dX12_ill_68 : decode cX12_ill 68 = .ok (.aload_n 0, 1) := by decide +kernel
theorem dX12_ill_69 : decode cX12_ill 69 = .ok (.getfield 28, 3) := by decide +kernel
theorem dX12_ill_7 : decode cX12_ill 7 = .ok (.invokevirtual 160, 3) := by decide +kernel
theorem dX12_ill_72 : decode cX12_ill 72 = .ok (.aload_n 0, 1) := by decide +kernel
theorem dX12_ill_73 : decode cX12_ill 73 = .ok (.getfield 167, 3) := by decide +kernel
theorem dX12_ill_76 : decode cX12_ill 76 = .ok (.aload_n 0, 1) := by decide +kernel
theorem dX12_ill_77 : decode cX12_ill 77 = .ok (.invokevirtual 164, 3) := by decide +kernel
theorem dX12_ill_80 : decode cX12_ill 80 = .ok (.iload_n 2, 1) := by decide +kernel
theorem dX12_ill_81 : decode cX12_ill 81 = .ok (.iadd, 1) := by decide +kernel
theorem dX12_ill_82 : decode cX12_ill 82 = .ok (.iastore, 1) := by decide +kernel
theorem dX12_ill_83 : decode cX12_ill 83 = .ok (.aload_n 0, 1) := by decide +kernel
theorem dX12_ill_84 : decode cX12_ill 84 = .ok (.dup, 1) := by decide +kernel
theorem dX12_ill_85 : decode cX12_ill 85 = .ok (.getfield 167, 3) := by decide +kernel
theorem dX12_ill_88 : decode cX12_ill 88 = .ok (.iconst 1, 1) := by decide +kernel
theorem dX12_ill_89 : decode cX12_ill 89 = .ok (.iadd, 1) := by decide +kernel
theorem dX12_ill_90 : decode cX12_ill 90 = .ok (.putfield 167, 3) := by decide +kernel
theorem dX12_ill_93 : decode cX12_ill 93 = .ok (.aload_n 0, 1) := by decide +kernel
theorem dX12_ill_94 : decode cX12_ill 94 = .ok (.iload_n 2, 1) := by decide +kernel
theorem dX12_ill_95 : decode cX12_ill 95 = .ok (.invokevirtual 308, 3) := by decide +kernel
theorem dX12_ill_98 : decode cX12_ill 98 = .ok (.aload_n 0, 1) := by decide +kernel
theorem dX12_ill_99 : decode cX12_ill 99 = .ok (.invokevirtual 324, 3) := by decide +kernel
theorem dX12_keep_0 : decode cX12_keep 0 = .ok (.aload_n 0, 1) := by decide +kernel
theorem dX12_keep_1 : decode cX12_keep 1 = .ok (.getfield 366, 3) := by decide +kernel
theorem dX12_keep_12 : decode cX12_keep 12 = .ok (.if_icmp .gt 19, 3) := by decide +kernel
theorem dX12_keep_15 : decode cX12_keep 15 = .ok (.iload_n 2, 1) := by decide +kernel
theorem dX12_keep_16 : decode cX12_keep 16 = .ok (.aload_n 0, 1) := by decide +kernel
theorem dX12_keep_17 : decode cX12_keep 17 = .ok (.getfield 370, 3) := by decide +kernel
theorem dX12_keep_20 : decode cX12_keep 20 = .ok (.if_icmp .ne 12, 3) := by decide +kernel
theorem dX12_keep_23 : decode cX12_keep 23 = .ok (.iload_n 3, 1) := by decide +kernel
theorem dX12_keep_24 : decode cX12_keep 24 = .ok (.aload_n 0, 1) := by decide +kernel
theorem dX12_keep_25 : decode cX12_keep 25 = .ok (.getfield 373, 3) := by decide +kernel
theorem dX12_keep_28 : decode cX12_keep 28 = .ok (.if_icmp .lt 4, 3) := by decide +kernel
theorem dX12_keep_31 : decode cX12_keep 31 = .ok (.return_, 1) := by decide +kernel
theorem dX12_keep_32 : decode cX12_keep 32 = .ok (.aload_n 0, 1) := by decide +kernel
theorem dX12_keep_33 : decode cX12_keep 33 = .ok (.iconst 1, 1) := by decide +kernel
theorem dX12_keep_34 : decode cX12_keep 34 = .ok (.putfield 366, 3) := by decide +kernel
theorem dX12_keep_37 : decode cX12_keep 37 = .ok (.aload_n 0, 1) := by decide +kernel
theorem dX12_keep_38 : decode cX12_keep 38 = .ok (.iload_n 2, 1) := by decide +kernel
theorem dX12_keep_39 : decode cX12_keep 39 = .ok (.putfield 370, 3) := by decide +kernel
theorem dX12_keep_4 : decode cX12_keep 4 = .ok (.ifCond .eq 28, 3) := by decide +kernel
theorem dX12_keep_42 : decode cX12_keep 42 = .ok (.aload_n 0, 1) := by decide +kernel
theorem dX12_keep_43 : decode cX12_keep 43 = .ok (.iload_n 3, 1) := by decide +kernel
theorem dX12_keep_44 : decode cX12_keep 44 = .ok (.putfield 373, 3) := by decide +kernel
theorem dX12_keep_47 : decode cX12_keep 47 = .ok (.iconst 0, 1) := by decide +kernel
theorem dX12_keep_48 : decode cX12_keep 48 = .ok (.istore 4, 2) := by decide +kernel
theorem dX12_keep_50 : decode cX12_keep 50 = .ok (.iload 4, 2) := by decide +kernel
theorem dX12_keep_52 : decode cX12_keep 52 = .ok (.iload_n 1, 1) := by decide +kernel
theorem dX12_keep_53 : decode cX12_keep 53 = .ok (.if_icmp .ge 23, 3) := by decide +kernel
theorem dX12_keep_56 : decode cX12_keep 56 = .ok (.aload_n 0, 1) := by decide +kernel
theorem dX12_keep_57 : decode cX12_keep 57 = .ok (.getfield 132, 3) := by decide +kernel
theorem dX12_keep_60 : decode cX12_keep 60 = .ok (.iload 4, 2) := by decide +kernel
theorem dX12_keep_62 : decode cX12_keep 62 = .ok (.aload_n 0, 1) := by decide +kernel
theorem dX12_keep_63 : decode cX12_keep 63 = .ok (.getfield 129, 3) := by decide +kernel
theorem dX12_keep_66 : decode cX12_keep 66 = .ok (.iload 4, 2) := by decide +kernel
theorem dX12_keep_68 : decode cX12_keep 68 = .ok (.iaload, 1) := by decide +kernel
theorem dX12_keep_69 : decode cX12_keep 69 = .ok (.iastore, 1) := by decide +kernel
theorem dX12_keep_7 : decode cX12_keep 7 = .ok (.iload_n 2, 1) := by decide +kernel
theorem dX12_keep_70 : decode cX12_keep 70 = .ok (.iinc 4 1, 3) := by decide +kernel
theorem dX12_keep_73 : decode cX12_keep 73 = .ok (.goto (-23), 3) := by decide +kernel
theorem dX12_keep_76 : decode cX12_keep 76 = .ok (.return_, 1) := by decide +kernel
theorem dX12_keep_8 : decode cX12_keep 8 = .ok (.aload_n 0, 1) := by decide +kernel
theorem dX12_keep_9 : decode cX12_keep 9 = .ok (.getfield 370, 3) := by decide +kernel
theorem dX12_lateness_0 : decode cX12_lateness 0 = .ok (.aload_n 0, 1) := by decide +kernel
theorem dX12_lateness_1 : decode cX12_lateness 1 = .ok (.iconst 0, 1) := by decide +kernel
theorem dX12_lateness_11 : decode cX12_lateness 11 = .ok (.istore_n 3, 1) := by decide +kernel
theorem dX12_lateness_12 : decode cX12_lateness 12 = .ok (.iload_n 3, 1) := by decide +kernel
theorem dX12_lateness_13 : decode cX12_lateness 13 = .ok (.ifCond .ge 7, 3) := by decide +kernel
theorem dX12_lateness_16 : decode cX12_lateness 16 = .ok (.iload_n 3, 1) := by decide +kernel
theorem dX12_lateness_17 : decode cX12_lateness 17 = .ok (.goto 7, 3) := by decide +kernel
theorem dX12_lateness_2 : decode cX12_lateness 2 = .ok (.putfield 139, 3) := by decide +kernel
theorem dX12_lateness_20 : decode cX12_lateness 20 = .ok (.aload_n 0, 1) := by decide +kernel
theorem dX12_lateness_21 : decode cX12_lateness 21 = .ok (.getfield 373, 3) := by decide +kernel
theorem dX12_lateness_24 : decode cX12_lateness 24 = .ok (.ireturn, 1) := by decide +kernel
theorem dX12_lateness_5 : decode cX12_lateness 5 = .ok (.aload_n 0, 1) := by decide +kernel
theorem dX12_lateness_6 : decode cX12_lateness 6 = .ok (.iload_n 1, 1) := by decide +kernel
theorem dX12_lateness_7 : decode cX12_lateness 7 = .ok (.iload_n 2, 1) := by decide +kernel
theorem dX12_lateness_8 : decode cX12_lateness 8 = .ok (.invokevirtual 376, 3) := by decide +kernel
theorem dX12_left_0 : decode cX12_left 0 = .ok (.aload_n 0, 1) := by decide +kernel
theorem dX12_left_1 : decode cX12_left 1 = .ok (.iconst 0, 1) := by decide +kernel
theorem dX12_left_10 : decode cX12_left 10 = .ok (.ifCond .eq 12, 3) := by decide +kernel
theorem dX12_left_100 : decode cX12_left 100 = .ok (.invokestatic 275, 3) := by decide +kernel
theorem dX12_left_103 : decode cX12_left 103 = .ok (.imul, 1) := by decide +kernel
theorem dX12_left_104 : decode cX12_left 104 = .ok (.iload 5, 2) := by decide +kernel
theorem dX12_left_106 : decode cX12_left 106 = .ok (.idiv, 1) := by decide +kernel
theorem dX12_left_107 : decode cX12_left 107 = .ok (.ireturn, 1) := by decide +kernel
theorem dX12_left_13 : decode cX12_left 13 = .ok (.iload_n 2, 1) := by decide +kernel
theorem dX12_left_14 : decode cX12_left 14 = .ok (.iconst 0, 1) := by decide +kernel
theorem dX12_left_15 : decode cX12_left 15 = .ok (.iconst 2, 1) := by decide +kernel
theorem dX12_left_16 : decode cX12_left 16 = .ok (.invokestatic 145, 3) := by decide +kernel
theorem dX12_left_19 : decode cX12_left 19 = .ok (.ifCond .ne 5, 3) := by decide +kernel
theorem dX12_left_2 : decode cX12_left 2 = .ok (.putfield 139, 3) := by decide +kernel
theorem dX12_left_22 : decode cX12_left 22 = .ok (.iconst (-1), 1) := by decide +kernel
theorem dX12_left_23 : decode cX12_left 23 = .ok (.ireturn, 1) := by decide +kernel
theorem dX12_left_24 : decode cX12_left 24 = .ok (.aload_n 0, 1) := by decide +kernel
theorem dX12_left_25 : decode cX12_left 25 = .ok (.getfield 98, 3) := by decide +kernel
theorem dX12_left_28 : decode cX12_left 28 = .ok (.iconst 2, 1) := by decide +kernel
theorem dX12_left_29 : decode cX12_left 29 = .ok (.iload_n 1, 1) := by decide +kernel
theorem dX12_left_30 : decode cX12_left 30 = .ok (.imul, 1) := by decide +kernel
theorem dX12_left_31 : decode cX12_left 31 = .ok (.iaload, 1) := by decide +kernel
theorem dX12_left_32 : decode cX12_left 32 = .ok (.istore_n 3, 1) := by decide +kernel
theorem dX12_left_33 : decode cX12_left 33 = .ok (.aload_n 0, 1) := by decide +kernel
theorem dX12_left_34 : decode cX12_left 34 = .ok (.getfield 98, 3) := by decide +kernel
theorem dX12_left_37 : decode cX12_left 37 = .ok (.iconst 2, 1) := by decide +kernel
theorem dX12_left_38 : decode cX12_left 38 = .ok (.iload_n 1, 1) := by decide +kernel
theorem dX12_left_39 : decode cX12_left 39 = .ok (.imul, 1) := by decide +kernel
theorem dX12_left_40 : decode cX12_left 40 = .ok (.iconst 1, 1) := by decide +kernel
theorem dX12_left_41 : decode cX12_left 41 = .ok (.iadd, 1) := by decide +kernel
theorem dX12_left_42 : decode cX12_left 42 = .ok (.iaload, 1) := by decide +kernel
theorem dX12_left_43 : decode cX12_left 43 = .ok (.istore 4, 2) := by decide +kernel
theorem dX12_left_45 : decode cX12_left 45 = .ok (.iload_n 3, 1) := by decide +kernel
theorem dX12_left_46 : decode cX12_left 46 = .ok (.iload 4, 2) := by decide +kernel
theorem dX12_left_48 : decode cX12_left 48 = .ok (.iand, 1) := by decide +kernel
theorem dX12_left_49 : decode cX12_left 49 = .ok (.invokestatic 275, 3) := by decide +kernel
theorem dX12_left_5 : decode cX12_left 5 = .ok (.aload_n 0, 1) := by decide +kernel
theorem dX12_left_52 : decode cX12_left 52 = .ok (.istore 5, 2) := by decide +kernel
theorem dX12_left_54 : decode cX12_left 54 = .ok (.iload_n 2, 1) := by decide +kernel
theorem dX12_left_55 : decode cX12_left 55 = .ok (.ifCond .le 21, 3) := by decide +kernel
theorem dX12_left_58 : decode cX12_left 58 = .ok (.iload_n 2, 1) := by decide +kernel
theorem dX12_left_59 : decode cX12_left 59 = .ok (.iconst 1, 1) := by decide +kernel
theorem dX12_left_6 : decode cX12_left 6 = .ok (.iload_n 1, 1) := by decide +kernel
theorem dX12_left_60 : decode cX12_left 60 = .ok (.if_icmp .ne 13, 3) := by decide +kernel
theorem dX12_left_63 : decode cX12_left 63 = .ok (.iload_n 3, 1) := by decide +kernel
theorem dX12_left_64 : decode cX12_left 64 = .ok (.iload 4, 2) := by decide +kernel
theorem dX12_left_66 : decode cX12_left 66 = .ok (.ior, 1) := by decide +kernel
theorem dX12_left_67 : decode cX12_left 67 = .ok (.invokestatic 275, 3) := by decide +kernel
theorem dX12_left_7 : decode cX12_left 7 = .ok (.invokevirtual 315, 3) := by decide +kernel
theorem dX12_left_70 : decode cX12_left 70 = .ok (.goto 5, 3) := by decide +kernel
theorem dX12_left_73 : decode cX12_left 73 = .ok (.iload 5, 2) := by decide +kernel
theorem dX12_left_75 : decode cX12_left 75 = .ok (.ireturn, 1) := by decide +kernel
theorem dX12_left_76 : decode cX12_left 76 = .ok (.iload 5, 2) := by decide +kernel
theorem dX12_left_78 : decode cX12_left 78 = .ok (.ifCond .ne 7, 3) := by decide +kernel
theorem dX12_left_81 : decode cX12_left 81 = .ok (.iconst (-1), 1) := by decide +kernel
theorem dX12_left_82 : decode cX12_left 82 = .ok (.goto 25, 3) := by decide +kernel
theorem dX12_left_85 : decode cX12_left 85 = .ok (.iload_n 3, 1) := by decide +kernel
theorem dX12_left_86 : decode cX12_left 86 = .ok (.iload 4, 2) := by decide +kernel
theorem dX12_left_88 : decode cX12_left 88 = .ok (.iconst (-1), 1) := by decide +kernel
theorem dX12_left_89 : decode cX12_left 89 = .ok (.ixor, 1) := by decide +kernel
theorem dX12_left_90 : decode cX12_left 90 = .ok (.iand, 1) := by decide +kernel
theorem dX12_left_91 : decode cX12_left 91 = .ok (.invokestatic 275, 3) := by decide +kernel
theorem dX12_left_94 : decode cX12_left 94 = .ok (.iload 4, 2) := by decide +kernel
theorem dX12_left_96 : decode cX12_left 96 = .ok (.iload_n 3, 1) := by decide +kernel
theorem dX12_left_97 : decode cX12_left 97 = .ok (.iconst (-1), 1) := by decide +kernel
theorem dX12_left_98 : decode cX12_left 98 = .ok (.ixor, 1) := by decide +kernel
theorem dX12_left_99 : decode cX12_left 99 = .ok (.iand, 1) := by decide +kernel
theorem dX12_planFrom_0 : decode cX12_planFrom 0 = .ok (.aload_n 0, 1) := by decide +kernel
theorem dX12_planFrom_1 : decode cX12_planFrom 1 = .ok (.getfield 126, 3) := by decide +kernel
theorem dX12_planFrom_100 : decode cX12_planFrom 100 = .ok (.iload 10, 2) := by decide +kernel
theorem dX12_planFrom_102 : decode cX12_planFrom 102 = .ok (.invokevirtual 286, 3) := by decide +kernel
theorem dX12_planFrom_105 : decode cX12_planFrom 105 = .ok (.ifCond .ne 6, 3) := by decide +kernel
theorem dX12_planFrom_108 : decode cX12_planFrom 108 = .ok (.goto 115, 3) := by decide +kernel
theorem dX12_planFrom_111 : decode cX12_planFrom 111 = .ok (.aload_n 0, 1) := by decide +kernel
theorem dX12_planFrom_112 : decode cX12_planFrom 112 = .ok (.iload 8, 2) := by decide +kernel
theorem dX12_planFrom_114 : decode cX12_planFrom 114 = .ok (.iload 4, 2) := by decide +kernel
theorem dX12_planFrom_116 : decode cX12_planFrom 116 = .ok (.aload_n 0, 1) := by decide +kernel
theorem dX12_planFrom_117 : decode cX12_planFrom 117 = .ok (.iload 10, 2) := by decide +kernel
theorem dX12_planFrom_119 : decode cX12_planFrom 119 = .ok (.invokevirtual 173, 3) := by decide +kernel
theorem dX12_planFrom_12 : decode cX12_planFrom 12 = .ok (.iload_n 3, 1) := by decide +kernel
theorem dX12_planFrom_122 : decode cX12_planFrom 122 = .ok (.aload_n 0, 1) := by decide +kernel
theorem dX12_planFrom_123 : decode cX12_planFrom 123 = .ok (.getfield 13, 3) := by decide +kernel
theorem dX12_planFrom_126 : decode cX12_planFrom 126 = .ok (.iload 8, 2) := by decide +kernel
theorem dX12_planFrom_128 : decode cX12_planFrom 128 = .ok (.iaload, 1) := by decide +kernel
theorem dX12_planFrom_129 : decode cX12_planFrom 129 = .ok (.aload_n 0, 1) := by decide +kernel
theorem dX12_planFrom_13 : decode cX12_planFrom 13 = .ok (.iconst (-1), 1) := by decide +kernel
theorem dX12_planFrom_130 : decode cX12_planFrom 130 = .ok (.getfield 52, 3) := by decide +kernel
theorem dX12_planFrom_133 : decode cX12_planFrom 133 = .ok (.iload 10, 2) := by decide +kernel
theorem dX12_planFrom_135 : decode cX12_planFrom 135 = .ok (.iaload, 1) := by decide +kernel
theorem dX12_planFrom_136 : decode cX12_planFrom 136 = .ok (.iload 5, 2) := by decide +kernel
theorem dX12_planFrom_138 : decode cX12_planFrom 138 = .ok (.iconst (-1), 1) := by decide +kernel
theorem dX12_planFrom_139 : decode cX12_planFrom 139 = .ok (.ixor, 1) := by decide +kernel
theorem dX12_planFrom_14 : decode cX12_planFrom 14 = .ok (.iastore, 1) := by decide +kernel
theorem dX12_planFrom_140 : decode cX12_planFrom 140 = .ok (.iand, 1) := by decide +kernel
theorem dX12_planFrom_141 : decode cX12_planFrom 141 = .ok (.invokestatic 299, 3) := by decide +kernel
theorem dX12_planFrom_144 : decode cX12_planFrom 144 = .ok (.invokestatic 355, 3) := by decide +kernel
theorem dX12_planFrom_147 : decode cX12_planFrom 147 = .ok (.invokevirtual 358, 3) := by decide +kernel
theorem dX12_planFrom_15 : decode cX12_planFrom 15 = .ok (.iload_n 1, 1) := by decide +kernel
theorem dX12_planFrom_150 : decode cX12_planFrom 150 = .ok (.istore 11, 2) := by decide +kernel
theorem dX12_planFrom_152 : decode cX12_planFrom 152 = .ok (.aload_n 0, 1) := by decide +kernel
theorem dX12_planFrom_153 : decode cX12_planFrom 153 = .ok (.getfield 129, 3) := by decide +kernel
theorem dX12_planFrom_156 : decode cX12_planFrom 156 = .ok (.iload_n 3, 1) := by decide +kernel
theorem dX12_planFrom_157 : decode cX12_planFrom 157 = .ok (.iload 10, 2) := by decide +kernel
theorem dX12_planFrom_159 : decode cX12_planFrom 159 = .ok (.iastore, 1) := by decide +kernel
theorem dX12_planFrom_16 : decode cX12_planFrom 16 = .ok (.iconst 1, 1) := by decide +kernel
theorem dX12_planFrom_160 : decode cX12_planFrom 160 = .ok (.aload_n 0, 1) := by decide +kernel
theorem dX12_planFrom_161 : decode cX12_planFrom 161 = .ok (.iload_n 1, 1) := by decide +kernel
theorem dX12_planFrom_162 : decode cX12_planFrom 162 = .ok (.iload_n 2, 1) := by decide +kernel
theorem dX12_planFrom_163 : decode cX12_planFrom 163 = .ok (.iconst 1, 1) := by decide +kernel
theorem dX12_planFrom_164 : decode cX12_planFrom 164 = .ok (.iload 9, 2) := by decide +kernel
theorem dX12_planFrom_166 : decode cX12_planFrom 166 = .ok (.ishl, 1) := by decide +kernel
theorem dX12_planFrom_167 : decode cX12_planFrom 167 = .ok (.ior, 1) := by decide +kernel
theorem dX12_planFrom_168 : decode cX12_planFrom 168 = .ok (.iload_n 3, 1) := by decide +kernel
theorem dX12_planFrom_169 : decode cX12_planFrom 169 = .ok (.iconst 1, 1) := by decide +kernel
theorem dX12_planFrom_17 : decode cX12_planFrom 17 = .ok (.iadd, 1) := by decide +kernel
theorem dX12_planFrom_170 : decode cX12_planFrom 170 = .ok (.iadd, 1) := by decide +kernel
theorem dX12_planFrom_171 : decode cX12_planFrom 171 = .ok (.iload 11, 2) := by decide +kernel
theorem dX12_planFrom_173 : decode cX12_planFrom 173 = .ok (.iload 5, 2) := by decide +kernel
theorem dX12_planFrom_175 : decode cX12_planFrom 175 = .ok (.aload_n 0, 1) := by decide +kernel
theorem dX12_planFrom_176 : decode cX12_planFrom 176 = .ok (.getfield 52, 3) := by decide +kernel
theorem dX12_planFrom_179 : decode cX12_planFrom 179 = .ok (.iload 10, 2) := by decide +kernel
theorem dX12_planFrom_18 : decode cX12_planFrom 18 = .ok (.aload_n 0, 1) := by decide +kernel
theorem dX12_planFrom_181 : decode cX12_planFrom 181 = .ok (.iaload, 1) := by decide +kernel
theorem dX12_planFrom_182 : decode cX12_planFrom 182 = .ok (.ior, 1) := by decide +kernel
theorem dX12_planFrom_183 : decode cX12_planFrom 183 = .ok (.iload 6, 2) := by decide +kernel
theorem dX12_planFrom_185 : decode cX12_planFrom 185 = .ok (.iload 11, 2) := by decide +kernel
theorem dX12_planFrom_187 : decode cX12_planFrom 187 = .ok (.aload_n 0, 1) := by decide +kernel
theorem dX12_planFrom_188 : decode cX12_planFrom 188 = .ok (.getfield 49, 3) := by decide +kernel
theorem dX12_planFrom_19 : decode cX12_planFrom 19 = .ok (.getfield 342, 3) := by decide +kernel
theorem dX12_planFrom_191 : decode cX12_planFrom 191 = .ok (.iload 10, 2) := by decide +kernel
theorem dX12_planFrom_193 : decode cX12_planFrom 193 = .ok (.iaload, 1) := by decide +kernel
theorem dX12_planFrom_194 : decode cX12_planFrom 194 = .ok (.if_icmp .le 7, 3) := by decide +kernel
theorem dX12_planFrom_197 : decode cX12_planFrom 197 = .ok (.iconst 1, 1) := by decide +kernel
theorem dX12_planFrom_198 : decode cX12_planFrom 198 = .ok (.goto 4, 3) := by decide +kernel
theorem dX12_planFrom_201 : decode cX12_planFrom 201 = .ok (.iconst 0, 1) := by decide +kernel
theorem dX12_planFrom_202 : decode cX12_planFrom 202 = .ok (.iadd, 1) := by decide +kernel
theorem dX12_planFrom_203 : decode cX12_planFrom 203 = .ok (.iload 7, 2) := by decide +kernel
theorem dX12_planFrom_205 : decode cX12_planFrom 205 = .ok (.iconst 0, 1) := by decide +kernel
theorem dX12_planFrom_206 : decode cX12_planFrom 206 = .ok (.iload 11, 2) := by decide +kernel
theorem dX12_planFrom_208 : decode cX12_planFrom 208 = .ok (.aload_n 0, 1) := by decide +kernel
theorem dX12_planFrom_209 : decode cX12_planFrom 209 = .ok (.getfield 49, 3) := by decide +kernel
theorem dX12_planFrom_212 : decode cX12_planFrom 212 = .ok (.iload 10, 2) := by decide +kernel
theorem dX12_planFrom_214 : decode cX12_planFrom 214 = .ok (.iaload, 1) := by decide +kernel
theorem dX12_planFrom_215 : decode cX12_planFrom 215 = .ok (.isub, 1) := by decide +kernel
theorem dX12_planFrom_216 : decode cX12_planFrom 216 = .ok (.invokestatic 281, 3) := by decide +kernel
theorem dX12_planFrom_219 : decode cX12_planFrom 219 = .ok (.iadd, 1) := by decide +kernel
theorem dX12_planFrom_22 : decode cX12_planFrom 22 = .ok (.if_icmp .ge 21, 3) := by decide +kernel
theorem dX12_planFrom_220 : decode cX12_planFrom 220 = .ok (.invokevirtual 362, 3) := by decide +kernel
theorem dX12_planFrom_223 : decode cX12_planFrom 223 = .ok (.iinc 9 1, 3) := by decide +kernel
theorem dX12_planFrom_226 : decode cX12_planFrom 226 = .ok (.goto (-157), 3) := by decide +kernel
theorem dX12_planFrom_229 : decode cX12_planFrom 229 = .ok (.return_, 1) := by decide +kernel
theorem dX12_planFrom_25 : decode cX12_planFrom 25 = .ok (.aload_n 0, 1) := by decide +kernel
theorem dX12_planFrom_26 : decode cX12_planFrom 26 = .ok (.iload_n 1, 1) := by decide +kernel
theorem dX12_planFrom_27 : decode cX12_planFrom 27 = .ok (.iconst 1, 1) := by decide +kernel
theorem dX12_planFrom_28 : decode cX12_planFrom 28 = .ok (.iadd, 1) := by decide +kernel
theorem dX12_planFrom_29 : decode cX12_planFrom 29 = .ok (.iload_n 2, 1) := by decide +kernel
theorem dX12_planFrom_30 : decode cX12_planFrom 30 = .ok (.iload_n 3, 1) := by decide +kernel
theorem dX12_planFrom_31 : decode cX12_planFrom 31 = .ok (.iconst 1, 1) := by decide +kernel
theorem dX12_planFrom_32 : decode cX12_planFrom 32 = .ok (.iadd, 1) := by decide +kernel
theorem dX12_planFrom_33 : decode cX12_planFrom 33 = .ok (.iload 6, 2) := by decide +kernel
theorem dX12_planFrom_35 : decode cX12_planFrom 35 = .ok (.iload 7, 2) := by decide +kernel
theorem dX12_planFrom_37 : decode cX12_planFrom 37 = .ok (.invokevirtual 345, 3) := by decide +kernel
theorem dX12_planFrom_4 : decode cX12_planFrom 4 = .ok (.iload_n 1, 1) := by decide +kernel
theorem dX12_planFrom_40 : decode cX12_planFrom 40 = .ok (.goto 26, 3) := by decide +kernel
theorem dX12_planFrom_43 : decode cX12_planFrom 43 = .ok (.iload_n 2, 1) := by decide +kernel
theorem dX12_planFrom_44 : decode cX12_planFrom 44 = .ok (.iconst 1, 1) := by decide +kernel
theorem dX12_planFrom_45 : decode cX12_planFrom 45 = .ok (.aload_n 0, 1) := by decide +kernel
theorem dX12_planFrom_46 : decode cX12_planFrom 46 = .ok (.getfield 349, 3) := by decide +kernel
theorem dX12_planFrom_49 : decode cX12_planFrom 49 = .ok (.ishl, 1) := by decide +kernel
theorem dX12_planFrom_5 : decode cX12_planFrom 5 = .ok (.iaload, 1) := by decide +kernel
theorem dX12_planFrom_50 : decode cX12_planFrom 50 = .ok (.iconst 1, 1) := by decide +kernel
theorem dX12_planFrom_51 : decode cX12_planFrom 51 = .ok (.isub, 1) := by decide +kernel
theorem dX12_planFrom_52 : decode cX12_planFrom 52 = .ok (.if_icmp .ne 14, 3) := by decide +kernel
theorem dX12_planFrom_55 : decode cX12_planFrom 55 = .ok (.aload_n 0, 1) := by decide +kernel
theorem dX12_planFrom_56 : decode cX12_planFrom 56 = .ok (.iload_n 3, 1) := by decide +kernel
theorem dX12_planFrom_57 : decode cX12_planFrom 57 = .ok (.iconst 1, 1) := by decide +kernel
theorem dX12_planFrom_58 : decode cX12_planFrom 58 = .ok (.iadd, 1) := by decide +kernel
theorem dX12_planFrom_59 : decode cX12_planFrom 59 = .ok (.iload 6, 2) := by decide +kernel
theorem dX12_planFrom_6 : decode cX12_planFrom 6 = .ok (.istore 8, 2) := by decide +kernel
theorem dX12_planFrom_61 : decode cX12_planFrom 61 = .ok (.iload 7, 2) := by decide +kernel
theorem dX12_planFrom_63 : decode cX12_planFrom 63 = .ok (.invokevirtual 352, 3) := by decide +kernel
theorem dX12_planFrom_66 : decode cX12_planFrom 66 = .ok (.iconst 0, 1) := by decide +kernel
theorem dX12_planFrom_67 : decode cX12_planFrom 67 = .ok (.istore 9, 2) := by decide +kernel
theorem dX12_planFrom_69 : decode cX12_planFrom 69 = .ok (.iload 9, 2) := by decide +kernel
theorem dX12_planFrom_71 : decode cX12_planFrom 71 = .ok (.aload_n 0, 1) := by decide +kernel
theorem dX12_planFrom_72 : decode cX12_planFrom 72 = .ok (.getfield 349, 3) := by decide +kernel
theorem dX12_planFrom_75 : decode cX12_planFrom 75 = .ok (.if_icmp .ge 154, 3) := by decide +kernel
theorem dX12_planFrom_78 : decode cX12_planFrom 78 = .ok (.aload_n 0, 1) := by decide +kernel
theorem dX12_planFrom_79 : decode cX12_planFrom 79 = .ok (.getfield 123, 3) := by decide +kernel
theorem dX12_planFrom_8 : decode cX12_planFrom 8 = .ok (.aload_n 0, 1) := by decide +kernel
theorem dX12_planFrom_82 : decode cX12_planFrom 82 = .ok (.iload 9, 2) := by decide +kernel
theorem dX12_planFrom_84 : decode cX12_planFrom 84 = .ok (.iaload, 1) := by decide +kernel
theorem dX12_planFrom_85 : decode cX12_planFrom 85 = .ok (.istore 10, 2) := by decide +kernel
theorem dX12_planFrom_87 : decode cX12_planFrom 87 = .ok (.iload_n 2, 1) := by decide +kernel
theorem dX12_planFrom_88 : decode cX12_planFrom 88 = .ok (.iload 9, 2) := by decide +kernel
theorem dX12_planFrom_9 : decode cX12_planFrom 9 = .ok (.getfield 129, 3) := by decide +kernel
theorem dX12_planFrom_90 : decode cX12_planFrom 90 = .ok (.ishr, 1) := by decide +kernel
theorem dX12_planFrom_91 : decode cX12_planFrom 91 = .ok (.iconst 1, 1) := by decide +kernel
theorem dX12_planFrom_92 : decode cX12_planFrom 92 = .ok (.iand, 1) := by decide +kernel
theorem dX12_planFrom_93 : decode cX12_planFrom 93 = .ok (.iconst 1, 1) := by decide +kernel
theorem dX12_planFrom_94 : decode cX12_planFrom 94 = .ok (.if_icmp .eq 129, 3) := by decide +kernel
theorem dX12_planFrom_97 : decode cX12_planFrom 97 = .ok (.aload_n 0, 1) := by decide +kernel
theorem dX12_planFrom_98 : decode cX12_planFrom 98 = .ok (.iload 8, 2) := by decide +kernel
theorem dX12_plan_0 : decode cX12_plan 0 = .ok (.aload_n 0, 1) := by decide +kernel
theorem dX12_plan_1 : decode cX12_plan 1 = .ok (.iconst 0, 1) := by decide +kernel
theorem dX12_plan_11 : decode cX12_plan 11 = .ok (.istore_n 3, 1) := by decide +kernel
theorem dX12_plan_12 : decode cX12_plan 12 = .ok (.iload_n 3, 1) := by decide +kernel
theorem dX12_plan_13 : decode cX12_plan 13 = .ok (.ifCond .ge 5, 3) := by decide +kernel
theorem dX12_plan_16 : decode cX12_plan 16 = .ok (.iload_n 3, 1) := by decide +kernel
theorem dX12_plan_17 : decode cX12_plan 17 = .ok (.ireturn, 1) := by decide +kernel
theorem dX12_plan_18 : decode cX12_plan 18 = .ok (.aload_n 0, 1) := by decide +kernel
theorem dX12_plan_19 : decode cX12_plan 19 = .ok (.aload_n 0, 1) := by decide +kernel
theorem dX12_plan_2 : decode cX12_plan 2 = .ok (.putfield 139, 3) := by decide +kernel
theorem dX12_plan_20 : decode cX12_plan 20 = .ok (.getfield 349, 3) := by decide +kernel
theorem dX12_plan_23 : decode cX12_plan 23 = .ok (.aload_n 0, 1) := by decide +kernel
theorem dX12_plan_24 : decode cX12_plan 24 = .ok (.getfield 342, 3) := by decide +kernel
theorem dX12_plan_27 : decode cX12_plan 27 = .ok (.iadd, 1) := by decide +kernel
theorem dX12_plan_28 : decode cX12_plan 28 = .ok (.putfield 327, 3) := by decide +kernel
theorem dX12_plan_31 : decode cX12_plan 31 = .ok (.iconst 0, 1) := by decide +kernel
theorem dX12_plan_32 : decode cX12_plan 32 = .ok (.istore 4, 2) := by decide +kernel
theorem dX12_plan_34 : decode cX12_plan 34 = .ok (.iload 4, 2) := by decide +kernel
theorem dX12_plan_36 : decode cX12_plan 36 = .ok (.aload_n 0, 1) := by decide +kernel
theorem dX12_plan_37 : decode cX12_plan 37 = .ok (.getfield 327, 3) := by decide +kernel
theorem dX12_plan_40 : decode cX12_plan 40 = .ok (.if_icmp .ge 23, 3) := by decide +kernel
theorem dX12_plan_43 : decode cX12_plan 43 = .ok (.aload_n 0, 1) := by decide +kernel
theorem dX12_plan_44 : decode cX12_plan 44 = .ok (.getfield 104, 3) := by decide +kernel
theorem dX12_plan_47 : decode cX12_plan 47 = .ok (.iload 4, 2) := by decide +kernel
theorem dX12_plan_49 : decode cX12_plan 49 = .ok (.aload_n 0, 1) := by decide +kernel
theorem dX12_plan_5 : decode cX12_plan 5 = .ok (.aload_n 0, 1) := by decide +kernel
theorem dX12_plan_50 : decode cX12_plan 50 = .ok (.getfield 132, 3) := by decide +kernel
theorem dX12_plan_53 : decode cX12_plan 53 = .ok (.iload 4, 2) := by decide +kernel
theorem dX12_plan_55 : decode cX12_plan 55 = .ok (.iaload, 1) := by decide +kernel
theorem dX12_plan_56 : decode cX12_plan 56 = .ok (.iastore, 1) := by decide +kernel
theorem dX12_plan_57 : decode cX12_plan 57 = .ok (.iinc 4 1, 3) := by decide +kernel
theorem dX12_plan_6 : decode cX12_plan 6 = .ok (.iload_n 1, 1) := by decide +kernel
theorem dX12_plan_60 : decode cX12_plan 60 = .ok (.goto (-26), 3) := by decide +kernel
theorem dX12_plan_63 : decode cX12_plan 63 = .ok (.aload_n 0, 1) := by decide +kernel
theorem dX12_plan_64 : decode cX12_plan 64 = .ok (.getfield 370, 3) := by decide +kernel
theorem dX12_plan_67 : decode cX12_plan 67 = .ok (.ireturn, 1) := by decide +kernel
theorem dX12_plan_7 : decode cX12_plan 7 = .ok (.iload_n 2, 1) := by decide +kernel
theorem dX12_plan_8 : decode cX12_plan 8 = .ok (.invokevirtual 376, 3) := by decide +kernel
theorem dX12_putAside_0 : decode cX12_putAside 0 = .ok (.iconst 0, 1) := by decide +kernel
theorem dX12_putAside_1 : decode cX12_putAside 1 = .ok (.istore_n 1, 1) := by decide +kernel
theorem dX12_putAside_10 : decode cX12_putAside 10 = .ok (.getfield 110, 3) := by decide +kernel
theorem dX12_putAside_13 : decode cX12_putAside 13 = .ok (.iload_n 1, 1) := by decide +kernel
theorem dX12_putAside_14 : decode cX12_putAside 14 = .ok (.aload_n 0, 1) := by decide +kernel
theorem dX12_putAside_15 : decode cX12_putAside 15 = .ok (.getfield 107, 3) := by decide +kernel
theorem dX12_putAside_18 : decode cX12_putAside 18 = .ok (.iload_n 1, 1) := by decide +kernel
theorem dX12_putAside_19 : decode cX12_putAside 19 = .ok (.iaload, 1) := by decide +kernel
theorem dX12_putAside_2 : decode cX12_putAside 2 = .ok (.iload_n 1, 1) := by decide +kernel
theorem dX12_putAside_20 : decode cX12_putAside 20 = .ok (.iastore, 1) := by decide +kernel
theorem dX12_putAside_21 : decode cX12_putAside 21 = .ok (.iinc 1 1, 3) := by decide +kernel
theorem dX12_putAside_24 : decode cX12_putAside 24 = .ok (.goto (-22), 3) := by decide +kernel
theorem dX12_putAside_27 : decode cX12_putAside 27 = .ok (.return_, 1) := by decide +kernel
theorem dX12_putAside_3 : decode cX12_putAside 3 = .ok (.sipush 199, 3) := by decide +kernel
theorem dX12_putAside_6 : decode cX12_putAside 6 = .ok (.if_icmp .ge 21, 3) := by decide +kernel
theorem dX12_putAside_9 : decode cX12_putAside 9 = .ok (.aload_n 0, 1) := by decide +kernel
theorem dX12_putBack_0 : decode cX12_putBack 0 = .ok (.iconst 0, 1) := by decide +kernel
theorem dX12_putBack_1 : decode cX12_putBack 1 = .ok (.istore_n 1, 1) := by decide +kernel
theorem dX12_putBack_10 : decode cX12_putBack 10 = .ok (.getfield 107, 3) := by decide +kernel
theorem dX12_putBack_13 : decode cX12_putBack 13 = .ok (.iload_n 1, 1) := by decide +kernel
theorem dX12_putBack_14 : decode cX12_putBack 14 = .ok (.aload_n 0, 1) := by decide +kernel
theorem dX12_putBack_15 : decode cX12_putBack 15 = .ok (.getfield 110, 3) := by decide +kernel
theorem dX12_putBack_18 : decode cX12_putBack 18 = .ok (.iload_n 1, 1) := by decide +kernel
theorem dX12_putBack_19 : decode cX12_putBack 19 = .ok (.iaload, 1) := by decide +kernel
theorem dX12_putBack_2 : decode cX12_putBack 2 = .ok (.iload_n 1, 1) := by decide +kernel
theorem dX12_putBack_20 : decode cX12_putBack 20 = .ok (.iastore, 1) := by decide +kernel
theorem dX12_putBack_21 : decode cX12_putBack 21 = .ok (.iinc 1 1, 3) := by decide +kernel
theorem dX12_putBack_24 : decode cX12_putBack 24 = .ok (.goto (-22), 3) := by decide +kernel
theorem dX12_putBack_27 : decode cX12_putBack 27 = .ok (.return_, 1) := by decide +kernel
theorem dX12_putBack_3 : decode cX12_putBack 3 = .ok (.sipush 199, 3) := by decide +kernel
theorem dX12_putBack_6 : decode cX12_putBack 6 = .ok (.if_icmp .ge 21, 3) := by decide +kernel
theorem dX12_putBack_9 : decode cX12_putBack 9 = .ok (.aload_n 0, 1) := by decide +kernel
theorem dX12_rule_0 : decode cX12_rule 0 = .ok (.aload_n 0, 1) := by decide +kernel
theorem dX12_rule_1 : decode cX12_rule 1 = .ok (.iconst 0, 1) := by decide +kernel
theorem dX12_rule_10 : decode cX12_rule 10 = .ok (.aload_n 0, 1) := by decide +kernel
theorem dX12_rule_100 : decode cX12_rule 100 = .ok (.iload 4, 2) := by decide +kernel
theorem dX12_rule_102 : decode cX12_rule 102 = .ok (.iload_n 3, 1) := by decide +kernel
theorem dX12_rule_103 : decode cX12_rule 103 = .ok (.if_icmp .ge 31, 3) := by decide +kernel
theorem dX12_rule_106 : decode cX12_rule 106 = .ok (.aload_n 0, 1) := by decide +kernel
theorem dX12_rule_107 : decode cX12_rule 107 = .ok (.getfield 58, 3) := by decide +kernel
theorem dX12_rule_11 : decode cX12_rule 11 = .ok (.iconst 0, 1) := by decide +kernel
theorem dX12_rule_110 : decode cX12_rule 110 = .ok (.bipush 60, 2) := by decide +kernel
theorem dX12_rule_112 : decode cX12_rule 112 = .ok (.aload_n 0, 1) := by decide +kernel
theorem dX12_rule_113 : decode cX12_rule 113 = .ok (.getfield 248, 3) := by decide +kernel
theorem dX12_rule_116 : decode cX12_rule 116 = .ok (.imul, 1) := by decide +kernel
theorem dX12_rule_117 : decode cX12_rule 117 = .ok (.iload 4, 2) := by decide +kernel
theorem dX12_rule_119 : decode cX12_rule 119 = .ok (.iadd, 1) := by decide +kernel
theorem dX12_rule_12 : decode cX12_rule 12 = .ok (.putfield 177, 3) := by decide +kernel
theorem dX12_rule_120 : decode cX12_rule 120 = .ok (.aload_n 0, 1) := by decide +kernel
theorem dX12_rule_121 : decode cX12_rule 121 = .ok (.getfield 101, 3) := by decide +kernel
theorem dX12_rule_124 : decode cX12_rule 124 = .ok (.iload 4, 2) := by decide +kernel
theorem dX12_rule_126 : decode cX12_rule 126 = .ok (.baload, 1) := by decide +kernel
theorem dX12_rule_127 : decode cX12_rule 127 = .ok (.bastore, 1) := by decide +kernel
theorem dX12_rule_128 : decode cX12_rule 128 = .ok (.iinc 4 1, 3) := by decide +kernel
theorem dX12_rule_131 : decode cX12_rule 131 = .ok (.goto (-31), 3) := by decide +kernel
theorem dX12_rule_134 : decode cX12_rule 134 = .ok (.aload_n 0, 1) := by decide +kernel
theorem dX12_rule_135 : decode cX12_rule 135 = .ok (.getfield 62, 3) := by decide +kernel
theorem dX12_rule_138 : decode cX12_rule 138 = .ok (.aload_n 0, 1) := by decide +kernel
theorem dX12_rule_139 : decode cX12_rule 139 = .ok (.getfield 248, 3) := by decide +kernel
theorem dX12_rule_142 : decode cX12_rule 142 = .ok (.iload_n 3, 1) := by decide +kernel
theorem dX12_rule_143 : decode cX12_rule 143 = .ok (.iastore, 1) := by decide +kernel
theorem dX12_rule_144 : decode cX12_rule 144 = .ok (.aload_n 0, 1) := by decide +kernel
theorem dX12_rule_145 : decode cX12_rule 145 = .ok (.getfield 65, 3) := by decide +kernel
theorem dX12_rule_148 : decode cX12_rule 148 = .ok (.aload_n 0, 1) := by decide +kernel
theorem dX12_rule_149 : decode cX12_rule 149 = .ok (.getfield 248, 3) := by decide +kernel
theorem dX12_rule_15 : decode cX12_rule 15 = .ok (.iload_n 1, 1) := by decide +kernel
theorem dX12_rule_152 : decode cX12_rule 152 = .ok (.iload_n 1, 1) := by decide +kernel
theorem dX12_rule_153 : decode cX12_rule 153 = .ok (.iastore, 1) := by decide +kernel
theorem dX12_rule_154 : decode cX12_rule 154 = .ok (.aload_n 0, 1) := by decide +kernel
theorem dX12_rule_155 : decode cX12_rule 155 = .ok (.getfield 68, 3) := by decide +kernel
theorem dX12_rule_158 : decode cX12_rule 158 = .ok (.aload_n 0, 1) := by decide +kernel
theorem dX12_rule_159 : decode cX12_rule 159 = .ok (.getfield 248, 3) := by decide +kernel
theorem dX12_rule_16 : decode cX12_rule 16 = .ok (.iconst 0, 1) := by decide +kernel
theorem dX12_rule_162 : decode cX12_rule 162 = .ok (.iload_n 2, 1) := by decide +kernel
theorem dX12_rule_163 : decode cX12_rule 163 = .ok (.iastore, 1) := by decide +kernel
theorem dX12_rule_164 : decode cX12_rule 164 = .ok (.aload_n 0, 1) := by decide +kernel
theorem dX12_rule_165 : decode cX12_rule 165 = .ok (.dup, 1) := by decide +kernel
theorem dX12_rule_166 : decode cX12_rule 166 = .ok (.getfield 248, 3) := by decide +kernel
theorem dX12_rule_169 : decode cX12_rule 169 = .ok (.iconst 1, 1) := by decide +kernel
theorem dX12_rule_17 : decode cX12_rule 17 = .ok (.iconst 3, 1) := by decide +kernel
theorem dX12_rule_170 : decode cX12_rule 170 = .ok (.iadd, 1) := by decide +kernel
theorem dX12_rule_171 : decode cX12_rule 171 = .ok (.putfield 248, 3) := by decide +kernel
theorem dX12_rule_174 : decode cX12_rule 174 = .ok (.aload_n 0, 1) := by decide +kernel
theorem dX12_rule_175 : decode cX12_rule 175 = .ok (.getfield 248, 3) := by decide +kernel
theorem dX12_rule_178 : decode cX12_rule 178 = .ok (.iconst 1, 1) := by decide +kernel
theorem dX12_rule_179 : decode cX12_rule 179 = .ok (.isub, 1) := by decide +kernel
theorem dX12_rule_18 : decode cX12_rule 18 = .ok (.invokestatic 145, 3) := by decide +kernel
theorem dX12_rule_180 : decode cX12_rule 180 = .ok (.ireturn, 1) := by decide +kernel
theorem dX12_rule_2 : decode cX12_rule 2 = .ok (.putfield 139, 3) := by decide +kernel
theorem dX12_rule_21 : decode cX12_rule 21 = .ok (.ifCond .eq 22, 3) := by decide +kernel
theorem dX12_rule_24 : decode cX12_rule 24 = .ok (.iload_n 2, 1) := by decide +kernel
theorem dX12_rule_25 : decode cX12_rule 25 = .ok (.iconst 0, 1) := by decide +kernel
theorem dX12_rule_26 : decode cX12_rule 26 = .ok (.bipush 9, 2) := by decide +kernel
theorem dX12_rule_28 : decode cX12_rule 28 = .ok (.invokestatic 145, 3) := by decide +kernel
theorem dX12_rule_31 : decode cX12_rule 31 = .ok (.ifCond .eq 12, 3) := by decide +kernel
theorem dX12_rule_34 : decode cX12_rule 34 = .ok (.aload_n 0, 1) := by decide +kernel
theorem dX12_rule_35 : decode cX12_rule 35 = .ok (.getfield 248, 3) := by decide +kernel
theorem dX12_rule_38 : decode cX12_rule 38 = .ok (.bipush 20, 2) := by decide +kernel
theorem dX12_rule_40 : decode cX12_rule 40 = .ok (.if_icmp .ne 6, 3) := by decide +kernel
theorem dX12_rule_43 : decode cX12_rule 43 = .ok (.bipush (-100), 2) := by decide +kernel
theorem dX12_rule_45 : decode cX12_rule 45 = .ok (.ireturn, 1) := by decide +kernel
theorem dX12_rule_46 : decode cX12_rule 46 = .ok (.aload_n 0, 1) := by decide +kernel
theorem dX12_rule_47 : decode cX12_rule 47 = .ok (.aload_n 0, 1) := by decide +kernel
theorem dX12_rule_48 : decode cX12_rule 48 = .ok (.getfield 101, 3) := by decide +kernel
theorem dX12_rule_5 : decode cX12_rule 5 = .ok (.aload_n 0, 1) := by decide +kernel
theorem dX12_rule_51 : decode cX12_rule 51 = .ok (.iconst 0, 1) := by decide +kernel
theorem dX12_rule_52 : decode cX12_rule 52 = .ok (.iload_n 3, 1) := by decide +kernel
theorem dX12_rule_53 : decode cX12_rule 53 = .ok (.iload_n 1, 1) := by decide +kernel
theorem dX12_rule_54 : decode cX12_rule 54 = .ok (.invokevirtual 251, 3) := by decide +kernel
theorem dX12_rule_57 : decode cX12_rule 57 = .ok (.aload_n 0, 1) := by decide +kernel
theorem dX12_rule_58 : decode cX12_rule 58 = .ok (.iconst 0, 1) := by decide +kernel
theorem dX12_rule_59 : decode cX12_rule 59 = .ok (.invokevirtual 239, 3) := by decide +kernel
theorem dX12_rule_6 : decode cX12_rule 6 = .ok (.getfield 177, 3) := by decide +kernel
theorem dX12_rule_62 : decode cX12_rule 62 = .ok (.pop, 1) := by decide +kernel
theorem dX12_rule_63 : decode cX12_rule 63 = .ok (.aload_n 0, 1) := by decide +kernel
theorem dX12_rule_64 : decode cX12_rule 64 = .ok (.invokevirtual 217, 3) := by decide +kernel
theorem dX12_rule_67 : decode cX12_rule 67 = .ok (.ifCond .eq 16, 3) := by decide +kernel
theorem dX12_rule_70 : decode cX12_rule 70 = .ok (.aload_n 0, 1) := by decide +kernel
theorem dX12_rule_71 : decode cX12_rule 71 = .ok (.getfield 197, 3) := by decide +kernel
theorem dX12_rule_74 : decode cX12_rule 74 = .ok (.iload_n 3, 1) := by decide +kernel
theorem dX12_rule_75 : decode cX12_rule 75 = .ok (.if_icmp .ge 8, 3) := by decide +kernel
theorem dX12_rule_78 : decode cX12_rule 78 = .ok (.aload_n 0, 1) := by decide +kernel
theorem dX12_rule_79 : decode cX12_rule 79 = .ok (.invokevirtual 236, 3) := by decide +kernel
theorem dX12_rule_82 : decode cX12_rule 82 = .ok (.pop, 1) := by decide +kernel
theorem dX12_rule_83 : decode cX12_rule 83 = .ok (.aload_n 0, 1) := by decide +kernel
theorem dX12_rule_84 : decode cX12_rule 84 = .ok (.invokevirtual 217, 3) := by decide +kernel
theorem dX12_rule_87 : decode cX12_rule 87 = .ok (.ifCond .ne 10, 3) := by decide +kernel
theorem dX12_rule_9 : decode cX12_rule 9 = .ok (.istore_n 3, 1) := by decide +kernel
theorem dX12_rule_90 : decode cX12_rule 90 = .ok (.iconst (-1), 1) := by decide +kernel
theorem dX12_rule_91 : decode cX12_rule 91 = .ok (.aload_n 0, 1) := by decide +kernel
theorem dX12_rule_92 : decode cX12_rule 92 = .ok (.getfield 200, 3) := by decide +kernel
theorem dX12_rule_95 : decode cX12_rule 95 = .ok (.isub, 1) := by decide +kernel
theorem dX12_rule_96 : decode cX12_rule 96 = .ok (.ireturn, 1) := by decide +kernel
theorem dX12_rule_97 : decode cX12_rule 97 = .ok (.iconst 0, 1) := by decide +kernel
theorem dX12_rule_98 : decode cX12_rule 98 = .ok (.istore 4, 2) := by decide +kernel
theorem dX12_step_0 : decode cX12_step 0 = .ok (.aload_n 0, 1) := by decide +kernel
theorem dX12_step_1 : decode cX12_step 1 = .ok (.iconst 0, 1) := by decide +kernel
theorem dX12_step_11 : decode cX12_step 11 = .ok (.ifCond .ne 5, 3) := by decide +kernel
theorem dX12_step_14 : decode cX12_step 14 = .ok (.iconst (-1), 1) := by decide +kernel
theorem dX12_step_15 : decode cX12_step 15 = .ok (.ireturn, 1) := by decide +kernel
theorem dX12_step_16 : decode cX12_step 16 = .ok (.aload_n 0, 1) := by decide +kernel
theorem dX12_step_17 : decode cX12_step 17 = .ok (.iload_n 1, 1) := by decide +kernel
theorem dX12_step_18 : decode cX12_step 18 = .ok (.invokevirtual 308, 3) := by decide +kernel
theorem dX12_step_2 : decode cX12_step 2 = .ok (.putfield 139, 3) := by decide +kernel
theorem dX12_step_21 : decode cX12_step 21 = .ok (.aload_n 0, 1) := by decide +kernel
theorem dX12_step_22 : decode cX12_step 22 = .ok (.invokevirtual 164, 3) := by decide +kernel
theorem dX12_step_25 : decode cX12_step 25 = .ok (.ireturn, 1) := by decide +kernel
theorem dX12_step_5 : decode cX12_step 5 = .ok (.aload_n 0, 1) := by decide +kernel
theorem dX12_step_6 : decode cX12_step 6 = .ok (.iload_n 1, 1) := by decide +kernel
theorem dX12_step_7 : decode cX12_step 7 = .ok (.iconst 0, 1) := by decide +kernel
theorem dX12_step_8 : decode cX12_step 8 = .ok (.invokevirtual 305, 3) := by decide +kernel
theorem dX12_tried_0 : decode cX12_tried 0 = .ok (.aload_n 0, 1) := by decide +kernel
theorem dX12_tried_1 : decode cX12_tried 1 = .ok (.iconst 0, 1) := by decide +kernel
theorem dX12_tried_10 : decode cX12_tried 10 = .ok (.iload_n 1, 1) := by decide +kernel
theorem dX12_tried_101 : decode cX12_tried 101 = .ok (.putfield 327, 3) := by decide +kernel
theorem dX12_tried_104 : decode cX12_tried 104 = .ok (.aload_n 0, 1) := by decide +kernel
theorem dX12_tried_105 : decode cX12_tried 105 = .ok (.invokevirtual 382, 3) := by decide +kernel
theorem dX12_tried_108 : decode cX12_tried 108 = .ok (.iload_n 3, 1) := by decide +kernel
theorem dX12_tried_109 : decode cX12_tried 109 = .ok (.ireturn, 1) := by decide +kernel
theorem dX12_tried_11 : decode cX12_tried 11 = .ok (.iconst 0, 1) := by decide +kernel
theorem dX12_tried_12 : decode cX12_tried 12 = .ok (.aload_n 0, 1) := by decide +kernel
theorem dX12_tried_13 : decode cX12_tried 13 = .ok (.getfield 248, 3) := by decide +kernel
theorem dX12_tried_16 : decode cX12_tried 16 = .ok (.iconst 1, 1) := by decide +kernel
theorem dX12_tried_17 : decode cX12_tried 17 = .ok (.isub, 1) := by decide +kernel
theorem dX12_tried_18 : decode cX12_tried 18 = .ok (.invokestatic 145, 3) := by decide +kernel
theorem dX12_tried_2 : decode cX12_tried 2 = .ok (.putfield 139, 3) := by decide +kernel
theorem dX12_tried_21 : decode cX12_tried 21 = .ok (.ifCond .eq 22, 3) := by decide +kernel
theorem dX12_tried_24 : decode cX12_tried 24 = .ok (.aload_n 0, 1) := by decide +kernel
theorem dX12_tried_25 : decode cX12_tried 25 = .ok (.getfield 65, 3) := by decide +kernel
theorem dX12_tried_28 : decode cX12_tried 28 = .ok (.iload_n 1, 1) := by decide +kernel
theorem dX12_tried_29 : decode cX12_tried 29 = .ok (.iaload, 1) := by decide +kernel
theorem dX12_tried_30 : decode cX12_tried 30 = .ok (.iconst 1, 1) := by decide +kernel
theorem dX12_tried_31 : decode cX12_tried 31 = .ok (.if_icmp .gt 12, 3) := by decide +kernel
theorem dX12_tried_34 : decode cX12_tried 34 = .ok (.aload_n 0, 1) := by decide +kernel
theorem dX12_tried_35 : decode cX12_tried 35 = .ok (.iload_n 2, 1) := by decide +kernel
theorem dX12_tried_36 : decode cX12_tried 36 = .ok (.iconst 0, 1) := by decide +kernel
theorem dX12_tried_37 : decode cX12_tried 37 = .ok (.invokevirtual 305, 3) := by decide +kernel
theorem dX12_tried_40 : decode cX12_tried 40 = .ok (.ifCond .ne 5, 3) := by decide +kernel
theorem dX12_tried_43 : decode cX12_tried 43 = .ok (.iconst (-1), 1) := by decide +kernel
theorem dX12_tried_44 : decode cX12_tried 44 = .ok (.ireturn, 1) := by decide +kernel
theorem dX12_tried_45 : decode cX12_tried 45 = .ok (.aload_n 0, 1) := by decide +kernel
theorem dX12_tried_46 : decode cX12_tried 46 = .ok (.invokevirtual 379, 3) := by decide +kernel
theorem dX12_tried_49 : decode cX12_tried 49 = .ok (.aload_n 0, 1) := by decide +kernel
theorem dX12_tried_5 : decode cX12_tried 5 = .ok (.iload_n 1, 1) := by decide +kernel
theorem dX12_tried_50 : decode cX12_tried 50 = .ok (.iload_n 1, 1) := by decide +kernel
theorem dX12_tried_51 : decode cX12_tried 51 = .ok (.putfield 113, 3) := by decide +kernel
theorem dX12_tried_54 : decode cX12_tried 54 = .ok (.aload_n 0, 1) := by decide +kernel
theorem dX12_tried_55 : decode cX12_tried 55 = .ok (.iload_n 2, 1) := by decide +kernel
theorem dX12_tried_56 : decode cX12_tried 56 = .ok (.invokevirtual 308, 3) := by decide +kernel
theorem dX12_tried_59 : decode cX12_tried 59 = .ok (.aload_n 0, 1) := by decide +kernel
theorem dX12_tried_6 : decode cX12_tried 6 = .ok (.iconst (-1), 1) := by decide +kernel
theorem dX12_tried_60 : decode cX12_tried 60 = .ok (.iconst (-1), 1) := by decide +kernel
theorem dX12_tried_61 : decode cX12_tried 61 = .ok (.putfield 113, 3) := by decide +kernel
theorem dX12_tried_64 : decode cX12_tried 64 = .ok (.aload_n 0, 1) := by decide +kernel
theorem dX12_tried_65 : decode cX12_tried 65 = .ok (.invokevirtual 324, 3) := by decide +kernel
theorem dX12_tried_68 : decode cX12_tried 68 = .ok (.istore_n 3, 1) := by decide +kernel
theorem dX12_tried_69 : decode cX12_tried 69 = .ok (.iconst 0, 1) := by decide +kernel
theorem dX12_tried_7 : decode cX12_tried 7 = .ok (.if_icmp .eq 27, 3) := by decide +kernel
theorem dX12_tried_70 : decode cX12_tried 70 = .ok (.istore 4, 2) := by decide +kernel
theorem dX12_tried_72 : decode cX12_tried 72 = .ok (.iload 4, 2) := by decide +kernel
theorem dX12_tried_74 : decode cX12_tried 74 = .ok (.bipush 8, 2) := by decide +kernel
theorem dX12_tried_76 : decode cX12_tried 76 = .ok (.if_icmp .ge 22, 3) := by decide +kernel
theorem dX12_tried_79 : decode cX12_tried 79 = .ok (.aload_n 0, 1) := by decide +kernel
theorem dX12_tried_80 : decode cX12_tried 80 = .ok (.getfield 104, 3) := by decide +kernel
theorem dX12_tried_83 : decode cX12_tried 83 = .ok (.iload 4, 2) := by decide +kernel
theorem dX12_tried_85 : decode cX12_tried 85 = .ok (.aload_n 0, 1) := by decide +kernel
theorem dX12_tried_86 : decode cX12_tried 86 = .ok (.iload 4, 2) := by decide +kernel
theorem dX12_tried_88 : decode cX12_tried 88 = .ok (.invokevirtual 339, 3) := by decide +kernel
theorem dX12_tried_91 : decode cX12_tried 91 = .ok (.iastore, 1) := by decide +kernel
theorem dX12_tried_92 : decode cX12_tried 92 = .ok (.iinc 4 1, 3) := by decide +kernel
theorem dX12_tried_95 : decode cX12_tried 95 = .ok (.goto (-23), 3) := by decide +kernel
theorem dX12_tried_98 : decode cX12_tried 98 = .ok (.aload_n 0, 1) := by decide +kernel
theorem dX12_tried_99 : decode cX12_tried 99 = .ok (.bipush 8, 2) := by decide +kernel
/-! BITS -/
theorem nd_and {k a b c d : Nat} (hb : b < 2 ^ k) (hd : d < 2 ^ k) : (2 ^ k * a + b) &&& (2 ^ k * c + d) = 2 ^ k * (a &&& c) + (b &&& d) := by
  apply Nat.eq_of_testBit_eq
  intro j
  rw [Nat.testBit_and, Nat.testBit_two_pow_mul_add _ hb, Nat.testBit_two_pow_mul_add _ hd, Nat.testBit_two_pow_mul_add _ (Nat.lt_of_le_of_lt Nat.and_le_left hb)]
  by_cases h : j < k
  · rw [if_pos h, if_pos h, if_pos h, Nat.testBit_and]
  · rw [if_neg h, if_neg h, if_neg h, Nat.testBit_and]
def mk5 : Nat → Nat | 0 => 0 | k + 1 => 16 * mk5 k + 5
def mk3 : Nat → Nat | 0 => 0 | k + 1 => 16 * mk3 k + 3
def pc4 (l : Nat) : Nat := l % 2 + l / 2 % 2 + l / 4 % 2 + l / 8 % 2
def q16 : Nat → Nat → Nat | 0, _ => 0 | k + 1, n => 16 * q16 k (n / 16) + pc4 (n % 16)
theorem nb_1 : ∀ b < 2, ∀ l < 16, (8 * b + l / 2) &&& 5 = (l / 2) &&& 5 := by decide
theorem nb_2 : ∀ b < 4, ∀ l < 16, (4 * b + l / 4) &&& 3 = (l / 4) &&& 3 := by decide
theorem nb_3 : ∀ l < 16, (l - ((l / 2) &&& 5)) < 16 ∧ (l / 2) &&& 5 ≤ l ∧ ((l - ((l / 2) &&& 5)) &&& 3) + (((l - ((l / 2) &&& 5)) / 4) &&& 3) = pc4 l := by decide
theorem s1_step (h l m : Nat) (hl : l < 16) : (16 * h + l) - (((16 * h + l) / 2) &&& (16 * m + 5)) = 16 * (h - ((h / 2) &&& m)) + (l - ((l / 2) &&& 5)) := by
  have e : (16 * h + l) / 2 = 2 ^ 4 * (h / 2) + (8 * (h % 2) + l / 2) := by omega
  have e2 : 16 * m + 5 = 2 ^ 4 * m + 5 := by omega
  rw [e, e2, nd_and (by omega) (by omega), nb_1 (h % 2) (by omega) l hl]
  have g1 : (h / 2) &&& m ≤ h / 2 := Nat.and_le_left
  have g2 := (nb_3 l hl).2.1
  omega
theorem s2_step (h d m : Nat) (hd : d < 16) : ((16 * h + d) &&& (16 * m + 3)) + (((16 * h + d) / 4) &&& (16 * m + 3)) = 16 * ((h &&& m) + ((h / 4) &&& m)) + ((d &&& 3) + ((d / 4) &&& 3)) := by
  have e : (16 * h + d) / 4 = 2 ^ 4 * (h / 4) + (4 * (h % 4) + d / 4) := by omega
  have e2 : 16 * m + 3 = 2 ^ 4 * m + 3 := by omega
  have e3 : 16 * h + d = 2 ^ 4 * h + d := by omega
  rw [e, e2, e3, nd_and (by omega) (by omega), nd_and (by omega) (by omega), nb_2 (h % 4) (by omega) d hd]
  omega
theorem s12 (k : Nat) : ∀ n, n < 16 ^ k → ((n - ((n / 2) &&& mk5 k)) &&& mk3 k) + (((n - ((n / 2) &&& mk5 k)) / 4) &&& mk3 k) = q16 k n := by
  induction k with
  | zero => intro n hn; rw [show n = 0 by omega]; decide
  | succ k ih =>
    intro n hn
    have hl : n % 16 < 16 := Nat.mod_lt _ (by decide)
    have e : n = 16 * (n / 16) + n % 16 := by omega
    have hq : q16 (k + 1) n = 16 * q16 k (n / 16) + pc4 (n % 16) := rfl
    have hh : n / 16 < 16 ^ k := by rw [Nat.pow_succ] at hn; omega
    have h5 : mk5 (k + 1) = 16 * mk5 k + 5 := rfl
    have h3 : mk3 (k + 1) = 16 * mk3 k + 3 := rfl
    have hs1 : n - ((n / 2) &&& (16 * mk5 k + 5)) = 16 * (n / 16 - ((n / 16 / 2) &&& mk5 k)) + (n % 16 - ((n % 16 / 2) &&& 5)) := by
      have := s1_step (n / 16) (n % 16) (mk5 k) hl
      rw [← e] at this
      exact this
    rw [h5, h3, hs1, s2_step _ _ _ (nb_3 _ hl).1, ih _ hh, (nb_3 _ hl).2.2, hq]
def nt (x : Int32) : Nat := x.toBitVec.toNat
theorem nt_lt (x : Int32) : nt x < 4294967296 := x.toBitVec.isLt
theorem nt_and (x y : Int32) : nt (x &&& y) = nt x &&& nt y := by unfold nt; rw [Int32.toBitVec_and, BitVec.toNat_and]
theorem nt_add (x y : Int32) : nt (x + y) = (nt x + nt y) % 4294967296 := by unfold nt; rw [Int32.toBitVec_add, BitVec.toNat_add]
theorem nt_sub (x y : Int32) : nt (x - y) = (4294967296 - nt y + nt x) % 4294967296 := by unfold nt; rw [Int32.toBitVec_sub, BitVec.toNat_sub]
theorem nt_sh {x k : Int32} {c : UInt32} (hc : k.toUInt32 &&& Int32.toUInt32 31 = c) (n : Nat) (hn : c.toNat % 32 = n) : nt (ush x k) = nt x / 2 ^ n := by
  unfold ush
  rw [hc]
  show (x.toUInt32 >>> c).toNat = nt x / 2 ^ n
  rw [UInt32.toNat_shiftRight, hn, Nat.shiftRight_eq_div_pow]
  rfl
theorem nt_1 (x : Int32) : nt (ush x 1) = nt x / 2 := nt_sh (c := 1) (by decide) 1 (by decide)
theorem nt_2 (x : Int32) : nt (ush x 2) = nt x / 4 := nt_sh (c := 2) (by decide) 2 (by decide)
theorem nt_4 (x : Int32) : nt (ush x 4) = nt x / 16 := nt_sh (c := 4) (by decide) 4 (by decide)
theorem nt_8 (x : Int32) : nt (ush x 8) = nt x / 256 := nt_sh (c := 8) (by decide) 8 (by decide)
theorem nt_16 (x : Int32) : nt (ush x 16) = nt x / 65536 := nt_sh (c := 16) (by decide) 16 (by decide)
theorem nt_int {x : Int32} (h : nt x < 2147483648) : x.toInt = nt x := by
  show x.toBitVec.toInt = _
  rw [BitVec.toInt_eq_toNat_cond, if_pos (by unfold nt at h; omega)]
  rfl
theorem nt_pos {x : Int32} (h : 0 ≤ x.toInt) : x.toInt = nt x := by
  have h2 : x.toBitVec.toInt = x.toInt := rfl
  rw [BitVec.toInt_eq_toNat_cond] at h2
  have hl := nt_lt x
  unfold nt at hl ⊢
  by_cases q : 2 * x.toBitVec.toNat < 2 ^ 32
  · rw [if_pos q] at h2; exact h2.symm
  · rw [if_neg q] at h2; omega
def pcn (m : Nat) : Nat → Nat | 0 => 0 | n + 1 => pcn m n + m / 2 ^ n % 2
theorem pcn_s (m n : Nat) : pcn m (n + 1) = pcn m n + m / 2 ^ n % 2 := rfl
theorem pcn_le (m a : Nat) : ∀ d, pcn m a ≤ pcn m (a + d)
  | 0 => Nat.le_refl _
  | d + 1 => by have := pcn_le m a d; have e : pcn m (a + (d + 1)) = pcn m (a + d) + m / 2 ^ (a + d) % 2 := rfl; omega
theorem pcn_0 (m : Nat) : ∀ n, pcn m n = 0 → m % 2 ^ n = 0
  | 0, _ => by rw [Nat.pow_zero, Nat.mod_one]
  | n + 1, h => by
    rw [pcn_s] at h
    have h1 := pcn_0 m n (by omega)
    rw [Nat.mod_pow_succ, h1, show m / 2 ^ n % 2 = 0 by omega, Nat.mul_zero]
theorem pc4_le (l : Nat) : pc4 l ≤ 4 := by unfold pc4; omega
theorem pcn_q (m : Nat) (hm : m < 4294967296) : pcn m 32 = pc4 (m % 16) + pc4 (m / 16 % 16) + pc4 (m / 16 / 16 % 16) + pc4 (m / 16 / 16 / 16 % 16) + pc4 (m / 16 / 16 / 16 / 16 % 16) + pc4 (m / 16 / 16 / 16 / 16 / 16 % 16) + pc4 (m / 16 / 16 / 16 / 16 / 16 / 16 % 16) + pc4 (m / 16 / 16 / 16 / 16 / 16 / 16 / 16 % 16) := by
  have g : ∀ (a n : Nat), pcn m (n + 4) = pcn m n + pc4 (m / 2 ^ n % 16) := by
    intro a n
    have e : pcn m (n + 4) = pcn m n + m / 2 ^ n % 2 + m / 2 ^ (n + 1) % 2 + m / 2 ^ (n + 2) % 2 + m / 2 ^ (n + 3) % 2 := rfl
    rw [e, show m / 2 ^ (n + 1) = m / 2 ^ n / 2 by rw [Nat.pow_succ, Nat.div_div_eq_div_mul], show m / 2 ^ (n + 2) = m / 2 ^ n / 4 by rw [Nat.pow_add, Nat.div_div_eq_div_mul], show m / 2 ^ (n + 3) = m / 2 ^ n / 8 by rw [Nat.pow_add, Nat.div_div_eq_div_mul]]
    unfold pc4
    omega
  have h0 := g 0 0; have h1 := g 0 4; have h2 := g 0 8; have h3 := g 0 12; have h4 := g 0 16; have h5 := g 0 20; have h6 := g 0 24; have h7 := g 0 28
  rw [show m / 2 ^ 0 = m by omega] at h0
  rw [show m / 2 ^ 4 = m / 16 by omega] at h1
  rw [show m / 2 ^ 8 = m / 16 / 16 by omega] at h2
  rw [show m / 2 ^ 12 = m / 16 / 16 / 16 by omega] at h3
  rw [show m / 2 ^ 16 = m / 16 / 16 / 16 / 16 by omega] at h4
  rw [show m / 2 ^ 20 = m / 16 / 16 / 16 / 16 / 16 by omega] at h5
  rw [show m / 2 ^ 24 = m / 16 / 16 / 16 / 16 / 16 / 16 by omega] at h6
  rw [show m / 2 ^ 28 = m / 16 / 16 / 16 / 16 / 16 / 16 / 16 by omega] at h7
  have hz : pcn m 0 = 0 := rfl
  have a0 : pcn m (0 + 4) = pcn m 4 := rfl
  have a1 : pcn m (4 + 4) = pcn m 8 := rfl
  have a2 : pcn m (8 + 4) = pcn m 12 := rfl
  have a3 : pcn m (12 + 4) = pcn m 16 := rfl
  have a4 : pcn m (16 + 4) = pcn m 20 := rfl
  have a5 : pcn m (20 + 4) = pcn m 24 := rfl
  have a6 : pcn m (24 + 4) = pcn m 28 := rfl
  have a7 : pcn m (28 + 4) = pcn m 32 := rfl
  omega
theorem q16_8 (m : Nat) : q16 8 m = pc4 (m % 16) + 16 * (pc4 (m / 16 % 16) + 16 * (pc4 (m / 16 / 16 % 16) + 16 * (pc4 (m / 16 / 16 / 16 % 16) + 16 * (pc4 (m / 16 / 16 / 16 / 16 % 16) + 16 * (pc4 (m / 16 / 16 / 16 / 16 / 16 % 16) + 16 * (pc4 (m / 16 / 16 / 16 / 16 / 16 / 16 % 16) + 16 * pc4 (m / 16 / 16 / 16 / 16 / 16 / 16 / 16 % 16))))))) := by
  have e : q16 8 m = 16 * (16 * (16 * (16 * (16 * (16 * (16 * (16 * 0 + pc4 (m / 16 / 16 / 16 / 16 / 16 / 16 / 16 % 16)) + pc4 (m / 16 / 16 / 16 / 16 / 16 / 16 % 16)) + pc4 (m / 16 / 16 / 16 / 16 / 16 % 16)) + pc4 (m / 16 / 16 / 16 / 16 % 16)) + pc4 (m / 16 / 16 / 16 % 16)) + pc4 (m / 16 / 16 % 16)) + pc4 (m / 16 % 16)) + pc4 (m % 16) := rfl
  rw [e]; omega
/-- the sum of eight small digits -/
theorem s35 {c0 c1 c2 c3 c4 c5 c6 c7 : Nat} (h0 : c0 ≤ 4) (h1 : c1 ≤ 4) (h2 : c2 ≤ 4) (h3 : c3 ≤ 4) (h4 : c4 ≤ 4) (h5 : c5 ≤ 4) (h6 : c6 ≤ 4) (h7 : c7 ≤ 4) {y z : Nat} (hy : y = c0 + 16 * (c1 + 16 * (c2 + 16 * (c3 + 16 * (c4 + 16 * (c5 + 16 * (c6 + 16 * c7))))))) (hz : z = (y + y / 16) &&& 252645135) :
    z = (c0 + c1) + 256 * ((c2 + c3) + 256 * ((c4 + c5) + 256 * (c6 + c7))) := by
  have e : y + y / 16 = 2 ^ 8 * (2 ^ 8 * (2 ^ 8 * (16 * c7 + (c6 + c7)) + (16 * (c5 + c6) + (c4 + c5))) + (16 * (c3 + c4) + (c2 + c3))) + (16 * (c1 + c2) + (c0 + c1)) := by
    have d : y / 16 = c1 + 16 * (c2 + 16 * (c3 + 16 * (c4 + 16 * (c5 + 16 * (c6 + 16 * c7))))) := by omega
    omega
  have mm : (252645135 : Nat) = 2 ^ 8 * (2 ^ 8 * (2 ^ 8 * 15 + 15) + 15) + 15 := by decide
  have lo : ∀ A B : Nat, B ≤ 8 → (16 * A + B) &&& 15 = B := fun A B hB => by
    rw [show (15 : Nat) = 2 ^ 4 - 1 by decide, Nat.and_two_pow_sub_one_eq_mod]; omega
  rw [hz, e, mm, nd_and (by omega) (by omega), nd_and (by omega) (by omega), nd_and (by omega) (by omega), lo _ _ (by omega), lo _ _ (by omega), lo _ _ (by omega), lo _ _ (by omega)]
  omega
theorem s68 {c0 c1 c2 c3 c4 c5 c6 c7 a b c d : Nat} (h0 : c0 + c1 ≤ 8) (h1 : c2 + c3 ≤ 8) (h2 : c4 + c5 ≤ 8) (h3 : c6 + c7 ≤ 8) (ha : a = (c0 + c1) + 256 * ((c2 + c3) + 256 * ((c4 + c5) + 256 * (c6 + c7)))) (hb : b = a + a / 256) (hc : c = b + b / 65536) (hd : d = c % 64) : d = c0 + c1 + c2 + c3 + c4 + c5 + c6 + c7 := by
  obtain ⟨f0, g0⟩ : ∃ z, z = c0 + c1 := ⟨_, rfl⟩
  obtain ⟨f1, g1⟩ : ∃ z, z = c2 + c3 := ⟨_, rfl⟩
  obtain ⟨f2, g2⟩ : ∃ z, z = c4 + c5 := ⟨_, rfl⟩
  obtain ⟨f3, g3⟩ : ∃ z, z = c6 + c7 := ⟨_, rfl⟩
  rw [← g0, ← g1, ← g2, ← g3] at ha
  rw [← g0] at h0; rw [← g1] at h1; rw [← g2] at h2; rw [← g3] at h3
  have d1 : a / 256 = f1 + 256 * f2 + 65536 * f3 := by omega
  have d2 : b = (f0 + f1) + 256 * (f1 + f2) + 65536 * (f2 + f3) + 16777216 * f3 := by rw [hb, d1, ha]; omega
  have d3 : b / 65536 = (f2 + f3) + 256 * f3 := by rw [d2]; omega
  have d4 : c = (f0 + f1 + f2 + f3) + 64 * (4 * (f1 + f2 + f3) + 1024 * (f2 + f3) + 262144 * f3) := by rw [hc, d3, d2]; omega
  have d5 : d = f0 + f1 + f2 + f3 := by rw [hd, d4, Nat.add_mul_mod_self_left, Nat.mod_eq_of_lt (by omega)]
  rw [d5, g0, g1, g2, g3]; omega
theorem bcf_eq {p : Int32} (h : 0 ≤ p.toInt) : (bcf p).toInt = pcn p.toInt.toNat 32 := by
  have hp := nt_pos h
  have hm : p.toInt.toNat = nt p := by omega
  have hl := nt_lt p
  rw [hm]
  obtain ⟨x1, e1⟩ : ∃ z, z = p - (ush p 1 &&& 1431655765) := ⟨_, rfl⟩
  obtain ⟨x2, e2⟩ : ∃ z, z = (x1 &&& 858993459) + (ush x1 2 &&& 858993459) := ⟨_, rfl⟩
  obtain ⟨x3, e3⟩ : ∃ z, z = (x2 + ush x2 4) &&& 252645135 := ⟨_, rfl⟩
  obtain ⟨x4, e4⟩ : ∃ z, z = x3 + ush x3 8 := ⟨_, rfl⟩
  obtain ⟨x5, e5⟩ : ∃ z, z = x4 + ush x4 16 := ⟨_, rfl⟩
  have eb : bcf p = x5 &&& 63 := by rw [e5, e4, e3, e2, e1]; rfl
  have m5 : mk5 8 = 1431655765 := by decide
  have m3 : mk3 8 = 858993459 := by decide
  have n1 : nt x1 = nt p - ((nt p / 2) &&& mk5 8) := by
    have g : (nt p / 2) &&& mk5 8 ≤ nt p / 2 := Nat.and_le_left
    rw [e1, nt_sub, nt_and, nt_1, show nt (1431655765 : Int32) = mk5 8 by decide]
    omega
  have hq := s12 8 (nt p) (by omega)
  rw [← n1] at hq
  have b0 := pc4_le (nt p % 16); have b1 := pc4_le (nt p / 16 % 16); have b2 := pc4_le (nt p / 16 / 16 % 16); have b3 := pc4_le (nt p / 16 / 16 / 16 % 16); have b4 := pc4_le (nt p / 16 / 16 / 16 / 16 % 16); have b5 := pc4_le (nt p / 16 / 16 / 16 / 16 / 16 % 16); have b6 := pc4_le (nt p / 16 / 16 / 16 / 16 / 16 / 16 % 16); have b7 := pc4_le (nt p / 16 / 16 / 16 / 16 / 16 / 16 / 16 % 16)
  have hs := pcn_q (nt p) hl
  have h8 := q16_8 (nt p)
  rw [← hq] at h8
  generalize pc4 (nt p % 16) = c0 at *
  generalize pc4 (nt p / 16 % 16) = c1 at *
  generalize pc4 (nt p / 16 / 16 % 16) = c2 at *
  generalize pc4 (nt p / 16 / 16 / 16 % 16) = c3 at *
  generalize pc4 (nt p / 16 / 16 / 16 / 16 % 16) = c4 at *
  generalize pc4 (nt p / 16 / 16 / 16 / 16 / 16 % 16) = c5 at *
  generalize pc4 (nt p / 16 / 16 / 16 / 16 / 16 / 16 % 16) = c6 at *
  generalize pc4 (nt p / 16 / 16 / 16 / 16 / 16 / 16 / 16 % 16) = c7 at *
  have n2 : nt x2 = c0 + 16 * (c1 + 16 * (c2 + 16 * (c3 + 16 * (c4 + 16 * (c5 + 16 * (c6 + 16 * c7)))))) := by
    rw [e2, nt_add, nt_and, nt_and, nt_2, show nt (858993459 : Int32) = mk3 8 by decide, h8]
    omega
  have n3 : nt x3 = (nt x2 + nt x2 / 16) &&& 252645135 := by
    rw [e3, nt_and, nt_add, nt_4, show nt (252645135 : Int32) = 252645135 by decide, Nat.mod_eq_of_lt (by omega)]
  have n3' := s35 b0 b1 b2 b3 b4 b5 b6 b7 n2 n3
  have n4 : nt x4 = nt x3 + nt x3 / 256 := by rw [e4, nt_add, nt_8]; omega
  have n5 : nt x5 = nt x4 + nt x4 / 65536 := by rw [e5, nt_add, nt_16]; omega
  have n6 : nt (bcf p) = nt x5 % 64 := by
    rw [eb, nt_and, show nt (63 : Int32) = 2 ^ 6 - 1 by decide, Nat.and_two_pow_sub_one_eq_mod]
  have n7 : nt (bcf p) = c0 + c1 + c2 + c3 + c4 + c5 + c6 + c7 := s68 (by omega) (by omega) (by omega) (by omega) n3' n4 n5 n6
  rw [nt_int (by omega), n7, hs]
/-- bits counted below a place -/
def pcI (p : Int32) (n : Int) : Int := (pcn p.toInt.toNat n.toNat : Int)
theorem pcI_0 {p : Int32} {n : Int} (h : n = 0) : pcI p n = 0 := by rw [h]; rfl
theorem pcI_b {p : Int32} (h : 0 ≤ p.toInt) : (bcf p).toInt = pcI p 32 := bcf_eq h
theorem pcI_le {p : Int32} {n : Int} (h0 : 0 ≤ n) (h : n ≤ 32) : pcI p n ≤ pcI p 32 := by
  unfold pcI
  have := pcn_le p.toInt.toNat n.toNat (32 - n.toNat)
  rw [show n.toNat + (32 - n.toNat) = 32 by omega] at this
  exact Int.ofNat_le.mpr this
theorem pcI_pos {p : Int32} {n : Int} (h1 : 1 ≤ p.toInt) (hn : 0 ≤ n) (h2 : p.toInt ≤ (2 ^ n.toNat : Nat) - 1) : 1 ≤ pcI p n := by
  unfold pcI
  rcases Nat.eq_zero_or_pos (pcn p.toInt.toNat n.toNat) with h | h
  · have := pcn_0 _ _ h
    rw [Nat.mod_eq_of_lt (by omega)] at this
    omega
  · omega
theorem sh_amt (i : Int32) (h0 : 0 ≤ i.toInt) (h1 : i.toInt < 31) : ((i &&& 31).toBitVec.smod 32).toNat = i.toInt.toNat := by
  have hd : ∀ j : Fin 31, ((Int32.ofNat j.1 &&& 31).toBitVec.smod 32).toNat = j.1 := by decide
  have e : i = Int32.ofNat i.toInt.toNat := (Int32.ofNat_toNatClampNeg i (by rw [Int32.le_iff_toInt_le]; exact h0)).symm
  have := hd ⟨i.toInt.toNat, by omega⟩
  rw [← e] at this
  exact this
theorem z_bit {p i s b : Int32} (hp : 0 ≤ p.toInt) (h0 : 0 ≤ i.toInt) (h1 : i.toInt < 31) (es : s = p >>> (i &&& 31)) (eb : b = s &&& 1) : b.toInt = (p.toInt.toNat / 2 ^ i.toInt.toNat % 2 : Nat) := by
  have a1 : s.toInt = p.toInt >>> i.toInt.toNat := by
    rw [es]
    show (p >>> (i &&& 31)).toBitVec.toInt = _
    rw [Int32.toBitVec_shiftRight, BitVec.toInt_sshiftRight', sh_amt i h0 h1]
    rfl
  rw [Int.shiftRight_eq_div_pow] at a1
  have hpn : p.toInt = (p.toInt.toNat : Int) := by omega
  have a2 : s.toInt = ((p.toInt.toNat / 2 ^ i.toInt.toNat : Nat) : Int) := by
    rw [a1, Int.natCast_ediv]; rw [← hpn]
  have a3 : nt s = p.toInt.toNat / 2 ^ i.toInt.toNat := by
    have := nt_pos (x := s) (by rw [a2]; exact Int.natCast_nonneg _)
    rw [a2] at this
    exact (Int.ofNat_inj.mp this).symm
  have a4 : nt b = nt s % 2 := by rw [eb, nt_and, show nt (1 : Int32) = 1 by decide, Nat.and_one_is_mod]
  rw [nt_int (by rw [a4]; omega), a4, a3]
theorem pc_step {p i s b : Int32} (hp : 0 ≤ p.toInt) (h0 : 0 ≤ i.toInt) (h1 : i.toInt < 31) (es : s = p >>> (i &&& 31)) (eb : b = s &&& 1) : pcI p (i.toInt + 1) = pcI p i.toInt + b.toInt := by
  rw [z_bit hp h0 h1 es eb]
  unfold pcI
  rw [show (i.toInt + 1).toNat = i.toInt.toNat + 1 by omega, pcn_s]
  omega
theorem z_sh1 {i s x : Int32} (h0 : 0 ≤ i.toInt) (h1 : i.toInt < 31) (es : s = 1 <<< (i &&& 31)) (ex : x = s - 1) : x.toInt = (2 ^ i.toInt.toNat : Nat) - 1 := by
  have hd : ∀ j : Fin 31, (((1 : Int32) <<< (Int32.ofNat j.1 &&& 31)) - 1).toInt = (2 ^ j.1 : Nat) - 1 := by decide
  have e : i = Int32.ofNat i.toInt.toNat := (Int32.ofNat_toNatClampNeg i (by rw [Int32.le_iff_toInt_le]; exact h0)).symm
  have := hd ⟨i.toInt.toNat, by omega⟩
  rw [← e] at this
  rw [ex, es]
  exact this
/-- of five bits -/
def pc5 (x : Int32) : Int := x.toInt % 2 + x.toInt / 2 % 2 + x.toInt / 4 % 2 + x.toInt / 8 % 2 + x.toInt / 16 % 2
theorem pc5_rg (x : Int32) : 0 ≤ pc5 x ∧ pc5 x ≤ 5 := by unfold pc5; omega
theorem pc5_step {u i s b h o : Int32} (h0 : 0 ≤ u.toInt) (h1 : u.toInt ≤ 31) (i0 : 0 ≤ i.toInt) (i1 : i.toInt < 5) (es : s = u >>> (i &&& 31)) (eb : b = s &&& 1) (hb : b.toInt ≠ 1) (eh : h = 1 <<< (i &&& 31)) (eo : o = u ||| h) : (0 ≤ o.toInt ∧ o.toInt ≤ 31) ∧ pc5 o = pc5 u + 1 := by
  have hd : ∀ (j : Fin 32) (n : Fin 5), ((Int32.ofNat j.1 >>> (Int32.ofNat n.1 &&& 31)) &&& 1).toInt ≠ 1 → (0 ≤ (Int32.ofNat j.1 ||| (1 <<< (Int32.ofNat n.1 &&& 31))).toInt ∧ (Int32.ofNat j.1 ||| (1 <<< (Int32.ofNat n.1 &&& 31))).toInt ≤ 31) ∧ pc5 (Int32.ofNat j.1 ||| (1 <<< (Int32.ofNat n.1 &&& 31))) = pc5 (Int32.ofNat j.1) + 1 := by decide +kernel
  have e : i = Int32.ofNat i.toInt.toNat := (Int32.ofNat_toNatClampNeg i (by rw [Int32.le_iff_toInt_le]; exact i0)).symm
  have e2 : u = Int32.ofNat u.toInt.toNat := (Int32.ofNat_toNatClampNeg u (by rw [Int32.le_iff_toInt_le]; exact h0)).symm
  have := hd ⟨u.toInt.toNat, by omega⟩ ⟨i.toInt.toNat, by omega⟩
  rw [← e, ← e2] at this
  rw [eo, eh]
  exact this (by rw [← es, ← eb]; exact hb)
theorem z_div2 {x r : Int32} {a : Int} (he : r = x / 2) (hx : x.toInt = a) (h0 : 0 ≤ a) : r.toInt = a / 2 := by
  have hr := (z_rg x).2
  rw [hx] at hr
  have e3 : r.toInt = (a / 2).bmod (2 ^ 32) := by rw [he, Int32.toInt_div, hx, show (2 : Int32).toInt = 2 from rfl, Int.tdiv_eq_ediv_of_nonneg h0]
  rw [e3]; exact z_bm (by omega) (by omega)
theorem vb_set {n lo hi : Int} {f : Nat → Int32} {i : Nat} {x : Int32} {z : Int} (h : vb n lo hi f) (hx : x.toInt = z) (h1 : lo ≤ z) (h2 : z ≤ hi) : vb n lo hi (upd f i x) := fun j hj => by
  by_cases e : j = i
  · rw [show upd f i x j = x from if_pos e, hx]; exact ⟨h1, h2⟩
  · rw [show upd f i x j = f j from if_neg e]; exact h j hj
theorem pcI_nn {p : Int32} {n : Int} : 0 ≤ pcI p n := Int.natCast_nonneg _


def wo_m_bitsX : List Cond := [.methodLink RX12 264 yJ6_bitCount_0f7a4, .static yJ6_bitCount_0f7a4, .initialized RJ6]
def wm_m_bitsX : List Cond := .code yX12_bits cX12_bits 1 (some .int) :: (wo_m_bitsX ++ (wm_c_bitsX ++ ([] : List Cond)))
theorem gd_m_bitsX : ∀ w ∈ wm_m_bitsX, goodWord w = true := gd_c rfl (gd_a (by decide) (gd_a gd_c_bitsX gd_nil))
set_option maxRecDepth 20000 in
theorem im_m_bitsX : ∀ w ∈ wm_m_bitsX, w ∈ lw_tbl := im_c (in_r [.code yX12_bits cX12_bits 1 (some .int)] [1578] (by decide +kernel)) (in_app (in_r wo_m_bitsX [1579, 806, 90] (by decide +kernel)) (in_app im_c_bitsX im_nil))
set_option maxHeartbeats 4000000 in
set_option maxRecDepth 100000 in
theorem m_bitsX (l : Launch) (dC : Nat → ClassId) (dI : Nat → Nat → Nat) (ad av : Nat → Nat) (sz : Nat) (a : Nat → Nat) (k : Nat → ClassId) (τ ln : Nat → Nat) (y : Nat → Nat → Int32) (g : Nat → Nat → Option Nat) (u : Nat → Int) (p0 : Int32) : Met l yX12_bits wm_m_bitsX ({ frames := 1, cells := 0, slots := 0, locals := 60 }) (pw_ ad av (dC, dI) sz [.int p0] a k τ ln y g) (va_Qi (fun (r u : Int32) => u = r) (fun (r : Int32) (t : State) => (r = bcf p0 ∧ tw (dC, dI) a k τ ln y g t.heap)) (fr τ sz)) 0 0 (fr τ sz) := by
  refine Met.ofW (cc := cX12_bits) (maxL := 1) (ret := (some .int)) (by decide) rfl ?_
  intro p e s m args below meth c s₁ B hml hv
  obtain ⟨rfl, hsz, hT, hK, hM⟩ := hv
  have hx := B.exec
  have hb := B.bytes
  have hr := B.returns
  have hts := atoms_spec (ws := wm_m_bitsX) B.pre
  have hown : s.vm.findClass RX12 = some m.cls := findClass_of_methodNamed B.named
  have hlocks := B.notSynchronized
  subst hsz
  generalize hAe : fr τ s.heap.size = A at hM ⊢
  have hA : ∀ q : Nat, s.heap.size ≤ q → A q := fun q h => by rw [← hAe]; exact Or.inr h
  have hF : ∀ q, τ q ≠ 0 → A q := fun q h => by rw [← hAe]; exact Or.inl h
  have hS : va_S A s.heap s.heap [] := va_S.rf
  have hl := lv_entry ([.int p0]) (n := 1) (Nat.le_of_ble_eq_true rfl)
  rw [lg_entry_eq]
  generalize (lg_sl ([.int p0]) ++ List.replicate (1 - (lg_sl ([.int p0])).length) Slot.unset).toArray = ls at hl ⊢
  have hl : lv_has ls 1 [(0, .int p0)] := hl
  refine lv_iload_n hx hb dX12_bits_0 rfl (lv_at hl 0 rfl) ?_
  have hFc := tw_free hF hS hA
  refine va_calli (va_runS (As := [.int p0]) (rest := []) ⟨hx, hb, hml, hown, hts⟩ (c_bitsX l dC dI ad av s.heap.size a k τ ln y g u p0  ) (va_cwS 1 hts (gi_3 (List.mem_cons_of_mem _ (List.mem_append_left _ (List.mem_of_getElem? (i := 0) rfl))) (List.mem_cons_of_mem _ (List.mem_append_left _ (List.mem_of_getElem? (i := 1) rfl))) (List.mem_cons_of_mem _ (List.mem_append_left _ (List.mem_of_getElem? (i := 2) rfl))) (fun _ hh => (List.mem_cons_of_mem _ (List.mem_append_right _ (List.mem_append_left _ hh)))) gd_c_bitsX) rfl rfl rfl (by decide +kernel) ⟨Nat.le_of_ble_eq_true rfl, Nat.le_of_ble_eq_true rfl⟩) ⟨pw_blind, pw_use hT hK hFc hS hM⟩ rfl rfl hl.1 rfl (lv_room (Nat.le_of_ble_eq_true rfl)) dX12_bits_1 ⟨Nat.le_of_ble_eq_true rfl, Nat.le_of_ble_eq_true rfl⟩) hS (fun q _ h => hFc q h) hFc (fun r0 r_1 t H locs ht hvm hw hB hz1 hk1 hS => ?_)
  refine W.widen (k := 0) (n := 0) (Nat.le_of_ble_eq_true rfl) (Nat.le_of_ble_eq_true rfl) ?_
  clear hvm hz1 hk1
  subst hw
  obtain ⟨hf_2, hT⟩ := hB
  rw [ht] at hT
  have hrv : r_1.toInt = r_1.toInt := rfl
  exact W.iret (v := r_1) hx hb hr (fun t ht hW9 => ⟨⟨r_1, r_1, rfl, rfl, ⟨by omega, tw_at ht hT⟩⟩, hS.F ht⟩) hS.2.2 dX12_bits_4
def wo_m_left : List Cond := [.fieldLink RX12 139 "TypingPoolModel" "thrown" "I", .methodLink RX12 315 yX12_isPiece, .instanceMethod yX12_isPiece, .selects RX12 yX12_isPiece yX12_isPiece, .initialized RX12, .methodLink RX12 145 yX12_in, .static yX12_in, .fieldLink RX12 98 "TypingPoolModel" "slips" "[I", .methodLink RX12 275 yX12_bits, .static yX12_bits]
def wm_m_left : List Cond := .code yX12_left cX12_left 6 (some .int) :: (wo_m_left ++ (wsX120 ++ (wm_m_isPiece ++ (wm_m_in ++ (wm_m_bitsX ++ ([] : List Cond))))))
theorem gd_m_left : ∀ w ∈ wm_m_left, goodWord w = true := gd_c rfl (gd_a (by decide) (gd_a gd_wsX120 (gd_a gd_m_isPiece (gd_a gd_m_in (gd_a gd_m_bitsX gd_nil)))))
set_option maxRecDepth 20000 in
theorem im_m_left : ∀ w ∈ wm_m_left, w ∈ lw_tbl := im_c (in_r [.code yX12_left cX12_left 6 (some .int)] [1671] (by decide +kernel)) (in_app (in_r wo_m_left [1278, 1596, 1598, 55, 86, 1420, 1421, 1273, 1576, 1577] (by decide +kernel)) (in_app im_wsX120 (in_app im_m_isPiece (in_app im_m_in (in_app im_m_bitsX im_nil)))))
set_option maxHeartbeats 4000000 in
set_option maxRecDepth 100000 in
theorem m_left (l : Launch) (dC : Nat → ClassId) (dI : Nat → Nat → Nat) (ad av : Nat → Nat) (sz : Nat) (a : Nat → Nat) (k : Nat → ClassId) (τ ln : Nat → Nat) (y : Nat → Nat → Int32) (g : Nat → Nat → Option Nat) (u : Nat → Int) (p0 : Int32) (p1 : Int32) (hI : IM a u τ y) (hW : IW (u 1) (u 2) (u 9) (y (a 89))) : Met l yX12_left wm_m_left ({ frames := 2, cells := 0, slots := 0, locals := 120 }) (pw_ ad av (dC, dI) sz [.ref (a 50), .int p0, .int p1] a k τ ln y g) (va_Qi (fun (r u : Int32) => u = r) (fun (r : Int32) (t : State) => (∃ (y' : Nat → Nat → Int32) (g' : Nat → Nat → Option Nat), ag τ [60] y y' ∧ agg τ g g' ∧ IM a u τ y' ∧ r = lF (y (a 83)) (u 2) p0 p1 ∧ tw (dC, dI) a k τ ln y' g' t.heap)) (fr τ sz)) 0 0 (fr τ sz) := by
  refine Met.ofW (cc := cX12_left) (maxL := 6) (ret := (some .int)) (by decide) rfl ?_
  intro p e s m args below meth c s₁ B hml hv
  obtain ⟨rfl, hsz, hT, hK, hM⟩ := hv
  have hx := B.exec
  have hb := B.bytes
  have hr := B.returns
  have hts := atoms_spec (ws := wm_m_left) B.pre
  have hown : s.vm.findClass RX12 = some m.cls := findClass_of_methodNamed B.named
  have hlocks := B.notSynchronized
  subst hsz
  generalize hAe : fr τ s.heap.size = A at hM ⊢
  have hA : ∀ q : Nat, s.heap.size ≤ q → A q := fun q h => by rw [← hAe]; exact Or.inr h
  have hF : ∀ q, τ q ≠ 0 → A q := fun q h => by rw [← hAe]; exact Or.inl h
  have hS : va_S A s.heap s.heap [] := va_S.rf
  have hX := hI.1
  have hR := im_r hI
  have hG : ag τ [60] y y := ag.rf
  have hGg : agg τ g g := agg.rf
  have hl := lv_entry ([.ref (a 50), .int p0, .int p1]) (n := 6) (Nat.le_of_ble_eq_true rfl)
  rw [lg_entry_eq]
  generalize (lg_sl ([.ref (a 50), .int p0, .int p1]) ++ List.replicate (6 - (lg_sl ([.ref (a 50), .int p0, .int p1])).length) Slot.unset).toArray = ls at hl ⊢
  have hl : lv_has ls 6 [(0, .ref (a 50)), (1, .int p0), (2, .int p1)] := hl
  refine lv_aload_n hx hb dX12_left_0 rfl (lv_at hl 0 rfl) ?_
  refine lv_iconst (v := 0) hx hb dX12_left_1 (by decide) ?_
  refine tw_put (D := (dC, dI)) (x := 0) (ty := .int) (C := RX12) (T := TX12) (N := 58) hx hb hts (fun _ hh => (List.mem_cons_of_mem _ (List.mem_append_right _ (List.mem_append_left _ hh)))) tyX12 tyX12_ok nmX12 hown hK hT hF hS (fx_50 hX) (by decide) cl_e60 rfl 37 (by decide) (hts (.fieldLink RX12 139 "TypingPoolModel" "thrown" "I") (List.mem_cons_of_mem _ (List.mem_append_left _ (List.mem_of_getElem? (i := 0) rfl)))) (fun _ h9 => h9) rfl (tyX12_ok 37 (by decide)) rfl rfl (Nat.le_of_ble_eq_true rfl) rfl dX12_left_2 (fun H locs hT hS => ?_)
  obtain ⟨y_1, hy_1, hT⟩ : ∃ z : Nat → Nat → Int32, z = up2 y (a 50) 37 (0 : Int32) ∧ tw (dC, dI) a k τ ln z g H := ⟨_, rfl, hT⟩
  have hG : ag τ [60] y y_1 := by rw [hy_1]; exact hG.up (fx_50 hX) (by decide)
  have hW : IW (u 1) (u 2) (u 9) (y_1 (a 89)) := by rw [hy_1, up2_o (kd_ne (fx_89 hX) (fx_50 hX) (by decide))]; exact hW
  have hI := hI.put (f := 37) (x := (0 : Int32)) (by decide)
  rw [← hy_1] at hI
  refine lv_aload_n hx hb dX12_left_5 rfl (lv_at hl 0 rfl) ?_
  refine lv_iload_n hx hb dX12_left_6 rfl (lv_at hl 1 rfl) ?_
  have hFc := tw_free hF hS hA
  refine va_calli (va_runV (As := [.int p0]) (rest := []) ⟨hx, hb, hml, hown, hts⟩ (m_isPiece l dC dI ad av H.size a k τ ln y_1 g u p0 hI hW) (cwV 1 hts (gi_4 (List.mem_cons_of_mem _ (List.mem_append_left _ (List.mem_of_getElem? (i := 1) rfl))) (List.mem_cons_of_mem _ (List.mem_append_left _ (List.mem_of_getElem? (i := 2) rfl))) (List.mem_cons_of_mem _ (List.mem_append_left _ (List.mem_of_getElem? (i := 3) rfl))) (List.mem_cons_of_mem _ (List.mem_append_left _ (List.mem_of_getElem? (i := 4) rfl))) (fun _ hh => (List.mem_cons_of_mem _ (List.mem_append_right _ (List.mem_append_right _ (List.mem_append_left _ hh))))) gd_m_isPiece) rfl rfl rfl (by decide +kernel) ⟨Nat.le_of_ble_eq_true rfl, Nat.le_of_ble_eq_true rfl⟩) ⟨pw_blind, tw_recv hK hT (fx_50 hX) (by decide) cl_e60 rfl, pw_use hT hK hFc hS hM⟩ rfl rfl hl.1 rfl (lv_room (Nat.le_of_ble_eq_true rfl)) dX12_left_7 ⟨Nat.le_of_ble_eq_true rfl, Nat.le_of_ble_eq_true rfl⟩) hS (fun q _ h => hFc q h) hFc (fun r0 r_2 t H locs ht hvm hw hB hz1 hk1 hS => ?_)
  refine W.widen (k := 0) (n := 0) (Nat.le_of_ble_eq_true rfl) (Nat.le_of_ble_eq_true rfl) ?_
  clear hvm hz1 hk1
  subst hw
  rcases hB with ⟨hre, hf_3, hf_4, hT⟩ | ⟨hre, hf_5, hT⟩
  · refine lq_top (v := 1) hre ?_
    rw [ht] at hT
    refine lv_if_eq (tgt := 22) hx hb dX12_left_10 (by decide) (fun c_6 => absurd c_6 (by decide)) (fun c_6 => ?_)
    refine lv_iload_n hx hb dX12_left_13 rfl (lv_at hl 2 rfl) ?_
    refine lv_iconst (v := 0) hx hb dX12_left_14 (by decide) ?_
    refine lv_iconst (v := 2) hx hb dX12_left_15 (by decide) ?_
    have hFc := tw_free hF hS hA
    have hp_7 : (0 : Int32).toInt = 0 := (zk (x := 0) 0 rfl)
    have hp_8 : (2 : Int32).toInt = 2 := (zk (x := 2) 2 rfl)
    refine va_calli (va_runS (As := [.int p1, .int 0, .int 2]) (rest := []) ⟨hx, hb, hml, hown, hts⟩ (m_in l dC dI ad av H.size a k τ ln y_1 g u p1 (0 : Int32) (2 : Int32)  ) (va_cwS 3 hts (gi_3 (List.mem_cons_of_mem _ (List.mem_append_left _ (List.mem_of_getElem? (i := 5) rfl))) (List.mem_cons_of_mem _ (List.mem_append_left _ (List.mem_of_getElem? (i := 6) rfl))) (List.mem_cons_of_mem _ (List.mem_append_left _ (List.mem_of_getElem? (i := 4) rfl))) (fun _ hh => (List.mem_cons_of_mem _ (List.mem_append_right _ (List.mem_append_right _ (List.mem_append_right _ (List.mem_append_left _ hh)))))) gd_m_in) rfl rfl rfl (by decide +kernel) ⟨Nat.le_of_ble_eq_true rfl, Nat.le_of_ble_eq_true rfl⟩) ⟨pw_blind, pw_use hT hK hFc hS hM⟩ rfl rfl hl.1 rfl (lv_room (Nat.le_of_ble_eq_true rfl)) dX12_left_16 ⟨Nat.le_of_ble_eq_true rfl, Nat.le_of_ble_eq_true rfl⟩) hS (fun q _ h => hFc q h) hFc (fun r0 r_9 t H locs ht hvm hw hB hz1 hk1 hS => ?_)
    refine W.widen (k := 0) (n := 0) (Nat.le_of_ble_eq_true rfl) (Nat.le_of_ble_eq_true rfl) ?_
    clear hvm hz1 hk1
    subst hw
    rcases hB with ⟨hre, hf_10, hf_11, hT⟩ | ⟨hre, hf_12, hT⟩
    · refine lq_top (v := 1) hre ?_
      rw [ht] at hT
      try simp only [hp_7, hp_8] at hf_10 hf_11
      clear hp_7 hp_8
      refine lv_if_ne (tgt := 24) hx hb dX12_left_19 (by decide) (fun c_13 => ?_) (fun c_13 => absurd c_13 (by decide))
      refine lv_aload_n hx hb dX12_left_24 rfl (lv_at hl 0 rfl) ?_
      refine tw_get (D := (dC, dI)) (v := .ref (a 83)) (C := RX12) (T := TX12) (N := 58) hx hb hts (fun _ hh => (List.mem_cons_of_mem _ (List.mem_append_right _ (List.mem_append_left _ hh)))) hown hK hT (fx_50 hX) (by decide) cl_e60 rfl 32 (by decide) (hts (.fieldLink RX12 98 "TypingPoolModel" "slips" "[I") (List.mem_cons_of_mem _ (List.mem_append_left _ (List.mem_of_getElem? (i := 7) rfl)))) (fun _ h9 => h9) rfl dX12_left_25 ?_
      refine lv_iconst (v := 2) hx hb dX12_left_28 (by decide) ?_
      refine lv_iload_n hx hb dX12_left_29 rfl (lv_at hl 1 rfl) ?_
      refine lv_imul hx hb dX12_left_30 ?_
      refine lv_topi (fun x_14 ex_14 => ?_)
      have hx_14 := z_mul ex_14 (zk (x := 2) 2 rfl) rfl (by omega) (by omega)
      refine tw_iald hx hb hK hT 0 (fx_83 hX) (by decide) cl_e93 rfl (z_in rfl (by omega) (by omega)) dX12_left_31 ?_
      have hsl_15 : y_1 (a 83) x_14.toNatClampNeg = y (a 83) (2 * p0.toNatClampNeg) := by rw [hG.at (fx_83 hX) (by decide), show x_14.toNatClampNeg = 2 * p0.toNatClampNeg from by rw [z_nat (x := x_14) rfl, z_nat (x := p0) rfl]; omega]
      refine lv_topi (fun x_16 ex_16 => ?_)
      rw [← ex_16] at hsl_15
      refine lv_istore_n (lv' := [(3, .int x_16), (0, .ref (a 50)), (1, .int p0), (2, .int p1)]) hx hb dX12_left_32 rfl hl (by decide) rfl (fun ls hl => ?_)
      refine lv_aload_n hx hb dX12_left_33 rfl (lv_at hl 1 rfl) ?_
      refine tw_get (D := (dC, dI)) (v := .ref (a 83)) (C := RX12) (T := TX12) (N := 58) hx hb hts (fun _ hh => (List.mem_cons_of_mem _ (List.mem_append_right _ (List.mem_append_left _ hh)))) hown hK hT (fx_50 hX) (by decide) cl_e60 rfl 32 (by decide) (hts (.fieldLink RX12 98 "TypingPoolModel" "slips" "[I") (List.mem_cons_of_mem _ (List.mem_append_left _ (List.mem_of_getElem? (i := 7) rfl)))) (fun _ h9 => h9) rfl dX12_left_34 ?_
      refine lv_iconst (v := 2) hx hb dX12_left_37 (by decide) ?_
      refine lv_iload_n hx hb dX12_left_38 rfl (lv_at hl 2 rfl) ?_
      refine lv_imul hx hb dX12_left_39 ?_
      refine lv_topi (fun x_17 ex_17 => ?_)
      have hx_17 := z_mul ex_17 (zk (x := 2) 2 rfl) rfl (by omega) (by omega)
      refine lv_iconst (v := 1) hx hb dX12_left_40 (by decide) ?_
      refine lv_iadd hx hb dX12_left_41 ?_
      refine lv_topi (fun x_18 ex_18 => ?_)
      have hx_18 := z_add ex_18 rfl (zk (x := 1) 1 rfl) (by omega) (by omega)
      refine tw_iald hx hb hK hT 0 (fx_83 hX) (by decide) cl_e93 rfl (z_in rfl (by omega) (by omega)) dX12_left_42 ?_
      have hsl_19 : y_1 (a 83) x_18.toNatClampNeg = y (a 83) (2 * p0.toNatClampNeg + 1) := by rw [hG.at (fx_83 hX) (by decide), show x_18.toNatClampNeg = 2 * p0.toNatClampNeg + 1 from by rw [z_nat (x := x_18) rfl, z_nat (x := p0) rfl]; omega]
      refine lv_topi (fun x_20 ex_20 => ?_)
      rw [← ex_20] at hsl_19
      refine lv_istore (lv' := [(4, .int x_20), (3, .int x_16), (0, .ref (a 50)), (1, .int p0), (2, .int p1)]) hx hb dX12_left_43 hl (by decide) rfl (fun ls hl => ?_)
      refine lv_iload_n hx hb dX12_left_45 rfl (lv_at hl 1 rfl) ?_
      refine lv_iload hx hb dX12_left_46 (lv_at hl 0 rfl) ?_
      refine lv_iand hx hb dX12_left_48 ?_
      refine lv_topi (fun x_21 ex_21 => ?_)
      have hFc := tw_free hF hS hA
      refine va_calli (va_runS (As := [.int x_21]) (rest := []) ⟨hx, hb, hml, hown, hts⟩ (m_bitsX l dC dI ad av H.size a k τ ln y_1 g u x_21  ) (va_cwS 1 hts (gi_3 (List.mem_cons_of_mem _ (List.mem_append_left _ (List.mem_of_getElem? (i := 8) rfl))) (List.mem_cons_of_mem _ (List.mem_append_left _ (List.mem_of_getElem? (i := 9) rfl))) (List.mem_cons_of_mem _ (List.mem_append_left _ (List.mem_of_getElem? (i := 4) rfl))) (fun _ hh => (List.mem_cons_of_mem _ (List.mem_append_right _ (List.mem_append_right _ (List.mem_append_right _ (List.mem_append_right _ (List.mem_append_left _ hh))))))) gd_m_bitsX) rfl rfl rfl (by decide +kernel) ⟨Nat.le_of_ble_eq_true rfl, Nat.le_of_ble_eq_true rfl⟩) ⟨pw_blind, pw_use hT hK hFc hS hM⟩ rfl rfl hl.1 rfl (lv_room (Nat.le_of_ble_eq_true rfl)) dX12_left_49 ⟨Nat.le_of_ble_eq_true rfl, Nat.le_of_ble_eq_true rfl⟩) hS (fun q _ h => hFc q h) hFc (fun r0 r_22 t H locs ht hvm hw hB hz1 hk1 hS => ?_)
      refine W.widen (k := 0) (n := 0) (Nat.le_of_ble_eq_true rfl) (Nat.le_of_ble_eq_true rfl) ?_
      clear hvm hz1 hk1
      subst hw
      obtain ⟨hf_23, hT⟩ := hB
      rw [ht] at hT
      refine lv_istore (lv' := [(5, .int r_22), (4, .int x_20), (3, .int x_16), (0, .ref (a 50)), (1, .int p0), (2, .int p1)]) hx hb dX12_left_52 hl (by decide) rfl (fun ls hl => ?_)
      refine lv_iload_n hx hb dX12_left_54 rfl (lv_at hl 5 rfl) ?_
      refine lv_if_le (tgt := 76) hx hb dX12_left_55 (by decide) (fun c_24 => ?_) (fun c_24 => ?_)
      · have nc_24 := z_le rfl (zk (x := 0) 0 rfl) c_24
        refine lv_iload hx hb dX12_left_76 (lv_at hl 0 rfl) ?_
        refine lv_if_ne (tgt := 85) hx hb dX12_left_78 (by decide) (fun c_25 => ?_) (fun c_25 => ?_)
        · have nc_25 := z_ne rfl (zk (x := 0) 0 rfl) c_25
          refine lv_iload_n hx hb dX12_left_85 rfl (lv_at hl 2 rfl) ?_
          refine lv_iload hx hb dX12_left_86 (lv_at hl 1 rfl) ?_
          refine lv_iconst (v := (-1)) hx hb dX12_left_88 (by decide) ?_
          refine lv_ixor hx hb dX12_left_89 ?_
          refine lv_topi (fun x_26 ex_26 => ?_)
          refine lv_iand hx hb dX12_left_90 ?_
          refine lv_topi (fun x_27 ex_27 => ?_)
          have hFc := tw_free hF hS hA
          refine va_calli (va_runS (As := [.int x_27]) (rest := []) ⟨hx, hb, hml, hown, hts⟩ (m_bitsX l dC dI ad av H.size a k τ ln y_1 g u x_27  ) (va_cwS 1 hts (gi_3 (List.mem_cons_of_mem _ (List.mem_append_left _ (List.mem_of_getElem? (i := 8) rfl))) (List.mem_cons_of_mem _ (List.mem_append_left _ (List.mem_of_getElem? (i := 9) rfl))) (List.mem_cons_of_mem _ (List.mem_append_left _ (List.mem_of_getElem? (i := 4) rfl))) (fun _ hh => (List.mem_cons_of_mem _ (List.mem_append_right _ (List.mem_append_right _ (List.mem_append_right _ (List.mem_append_right _ (List.mem_append_left _ hh))))))) gd_m_bitsX) rfl rfl rfl (by decide +kernel) ⟨Nat.le_of_ble_eq_true rfl, Nat.le_of_ble_eq_true rfl⟩) ⟨pw_blind, pw_use hT hK hFc hS hM⟩ rfl rfl hl.1 rfl (lv_room (Nat.le_of_ble_eq_true rfl)) dX12_left_91 ⟨Nat.le_of_ble_eq_true rfl, Nat.le_of_ble_eq_true rfl⟩) hS (fun q _ h => hFc q h) hFc (fun r0 r_28 t H locs ht hvm hw hB hz1 hk1 hS => ?_)
          refine W.widen (k := 0) (n := 0) (Nat.le_of_ble_eq_true rfl) (Nat.le_of_ble_eq_true rfl) ?_
          clear hvm hz1 hk1
          subst hw
          obtain ⟨hf_29, hT⟩ := hB
          rw [ht] at hT
          refine lv_iload hx hb dX12_left_94 (lv_at hl 1 rfl) ?_
          refine lv_iload_n hx hb dX12_left_96 rfl (lv_at hl 2 rfl) ?_
          refine lv_iconst (v := (-1)) hx hb dX12_left_97 (by decide) ?_
          refine lv_ixor hx hb dX12_left_98 ?_
          refine lv_topi (fun x_30 ex_30 => ?_)
          refine lv_iand hx hb dX12_left_99 ?_
          refine lv_topi (fun x_31 ex_31 => ?_)
          have hFc := tw_free hF hS hA
          refine va_calli (va_runS (As := [.int x_31]) (rest := [.int r_28]) ⟨hx, hb, hml, hown, hts⟩ (m_bitsX l dC dI ad av H.size a k τ ln y_1 g u x_31  ) (va_cwS 1 hts (gi_3 (List.mem_cons_of_mem _ (List.mem_append_left _ (List.mem_of_getElem? (i := 8) rfl))) (List.mem_cons_of_mem _ (List.mem_append_left _ (List.mem_of_getElem? (i := 9) rfl))) (List.mem_cons_of_mem _ (List.mem_append_left _ (List.mem_of_getElem? (i := 4) rfl))) (fun _ hh => (List.mem_cons_of_mem _ (List.mem_append_right _ (List.mem_append_right _ (List.mem_append_right _ (List.mem_append_right _ (List.mem_append_left _ hh))))))) gd_m_bitsX) rfl rfl rfl (by decide +kernel) ⟨Nat.le_of_ble_eq_true rfl, Nat.le_of_ble_eq_true rfl⟩) ⟨pw_blind, pw_use hT hK hFc hS hM⟩ rfl rfl hl.1 rfl (lv_room (Nat.le_of_ble_eq_true rfl)) dX12_left_100 ⟨Nat.le_of_ble_eq_true rfl, Nat.le_of_ble_eq_true rfl⟩) hS (fun q _ h => hFc q h) hFc (fun r0 r_32 t H locs ht hvm hw hB hz1 hk1 hS => ?_)
          refine W.widen (k := 0) (n := 0) (Nat.le_of_ble_eq_true rfl) (Nat.le_of_ble_eq_true rfl) ?_
          clear hvm hz1 hk1
          subst hw
          obtain ⟨hf_33, hT⟩ := hB
          rw [ht] at hT
          refine lv_imul hx hb dX12_left_103 ?_
          refine lv_topi (fun x_34 ex_34 => ?_)
          refine lv_iload hx hb dX12_left_104 (lv_at hl 0 rfl) ?_
          refine lv_idiv hx hb dX12_left_106 (z_n0 rfl (by omega)) ?_
          refine lv_topi (fun x_35 ex_35 => ?_)
          have hrv : x_35.toInt = x_35.toInt := rfl
          exact W.iret (v := x_35) hx hb hr (fun t ht hW9 => ⟨⟨x_35, x_35, rfl, rfl, ⟨y_1, g, hG, hGg, hI, (by subst ex_35; subst ex_34; subst hf_33; subst ex_31; subst ex_30; subst hf_29; subst ex_27; subst ex_26; subst hf_23; subst ex_21; exact (lf0_n c_25).trans (lF_0 ⟨by omega, by omega⟩ (by omega) hsl_15 hsl_19)), tw_at ht hT⟩⟩, hS.F ht⟩) hS.2.2 dX12_left_107
        · have nc_25 := z_eq rfl (zk (x := 0) 0 rfl) c_25
          refine lv_iconst (v := (-1)) hx hb dX12_left_81 (by decide) ?_
          refine lv_goto (tgt := 107) hx hb dX12_left_82 (by decide) ?_
          have hrv : (-1 : Int32).toInt = (-1) := (zk (x := (-1)) (-1) rfl)
          exact W.iret (v := (-1)) hx hb hr (fun t ht hW9 => ⟨⟨(-1), (-1), rfl, rfl, ⟨y_1, g, hG, hGg, hI, (by subst hf_23; subst ex_21; exact (lf0_z c_25).trans (lF_0 ⟨by omega, by omega⟩ (by omega) hsl_15 hsl_19)), tw_at ht hT⟩⟩, hS.F ht⟩) hS.2.2 dX12_left_107
      · have nc_24 := z_nle rfl (zk (x := 0) 0 rfl) c_24
        refine lv_iload_n hx hb dX12_left_58 rfl (lv_at hl 5 rfl) ?_
        refine lv_iconst (v := 1) hx hb dX12_left_59 (by decide) ?_
        refine lv_icmp_ne (tgt := 73) hx hb dX12_left_60 (by decide) (fun c_36 => ?_) (fun c_36 => ?_)
        · have nc_36 := z_ne rfl (zk (x := 1) 1 rfl) c_36
          refine lv_iload hx hb dX12_left_73 (lv_at hl 0 rfl) ?_
          have hrv : r_22.toInt = r_22.toInt := rfl
          exact W.iret (v := r_22) hx hb hr (fun t ht hW9 => ⟨⟨r_22, r_22, rfl, rfl, ⟨y_1, g, hG, hGg, hI, (by subst hf_23; subst ex_21; exact lF_2 ⟨by omega, by omega⟩ (by omega) hsl_15 hsl_19), tw_at ht hT⟩⟩, hS.F ht⟩) hS.2.2 dX12_left_75
        · have nc_36 := z_eq rfl (zk (x := 1) 1 rfl) c_36
          refine lv_iload_n hx hb dX12_left_63 rfl (lv_at hl 2 rfl) ?_
          refine lv_iload hx hb dX12_left_64 (lv_at hl 1 rfl) ?_
          refine lv_ior hx hb dX12_left_66 ?_
          refine lv_topi (fun x_37 ex_37 => ?_)
          have hFc := tw_free hF hS hA
          refine va_calli (va_runS (As := [.int x_37]) (rest := []) ⟨hx, hb, hml, hown, hts⟩ (m_bitsX l dC dI ad av H.size a k τ ln y_1 g u x_37  ) (va_cwS 1 hts (gi_3 (List.mem_cons_of_mem _ (List.mem_append_left _ (List.mem_of_getElem? (i := 8) rfl))) (List.mem_cons_of_mem _ (List.mem_append_left _ (List.mem_of_getElem? (i := 9) rfl))) (List.mem_cons_of_mem _ (List.mem_append_left _ (List.mem_of_getElem? (i := 4) rfl))) (fun _ hh => (List.mem_cons_of_mem _ (List.mem_append_right _ (List.mem_append_right _ (List.mem_append_right _ (List.mem_append_right _ (List.mem_append_left _ hh))))))) gd_m_bitsX) rfl rfl rfl (by decide +kernel) ⟨Nat.le_of_ble_eq_true rfl, Nat.le_of_ble_eq_true rfl⟩) ⟨pw_blind, pw_use hT hK hFc hS hM⟩ rfl rfl hl.1 rfl (lv_room (Nat.le_of_ble_eq_true rfl)) dX12_left_67 ⟨Nat.le_of_ble_eq_true rfl, Nat.le_of_ble_eq_true rfl⟩) hS (fun q _ h => hFc q h) hFc (fun r0 r_38 t H locs ht hvm hw hB hz1 hk1 hS => ?_)
          refine W.widen (k := 0) (n := 0) (Nat.le_of_ble_eq_true rfl) (Nat.le_of_ble_eq_true rfl) ?_
          clear hvm hz1 hk1
          subst hw
          obtain ⟨hf_39, hT⟩ := hB
          rw [ht] at hT
          refine lv_goto (tgt := 75) hx hb dX12_left_70 (by decide) ?_
          have hrv : r_38.toInt = r_38.toInt := rfl
          exact W.iret (v := r_38) hx hb hr (fun t ht hW9 => ⟨⟨r_38, r_38, rfl, rfl, ⟨y_1, g, hG, hGg, hI, (by subst hf_39; subst ex_37; subst hf_23; subst ex_21; exact lF_1 ⟨by omega, by omega⟩ (by omega) hsl_15 hsl_19), tw_at ht hT⟩⟩, hS.F ht⟩) hS.2.2 dX12_left_75
    · refine lq_top (v := 0) hre ?_
      rw [ht] at hT
      try simp only [hp_7, hp_8] at hf_12
      clear hp_7 hp_8
      refine lv_if_ne (tgt := 24) hx hb dX12_left_19 (by decide) (fun c_40 => absurd c_40 (by decide)) (fun c_40 => ?_)
      refine lv_iconst (v := (-1)) hx hb dX12_left_22 (by decide) ?_
      have hrv : (-1 : Int32).toInt = (-1) := (zk (x := (-1)) (-1) rfl)
      exact W.iret (v := (-1)) hx hb hr (fun t ht hW9 => ⟨⟨(-1), (-1), rfl, rfl, ⟨y_1, g, hG, hGg, hI, (lF_out (by omega)), tw_at ht hT⟩⟩, hS.F ht⟩) hS.2.2 dX12_left_23
  · refine lq_top (v := 0) hre ?_
    rw [ht] at hT
    refine lv_if_eq (tgt := 22) hx hb dX12_left_10 (by decide) (fun c_41 => ?_) (fun c_41 => absurd c_41 (by decide))
    refine lv_iconst (v := (-1)) hx hb dX12_left_22 (by decide) ?_
    have hrv : (-1 : Int32).toInt = (-1) := (zk (x := (-1)) (-1) rfl)
    exact W.iret (v := (-1)) hx hb hr (fun t ht hW9 => ⟨⟨(-1), (-1), rfl, rfl, ⟨y_1, g, hG, hGg, hI, (lF_out (by omega)), tw_at ht hT⟩⟩, hS.F ht⟩) hS.2.2 dX12_left_23
def wo_m_fineX : List Cond := [.fieldLink RX12 200 "TypingPoolModel" "wrong" "I"]
def wm_m_fineX : List Cond := .code yX12_fine cX12_fine 1 (some .boolean) :: (wo_m_fineX ++ (wsX120 ++ ([] : List Cond)))
theorem gd_m_fineX : ∀ w ∈ wm_m_fineX, goodWord w = true := gd_c rfl (gd_a (by decide) (gd_a gd_wsX120 gd_nil))
set_option maxRecDepth 20000 in
theorem im_m_fineX : ∀ w ∈ wm_m_fineX, w ∈ lw_tbl := im_c (in_r [.code yX12_fine cX12_fine 1 (some .boolean)] [1518] (by decide +kernel)) (in_app (in_r wo_m_fineX [1287] (by decide +kernel)) (in_app im_wsX120 im_nil))
set_option maxHeartbeats 4000000 in
set_option maxRecDepth 100000 in
theorem m_fineX (l : Launch) (dC : Nat → ClassId) (dI : Nat → Nat → Nat) (ad av : Nat → Nat) (sz : Nat) (a : Nat → Nat) (k : Nat → ClassId) (τ ln : Nat → Nat) (y : Nat → Nat → Int32) (g : Nat → Nat → Option Nat) (u : Nat → Int) (hI : IM a u τ y) (hW : IW (u 1) (u 2) (u 9) (y (a 89))) : Met l yX12_fine wm_m_fineX ({ frames := 0, cells := 0, slots := 0, locals := 0 }) (pw_ ad av (dC, dI) sz [.ref (a 50)] a k τ ln y g) (va_Qi (fun (r u : Int32) => u = r) (fun (r : Int32) (t : State) => (r = 1 ∧ (y (a 50) 46).toInt = -1 ∧ tw (dC, dI) a k τ ln y g t.heap) ∨ (r = 0 ∧ (y (a 50) 46).toInt ≠ -1 ∧ tw (dC, dI) a k τ ln y g t.heap)) (fr τ sz)) 0 0 (fr τ sz) := by
  refine Met.ofW (cc := cX12_fine) (maxL := 1) (ret := (some .boolean)) (by decide) rfl ?_
  intro p e s m args below meth c s₁ B hml hv
  obtain ⟨rfl, hsz, hT, hK, hM⟩ := hv
  have hx := B.exec
  have hb := B.bytes
  have hr := B.returns
  have hts := atoms_spec (ws := wm_m_fineX) B.pre
  have hown : s.vm.findClass RX12 = some m.cls := findClass_of_methodNamed B.named
  have hlocks := B.notSynchronized
  subst hsz
  generalize hAe : fr τ s.heap.size = A at hM ⊢
  have hA : ∀ q : Nat, s.heap.size ≤ q → A q := fun q h => by rw [← hAe]; exact Or.inr h
  have hF : ∀ q, τ q ≠ 0 → A q := fun q h => by rw [← hAe]; exact Or.inl h
  have hS : va_S A s.heap s.heap [] := va_S.rf
  have hX := hI.1
  have hR := im_r hI
  have hl := lv_entry ([.ref (a 50)]) (n := 1) (Nat.le_of_ble_eq_true rfl)
  rw [lg_entry_eq]
  generalize (lg_sl ([.ref (a 50)]) ++ List.replicate (1 - (lg_sl ([.ref (a 50)])).length) Slot.unset).toArray = ls at hl ⊢
  have hl : lv_has ls 1 [(0, .ref (a 50))] := hl
  refine lv_aload_n hx hb dX12_fine_0 rfl (lv_at hl 0 rfl) ?_
  refine tw_get (D := (dC, dI)) (v := .int (y (a 50) 46)) (C := RX12) (T := TX12) (N := 58) hx hb hts (fun _ hh => (List.mem_cons_of_mem _ (List.mem_append_right _ (List.mem_append_left _ hh)))) hown hK hT (fx_50 hX) (by decide) cl_e60 rfl 46 (by decide) (hts (.fieldLink RX12 200 "TypingPoolModel" "wrong" "I") (List.mem_cons_of_mem _ (List.mem_append_left _ (List.mem_of_getElem? (i := 0) rfl)))) (fun _ h9 => h9) rfl dX12_fine_1 ?_
  refine lv_iconst (v := (-1)) hx hb dX12_fine_4 (by decide) ?_
  refine lv_icmp_ne (tgt := 12) hx hb dX12_fine_5 (by decide) (fun c_1 => ?_) (fun c_1 => ?_)
  · have nc_1 := z_ne rfl (zk (x := (-1)) (-1) rfl) c_1
    refine lv_iconst (v := 0) hx hb dX12_fine_12 (by decide) ?_
    have hrv : (0 : Int32).toInt = 0 := (zk (x := 0) 0 rfl)
    exact W.zret (v := 0) hx hb hr (by decide) (fun t ht hW9 => ⟨⟨0, 0, rfl, rfl, Or.inr (⟨rfl, by omega, tw_at ht hT⟩)⟩, hS.F ht⟩) hS.2.2 dX12_fine_13
  · have nc_1 := z_eq rfl (zk (x := (-1)) (-1) rfl) c_1
    refine lv_iconst (v := 1) hx hb dX12_fine_8 (by decide) ?_
    refine lv_goto (tgt := 13) hx hb dX12_fine_9 (by decide) ?_
    have hrv : (1 : Int32).toInt = 1 := (zk (x := 1) 1 rfl)
    exact W.zret (v := 1) hx hb hr (by decide) (fun t ht hW9 => ⟨⟨1, 1, rfl, rfl, Or.inl ⟨rfl, by omega, tw_at ht hT⟩⟩, hS.F ht⟩) hS.2.2 dX12_fine_13
def wo_m_isWrongX : List Cond := [.fieldLink RX12 200 "TypingPoolModel" "wrong" "I", .fieldLink RX12 197 "TypingPoolModel" "at" "I"]
def wm_m_isWrongX : List Cond := .code yX12_isWrong cX12_isWrong 1 (some .int) :: (wo_m_isWrongX ++ (wsX120 ++ ([] : List Cond)))
theorem gd_m_isWrongX : ∀ w ∈ wm_m_isWrongX, goodWord w = true := gd_c rfl (gd_a (by decide) (gd_a gd_wsX120 gd_nil))
set_option maxRecDepth 20000 in
theorem im_m_isWrongX : ∀ w ∈ wm_m_isWrongX, w ∈ lw_tbl := im_c (in_r [.code yX12_isWrong cX12_isWrong 1 (some .int)] [1514] (by decide +kernel)) (in_app (in_r wo_m_isWrongX [1287, 1286] (by decide +kernel)) (in_app im_wsX120 im_nil))
set_option maxHeartbeats 4000000 in
set_option maxRecDepth 100000 in
theorem m_isWrongX (l : Launch) (dC : Nat → ClassId) (dI : Nat → Nat → Nat) (ad av : Nat → Nat) (sz : Nat) (a : Nat → Nat) (k : Nat → ClassId) (τ ln : Nat → Nat) (y : Nat → Nat → Int32) (g : Nat → Nat → Option Nat) (u : Nat → Int) (hI : IM a u τ y) (h45 : 0 ≤ (y (a 50) 45).toInt) (hW : IW (u 1) (u 2) (u 9) (y (a 89))) : Met l yX12_isWrong wm_m_isWrongX ({ frames := 0, cells := 0, slots := 0, locals := 0 }) (pw_ ad av (dC, dI) sz [.ref (a 50)] a k τ ln y g) (va_Qi (fun (r u : Int32) => u = r) (fun (r : Int32) (t : State) => (∃ (y' : Nat → Nat → Int32), ag τ [60] y y' ∧ IM a u τ y' ∧ (y' (a 50) 45).toInt = (y (a 50) 45).toInt ∧ (y' (a 50) 46).toInt ≠ -1 ∧ tw (dC, dI) a k τ ln y' g t.heap)) (fr τ sz)) 0 0 (fr τ sz) := by
  refine Met.ofW (cc := cX12_isWrong) (maxL := 1) (ret := (some .int)) (by decide) rfl ?_
  intro p e s m args below meth c s₁ B hml hv
  obtain ⟨rfl, hsz, hT, hK, hM⟩ := hv
  have hx := B.exec
  have hb := B.bytes
  have hr := B.returns
  have hts := atoms_spec (ws := wm_m_isWrongX) B.pre
  have hown : s.vm.findClass RX12 = some m.cls := findClass_of_methodNamed B.named
  have hlocks := B.notSynchronized
  subst hsz
  generalize hAe : fr τ s.heap.size = A at hM ⊢
  have hA : ∀ q : Nat, s.heap.size ≤ q → A q := fun q h => by rw [← hAe]; exact Or.inr h
  have hF : ∀ q, τ q ≠ 0 → A q := fun q h => by rw [← hAe]; exact Or.inl h
  have hS : va_S A s.heap s.heap [] := va_S.rf
  have hX := hI.1
  have hR := im_r hI
  have hG : ag τ [60] y y := ag.rf
  have hl := lv_entry ([.ref (a 50)]) (n := 1) (Nat.le_of_ble_eq_true rfl)
  rw [lg_entry_eq]
  generalize (lg_sl ([.ref (a 50)]) ++ List.replicate (1 - (lg_sl ([.ref (a 50)])).length) Slot.unset).toArray = ls at hl ⊢
  have hl : lv_has ls 1 [(0, .ref (a 50))] := hl
  refine lv_aload_n hx hb dX12_isWrong_0 rfl (lv_at hl 0 rfl) ?_
  refine tw_get (D := (dC, dI)) (v := .int (y (a 50) 46)) (C := RX12) (T := TX12) (N := 58) hx hb hts (fun _ hh => (List.mem_cons_of_mem _ (List.mem_append_right _ (List.mem_append_left _ hh)))) hown hK hT (fx_50 hX) (by decide) cl_e60 rfl 46 (by decide) (hts (.fieldLink RX12 200 "TypingPoolModel" "wrong" "I") (List.mem_cons_of_mem _ (List.mem_append_left _ (List.mem_of_getElem? (i := 0) rfl)))) (fun _ h9 => h9) rfl dX12_isWrong_1 ?_
  refine lv_iconst (v := (-1)) hx hb dX12_isWrong_4 (by decide) ?_
  refine lv_icmp_ne (tgt := 16) hx hb dX12_isWrong_5 (by decide) (fun c_1 => ?_) (fun c_1 => ?_)
  · have nc_1 := z_ne rfl (zk (x := (-1)) (-1) rfl) c_1
    refine lv_iconst (v := 0) hx hb dX12_isWrong_16 (by decide) ?_
    have hrv : (0 : Int32).toInt = 0 := (zk (x := 0) 0 rfl)
    exact W.iret (v := 0) hx hb hr (fun t ht hW9 => ⟨⟨0, 0, rfl, rfl, ⟨y, hG, hI, by omega, by omega, tw_at ht hT⟩⟩, hS.F ht⟩) hS.2.2 dX12_isWrong_17
  · have nc_1 := z_eq rfl (zk (x := (-1)) (-1) rfl) c_1
    refine lv_aload_n hx hb dX12_isWrong_8 rfl (lv_at hl 0 rfl) ?_
    refine lv_aload_n hx hb dX12_isWrong_9 rfl (lv_at hl 0 rfl) ?_
    refine tw_get (D := (dC, dI)) (v := .int (y (a 50) 45)) (C := RX12) (T := TX12) (N := 58) hx hb hts (fun _ hh => (List.mem_cons_of_mem _ (List.mem_append_right _ (List.mem_append_left _ hh)))) hown hK hT (fx_50 hX) (by decide) cl_e60 rfl 45 (by decide) (hts (.fieldLink RX12 197 "TypingPoolModel" "at" "I") (List.mem_cons_of_mem _ (List.mem_append_left _ (List.mem_of_getElem? (i := 1) rfl)))) (fun _ h9 => h9) rfl dX12_isWrong_10 ?_
    refine tw_put (D := (dC, dI)) (x := y (a 50) 45) (ty := .int) (C := RX12) (T := TX12) (N := 58) hx hb hts (fun _ hh => (List.mem_cons_of_mem _ (List.mem_append_right _ (List.mem_append_left _ hh)))) tyX12 tyX12_ok nmX12 hown hK hT hF hS (fx_50 hX) (by decide) cl_e60 rfl 46 (by decide) (hts (.fieldLink RX12 200 "TypingPoolModel" "wrong" "I") (List.mem_cons_of_mem _ (List.mem_append_left _ (List.mem_of_getElem? (i := 0) rfl)))) (fun _ h9 => h9) rfl (tyX12_ok 46 (by decide)) rfl rfl (Nat.le_of_ble_eq_true rfl) rfl dX12_isWrong_13 (fun H locs hT hS => ?_)
    obtain ⟨y_2, hy_2, hT⟩ : ∃ z : Nat → Nat → Int32, z = up2 y (a 50) 46 (y (a 50) 45) ∧ tw (dC, dI) a k τ ln z g H := ⟨_, rfl, hT⟩
    have hG : ag τ [60] y y_2 := by rw [hy_2]; exact hG.up (fx_50 hX) (by decide)
    have : (y_2 (a 50) 45).toInt = (y (a 50) 45).toInt := by rw [hy_2, up2_e (by decide)]
    have : (y_2 (a 50) 46).toInt = (y (a 50) 45).toInt := (congrArg Int32.toInt (show y_2 (a 50) 46 = (y (a 50) 45) from by rw [hy_2]; exact up2_i)).trans rfl
    have hW : IW (u 1) (u 2) (u 9) (y_2 (a 89)) := by rw [hy_2, up2_o (kd_ne (fx_89 hX) (fx_50 hX) (by decide))]; exact hW
    have hI := hI.put (f := 46) (x := (y (a 50) 45)) (by decide)
    rw [← hy_2] at hI
    refine lv_iconst (v := 0) hx hb dX12_isWrong_16 (by decide) ?_
    have hrv : (0 : Int32).toInt = 0 := (zk (x := 0) 0 rfl)
    exact W.iret (v := 0) hx hb hr (fun t ht hW9 => ⟨⟨0, 0, rfl, rfl, ⟨y_2, hG, hI, by omega, by omega, tw_at ht hT⟩⟩, hS.F ht⟩) hS.2.2 dX12_isWrong_17
def wo_m_rule : List Cond := [.fieldLink RX12 139 "TypingPoolModel" "thrown" "I", .fieldLink RX12 177 "TypingPoolModel" "typed" "I", .methodLink RX12 145 yX12_in, .static yX12_in, .initialized RX12, .fieldLink RX12 248 "TypingPoolModel" "rules" "I", .fieldLink RX12 101 "TypingPoolModel" "text" "[B", .methodLink RX12 251 yX12_open, .instanceMethod yX12_open, .selects RX12 yX12_open yX12_open, .methodLink RX12 239 yX12_any, .instanceMethod yX12_any, .selects RX12 yX12_any yX12_any, .methodLink RX12 217 yX12_fine, .instanceMethod yX12_fine, .selects RX12 yX12_fine yX12_fine, .fieldLink RX12 197 "TypingPoolModel" "at" "I", .fieldLink RX12 62 "TypingPoolModel" "textSize" "[I", .fieldLink RX12 65 "TypingPoolModel" "textKind" "[I", .fieldLink RX12 68 "TypingPoolModel" "textDay" "[I", .fieldLink RX12 58 "TypingPoolModel" "texts" "[B", .fieldLink RX12 200 "TypingPoolModel" "wrong" "I", .methodLink RX12 236 yX12_isWrong, .instanceMethod yX12_isWrong, .selects RX12 yX12_isWrong yX12_isWrong]
def wm_m_rule : List Cond := .code yX12_rule cX12_rule 5 (some .int) :: (wo_m_rule ++ (wsX120 ++ (wm_m_in ++ (wm_m_openT ++ (wm_g_any ++ (wm_m_fineX ++ (wm_m_isWrongX ++ ([] : List Cond))))))))
theorem gd_m_rule : ∀ w ∈ wm_m_rule, goodWord w = true := gd_c rfl (gd_a (by decide) (gd_a gd_wsX120 (gd_a gd_m_in (gd_a gd_m_openT (gd_a gd_g_any (gd_a gd_m_fineX (gd_a gd_m_isWrongX gd_nil)))))))
set_option maxRecDepth 20000 in
theorem im_m_rule : ∀ w ∈ wm_m_rule, w ∈ lw_tbl := im_c (in_r [.code yX12_rule cX12_rule 5 (some .int)] [1467] (by decide +kernel)) (in_app (in_r wo_m_rule [1278, 1275, 1420, 1421, 86, 1265, 1274, 1468, 1470, 31, 1479, 1481, 32, 1515, 1517, 41, 1286, 1262, 1263, 1264, 1261, 1287, 1511, 1513, 40] (by decide +kernel)) (in_app im_wsX120 (in_app im_m_in (in_app im_m_openT (in_app im_g_any (in_app im_m_fineX (in_app im_m_isWrongX im_nil)))))))
set_option maxHeartbeats 4000000 in
set_option maxRecDepth 100000 in
theorem m_rule (l : Launch) (dC : Nat → ClassId) (dI : Nat → Nat → Nat) (ad av : Nat → Nat) (sz : Nat) (a : Nat → Nat) (k : Nat → ClassId) (τ ln : Nat → Nat) (y : Nat → Nat → Int32) (g : Nat → Nat → Option Nat) (u : Nat → Int) (p0 : Int32) (p1 : Int32) (hI : IM a u τ y) (hW : IW (u 1) (u 2) (u 9) (y (a 89))) : Met l yX12_rule wm_m_rule ({ frames := 384, cells := 0, slots := 0, locals := 25160 }) (pw_ ad av (dC, dI) sz [.ref (a 50), .int p0, .int p1] a k τ ln y g) (va_Qi (fun (r u : Int32) => u = r) (fun (r : Int32) (t : State) => (∃ (u' : Nat → Int) (y' : Nat → Nat → Int32) (g' : Nat → Nat → Option Nat), (∀ i, i ∉ ([4, 6] : List Nat) → u' i = u i) ∧ ag τ [60, 81, 82, 83, 84] y y' ∧ agg τ g g' ∧ IM a u' τ y' ∧ tw (dC, dI) a k τ ln y' g' t.heap)) (fr τ sz)) 0 0 (fr τ sz) := by
  refine Met.ofW (cc := cX12_rule) (maxL := 5) (ret := (some .int)) (by decide) rfl ?_
  intro p e s m args below meth c s₁ B hml hv
  obtain ⟨rfl, hsz, hT, hK, hM⟩ := hv
  have hx := B.exec
  have hb := B.bytes
  have hr := B.returns
  have hts := atoms_spec (ws := wm_m_rule) B.pre
  have hown : s.vm.findClass RX12 = some m.cls := findClass_of_methodNamed B.named
  have hlocks := B.notSynchronized
  subst hsz
  generalize hAe : fr τ s.heap.size = A at hM ⊢
  have hA : ∀ q : Nat, s.heap.size ≤ q → A q := fun q h => by rw [← hAe]; exact Or.inr h
  have hF : ∀ q, τ q ≠ 0 → A q := fun q h => by rw [← hAe]; exact Or.inl h
  have hS : va_S A s.heap s.heap [] := va_S.rf
  have hX := hI.1
  have hR := im_r hI
  have hG : ag τ [60, 81, 82, 83, 84] y y := ag.rf
  have hGg : agg τ g g := agg.rf
  have hl := lv_entry ([.ref (a 50), .int p0, .int p1]) (n := 5) (Nat.le_of_ble_eq_true rfl)
  rw [lg_entry_eq]
  generalize (lg_sl ([.ref (a 50), .int p0, .int p1]) ++ List.replicate (5 - (lg_sl ([.ref (a 50), .int p0, .int p1])).length) Slot.unset).toArray = ls at hl ⊢
  have hl : lv_has ls 5 [(0, .ref (a 50)), (1, .int p0), (2, .int p1)] := hl
  refine lv_aload_n hx hb dX12_rule_0 rfl (lv_at hl 0 rfl) ?_
  refine lv_iconst (v := 0) hx hb dX12_rule_1 (by decide) ?_
  refine tw_put (D := (dC, dI)) (x := 0) (ty := .int) (C := RX12) (T := TX12) (N := 58) hx hb hts (fun _ hh => (List.mem_cons_of_mem _ (List.mem_append_right _ (List.mem_append_left _ hh)))) tyX12 tyX12_ok nmX12 hown hK hT hF hS (fx_50 hX) (by decide) cl_e60 rfl 37 (by decide) (hts (.fieldLink RX12 139 "TypingPoolModel" "thrown" "I") (List.mem_cons_of_mem _ (List.mem_append_left _ (List.mem_of_getElem? (i := 0) rfl)))) (fun _ h9 => h9) rfl (tyX12_ok 37 (by decide)) rfl rfl (Nat.le_of_ble_eq_true rfl) rfl dX12_rule_2 (fun H locs hT hS => ?_)
  obtain ⟨y_1, hy_1, hT⟩ : ∃ z : Nat → Nat → Int32, z = up2 y (a 50) 37 (0 : Int32) ∧ tw (dC, dI) a k τ ln z g H := ⟨_, rfl, hT⟩
  have hG : ag τ [60, 81, 82, 83, 84] y y_1 := by rw [hy_1]; exact hG.up (fx_50 hX) (by decide)
  have : (y_1 (a 50) 43).toInt = (y (a 50) 43).toInt := by rw [hy_1, up2_e (by decide)]
  have : (y_1 (a 50) 44).toInt = (y (a 50) 44).toInt := by rw [hy_1, up2_e (by decide)]
  have : (y_1 (a 50) 45).toInt = (y (a 50) 45).toInt := by rw [hy_1, up2_e (by decide)]
  have hW : IW (u 1) (u 2) (u 9) (y_1 (a 89)) := by rw [hy_1, up2_o (kd_ne (fx_89 hX) (fx_50 hX) (by decide))]; exact hW
  have hI := hI.put (f := 37) (x := (0 : Int32)) (by decide)
  rw [← hy_1] at hI
  refine lv_aload_n hx hb dX12_rule_5 rfl (lv_at hl 0 rfl) ?_
  refine tw_get (D := (dC, dI)) (v := .int (y_1 (a 50) 34)) (C := RX12) (T := TX12) (N := 58) hx hb hts (fun _ hh => (List.mem_cons_of_mem _ (List.mem_append_right _ (List.mem_append_left _ hh)))) hown hK hT (fx_50 hX) (by decide) cl_e60 rfl 34 (by decide) (hts (.fieldLink RX12 177 "TypingPoolModel" "typed" "I") (List.mem_cons_of_mem _ (List.mem_append_left _ (List.mem_of_getElem? (i := 1) rfl)))) (fun _ h9 => h9) rfl dX12_rule_6 ?_
  have hc_2 := im_6 hI
  refine lv_istore_n (lv' := [(3, .int (y_1 (a 50) 34)), (0, .ref (a 50)), (1, .int p0), (2, .int p1)]) hx hb dX12_rule_9 rfl hl (by decide) rfl (fun ls hl => ?_)
  refine lv_aload_n hx hb dX12_rule_10 rfl (lv_at hl 1 rfl) ?_
  refine lv_iconst (v := 0) hx hb dX12_rule_11 (by decide) ?_
  refine tw_put (D := (dC, dI)) (x := 0) (ty := .int) (C := RX12) (T := TX12) (N := 58) hx hb hts (fun _ hh => (List.mem_cons_of_mem _ (List.mem_append_right _ (List.mem_append_left _ hh)))) tyX12 tyX12_ok nmX12 hown hK hT hF hS (fx_50 hX) (by decide) cl_e60 rfl 34 (by decide) (hts (.fieldLink RX12 177 "TypingPoolModel" "typed" "I") (List.mem_cons_of_mem _ (List.mem_append_left _ (List.mem_of_getElem? (i := 1) rfl)))) (fun _ h9 => h9) rfl (tyX12_ok 34 (by decide)) rfl rfl (Nat.le_of_ble_eq_true rfl) rfl dX12_rule_12 (fun H locs hT hS => ?_)
  obtain ⟨y_3, hy_3, hT⟩ : ∃ z : Nat → Nat → Int32, z = up2 y_1 (a 50) 34 (0 : Int32) ∧ tw (dC, dI) a k τ ln z g H := ⟨_, rfl, hT⟩
  have hG : ag τ [60, 81, 82, 83, 84] y y_3 := by rw [hy_3]; exact hG.up (fx_50 hX) (by decide)
  have : (y_3 (a 50) 43).toInt = (y_1 (a 50) 43).toInt := by rw [hy_3, up2_e (by decide)]
  have : (y_3 (a 50) 44).toInt = (y_1 (a 50) 44).toInt := by rw [hy_3, up2_e (by decide)]
  have : (y_3 (a 50) 45).toInt = (y_1 (a 50) 45).toInt := by rw [hy_3, up2_e (by decide)]
  have hW : IW (u 1) (u 2) (u 9) (y_3 (a 89)) := by rw [hy_3, up2_o (kd_ne (fx_89 hX) (fx_50 hX) (by decide))]; exact hW
  have hp_4 : (0 : Int32).toInt = 0 := (zk (x := 0) 0 rfl)
  have hI := hI.set6 hp_4 (by omega) (by omega)
  rw [← hy_3] at hI
  have hW : IW ((upc u 6 0) 1) ((upc u 6 0) 2) ((upc u 6 0) 9) (y_3 (a 89)) := iw_u hW (by simp [upc]) (by simp [upc]) (by simp [upc])
  refine lv_iload_n hx hb dX12_rule_15 rfl (lv_at hl 2 rfl) ?_
  refine lv_iconst (v := 0) hx hb dX12_rule_16 (by decide) ?_
  refine lv_iconst (v := 3) hx hb dX12_rule_17 (by decide) ?_
  have hFc := tw_free hF hS hA
  have hp_5 : (0 : Int32).toInt = 0 := (zk (x := 0) 0 rfl)
  have hp_6 : (3 : Int32).toInt = 3 := (zk (x := 3) 3 rfl)
  refine va_calli (va_runS (As := [.int p0, .int 0, .int 3]) (rest := []) ⟨hx, hb, hml, hown, hts⟩ (m_in l dC dI ad av H.size a k τ ln y_3 g (upc u 6 0) p0 (0 : Int32) (3 : Int32)  ) (va_cwS 3 hts (gi_3 (List.mem_cons_of_mem _ (List.mem_append_left _ (List.mem_of_getElem? (i := 2) rfl))) (List.mem_cons_of_mem _ (List.mem_append_left _ (List.mem_of_getElem? (i := 3) rfl))) (List.mem_cons_of_mem _ (List.mem_append_left _ (List.mem_of_getElem? (i := 4) rfl))) (fun _ hh => (List.mem_cons_of_mem _ (List.mem_append_right _ (List.mem_append_right _ (List.mem_append_left _ hh))))) gd_m_in) rfl rfl rfl (by decide +kernel) ⟨Nat.le_of_ble_eq_true rfl, Nat.le_of_ble_eq_true rfl⟩) ⟨pw_blind, pw_use hT hK hFc hS hM⟩ rfl rfl hl.1 rfl (lv_room (Nat.le_of_ble_eq_true rfl)) dX12_rule_18 ⟨Nat.le_of_ble_eq_true rfl, Nat.le_of_ble_eq_true rfl⟩) hS (fun q _ h => hFc q h) hFc (fun r0 r_7 t H locs ht hvm hw hB hz1 hk1 hS => ?_)
  refine W.widen (k := 0) (n := 0) (Nat.le_of_ble_eq_true rfl) (Nat.le_of_ble_eq_true rfl) ?_
  clear hvm hz1 hk1
  subst hw
  rcases hB with ⟨hre, hf_8, hf_9, hT⟩ | ⟨hre, hf_10, hT⟩
  · refine lq_top (v := 1) hre ?_
    rw [ht] at hT
    try simp only [hp_5, hp_6] at hf_8 hf_9
    clear hp_5 hp_6
    refine lv_if_eq (tgt := 43) hx hb dX12_rule_21 (by decide) (fun c_11 => absurd c_11 (by decide)) (fun c_11 => ?_)
    refine lv_iload_n hx hb dX12_rule_24 rfl (lv_at hl 3 rfl) ?_
    refine lv_iconst (v := 0) hx hb dX12_rule_25 (by decide) ?_
    refine lv_bipush (v := 9) hx hb dX12_rule_26 (by decide) ?_
    have hFc := tw_free hF hS hA
    have hp_12 : (0 : Int32).toInt = 0 := (zk (x := 0) 0 rfl)
    have hp_13 : (9 : Int32).toInt = 9 := (zk (x := 9) 9 rfl)
    refine va_calli (va_runS (As := [.int p1, .int 0, .int 9]) (rest := []) ⟨hx, hb, hml, hown, hts⟩ (m_in l dC dI ad av H.size a k τ ln y_3 g (upc u 6 0) p1 (0 : Int32) (9 : Int32)  ) (va_cwS 3 hts (gi_3 (List.mem_cons_of_mem _ (List.mem_append_left _ (List.mem_of_getElem? (i := 2) rfl))) (List.mem_cons_of_mem _ (List.mem_append_left _ (List.mem_of_getElem? (i := 3) rfl))) (List.mem_cons_of_mem _ (List.mem_append_left _ (List.mem_of_getElem? (i := 4) rfl))) (fun _ hh => (List.mem_cons_of_mem _ (List.mem_append_right _ (List.mem_append_right _ (List.mem_append_left _ hh))))) gd_m_in) rfl rfl rfl (by decide +kernel) ⟨Nat.le_of_ble_eq_true rfl, Nat.le_of_ble_eq_true rfl⟩) ⟨pw_blind, pw_use hT hK hFc hS hM⟩ rfl rfl hl.1 rfl (lv_room (Nat.le_of_ble_eq_true rfl)) dX12_rule_28 ⟨Nat.le_of_ble_eq_true rfl, Nat.le_of_ble_eq_true rfl⟩) hS (fun q _ h => hFc q h) hFc (fun r0 r_14 t H locs ht hvm hw hB hz1 hk1 hS => ?_)
    refine W.widen (k := 0) (n := 0) (Nat.le_of_ble_eq_true rfl) (Nat.le_of_ble_eq_true rfl) ?_
    clear hvm hz1 hk1
    subst hw
    rcases hB with ⟨hre, hf_15, hf_16, hT⟩ | ⟨hre, hf_17, hT⟩
    · refine lq_top (v := 1) hre ?_
      rw [ht] at hT
      try simp only [hp_12, hp_13] at hf_15 hf_16
      clear hp_12 hp_13
      refine lv_if_eq (tgt := 43) hx hb dX12_rule_31 (by decide) (fun c_18 => absurd c_18 (by decide)) (fun c_18 => ?_)
      refine lv_aload_n hx hb dX12_rule_34 rfl (lv_at hl 1 rfl) ?_
      refine tw_get (D := (dC, dI)) (v := .int (y_3 (a 50) 24)) (C := RX12) (T := TX12) (N := 58) hx hb hts (fun _ hh => (List.mem_cons_of_mem _ (List.mem_append_right _ (List.mem_append_left _ hh)))) hown hK hT (fx_50 hX) (by decide) cl_e60 rfl 24 (by decide) (hts (.fieldLink RX12 248 "TypingPoolModel" "rules" "I") (List.mem_cons_of_mem _ (List.mem_append_left _ (List.mem_of_getElem? (i := 5) rfl)))) (fun _ h9 => h9) rfl dX12_rule_35 ?_
      have hc_19 : (y_3 (a 50) 24).toInt = u 4 := by rw [im_4 hI]; simp [upc]
      refine lv_bipush (v := 20) hx hb dX12_rule_38 (by decide) ?_
      refine lv_icmp_ne (tgt := 46) hx hb dX12_rule_40 (by decide) (fun c_20 => ?_) (fun c_20 => ?_)
      · have nc_20 := z_ne hc_19 (zk (x := 20) 20 rfl) c_20
        refine lv_aload_n hx hb dX12_rule_46 rfl (lv_at hl 1 rfl) ?_
        refine lv_aload_n hx hb dX12_rule_47 rfl (lv_at hl 1 rfl) ?_
        refine tw_get (D := (dC, dI)) (v := .ref (a 84)) (C := RX12) (T := TX12) (N := 58) hx hb hts (fun _ hh => (List.mem_cons_of_mem _ (List.mem_append_right _ (List.mem_append_left _ hh)))) hown hK hT (fx_50 hX) (by decide) cl_e60 rfl 33 (by decide) (hts (.fieldLink RX12 101 "TypingPoolModel" "text" "[B") (List.mem_cons_of_mem _ (List.mem_append_left _ (List.mem_of_getElem? (i := 6) rfl)))) (fun _ h9 => h9) rfl dX12_rule_48 ?_
        refine lv_iconst (v := 0) hx hb dX12_rule_51 (by decide) ?_
        refine lv_iload_n hx hb dX12_rule_52 rfl (lv_at hl 0 rfl) ?_
        refine lv_iload_n hx hb dX12_rule_53 rfl (lv_at hl 2 rfl) ?_
        have hFc := tw_free hF hS hA
        have hp_21 : (0 : Int32).toInt = 0 := (zk (x := 0) 0 rfl)
        have hp_22 : (y_1 (a 50) 34).toInt = u 6 := hc_2
        refine va_callv (va_runV (As := [.ref (a 84), .int 0, .int (y_1 (a 50) 34), .int p0]) (rest := []) ⟨hx, hb, hml, hown, hts⟩ (m_openT l dC dI ad av H.size a k τ ln y_3 g (upc u 6 0) (0 : Int32) (y_1 (a 50) 34) p0 hI hW) (cwV 4 hts (gi_4 (List.mem_cons_of_mem _ (List.mem_append_left _ (List.mem_of_getElem? (i := 7) rfl))) (List.mem_cons_of_mem _ (List.mem_append_left _ (List.mem_of_getElem? (i := 8) rfl))) (List.mem_cons_of_mem _ (List.mem_append_left _ (List.mem_of_getElem? (i := 9) rfl))) (List.mem_cons_of_mem _ (List.mem_append_left _ (List.mem_of_getElem? (i := 4) rfl))) (fun _ hh => (List.mem_cons_of_mem _ (List.mem_append_right _ (List.mem_append_right _ (List.mem_append_right _ (List.mem_append_left _ hh)))))) gd_m_openT) rfl rfl rfl (by decide +kernel) ⟨Nat.le_of_ble_eq_true rfl, Nat.le_of_ble_eq_true rfl⟩) ⟨pw_blind, tw_recv hK hT (fx_50 hX) (by decide) cl_e60 rfl, pw_use hT hK hFc hS hM⟩ rfl rfl hl.1 rfl (lv_room (Nat.le_of_ble_eq_true rfl)) dX12_rule_54 ⟨Nat.le_of_ble_eq_true rfl, Nat.le_of_ble_eq_true rfl⟩) hS (fun q _ h => hFc q h) hFc (fun u0 t H locs ht hvm hw hB hz1 hk1 hS => ?_)
        refine W.widen (k := 0) (n := 0) (Nat.le_of_ble_eq_true rfl) (Nat.le_of_ble_eq_true rfl) ?_
        clear hvm hz1 hk1
        obtain ⟨y_24, g_25, hgy_24, hggg_25, hI, hf_26, hf_27, hf_28, hf_29, hf_30, hf_31, hT⟩ := hB
        rw [ht] at hT
        have hG := hG.tr hgy_24 (by decide)
        have hGg := hGg.tr hggg_25
        have hW : IW ((upc u 6 0) 1) ((upc u 6 0) 2) ((upc u 6 0) 9) (y_24 (a 89)) := by rw [hgy_24.at (fx_89 hX) (by decide)]; exact hW
        try simp only [hp_21] at hf_26 hf_27 hf_28 hf_29 hf_30 hf_31
        clear hp_21
        obtain ⟨iw_32, hltw_32, hi_iw_32, hslw_32⟩ := hf_27
        clear hc_19
        refine lv_aload_n hx hb dX12_rule_57 rfl (lv_at hl 1 rfl) ?_
        refine lv_iconst (v := 0) hx hb dX12_rule_58 (by decide) ?_
        have hFc := tw_free hF hS hA
        have hp_33 : (0 : Int32).toInt = 0 := (zk (x := 0) 0 rfl)
        refine va_calli (va_runV (As := [.int 0]) (rest := []) ⟨hx, hb, hml, hown, hts⟩ (m_any l dC dI ad av H.size a k τ ln y_24 g_25 (upc u 6 0) (0 : Int32) (a 84) 100 iw_32 hI (by rw [fx_84 hX]; decide) (by rw [fx_84 hX]; intro f v; exact cl_e94) hf_26 hltw_32 hi_iw_32 hslw_32 (by omega) (by omega) (by omega) (by omega) (by omega) hW) (cwV 1 hts (gi_4 (List.mem_cons_of_mem _ (List.mem_append_left _ (List.mem_of_getElem? (i := 10) rfl))) (List.mem_cons_of_mem _ (List.mem_append_left _ (List.mem_of_getElem? (i := 11) rfl))) (List.mem_cons_of_mem _ (List.mem_append_left _ (List.mem_of_getElem? (i := 12) rfl))) (List.mem_cons_of_mem _ (List.mem_append_left _ (List.mem_of_getElem? (i := 4) rfl))) (fun _ hh => (List.mem_cons_of_mem _ (List.mem_append_right _ (List.mem_append_right _ (List.mem_append_right _ (List.mem_append_right _ (List.mem_append_left _ hh))))))) gd_g_any) rfl rfl rfl (by decide +kernel) ⟨Nat.le_of_ble_eq_true rfl, Nat.le_of_ble_eq_true rfl⟩) ⟨pw_blind, tw_recv hK hT (fx_50 hX) (by decide) cl_e60 rfl, pw_use hT hK hFc hS hM⟩ rfl rfl hl.1 rfl (lv_room (Nat.le_of_ble_eq_true rfl)) dX12_rule_59 ⟨Nat.le_of_ble_eq_true rfl, Nat.le_of_ble_eq_true rfl⟩) hS (fun q _ h => hFc q h) hFc (fun r0 r_34 t H locs ht hvm hw hB hz1 hk1 hS => ?_)
        refine W.widen (k := 0) (n := 0) (Nat.le_of_ble_eq_true rfl) (Nat.le_of_ble_eq_true rfl) ?_
        clear hvm hz1 hk1
        subst hw
        obtain ⟨y_35, hgy_35, hI, hf_36, hf_37, hf_38, hf_39, hT⟩ := hB
        rw [ht] at hT
        have hG := hG.tr hgy_35 (by decide)
        have hW : IW ((upc u 6 0) 1) ((upc u 6 0) 2) ((upc u 6 0) 9) (y_35 (a 89)) := by rw [hgy_35.at (fx_89 hX) (by decide)]; exact hW
        try simp only [hp_33] at hf_36 hf_37 hf_38 hf_39
        clear hp_33
        refine lv_pop hx hb dX12_rule_62 rfl ?_
        refine lv_aload_n hx hb dX12_rule_63 rfl (lv_at hl 1 rfl) ?_
        have hFc := tw_free hF hS hA
        refine va_calli (va_runV (As := []) (rest := []) ⟨hx, hb, hml, hown, hts⟩ (m_fineX l dC dI ad av H.size a k τ ln y_35 g_25 (upc u 6 0)  hI hW) (cwV 0 hts (gi_4 (List.mem_cons_of_mem _ (List.mem_append_left _ (List.mem_of_getElem? (i := 13) rfl))) (List.mem_cons_of_mem _ (List.mem_append_left _ (List.mem_of_getElem? (i := 14) rfl))) (List.mem_cons_of_mem _ (List.mem_append_left _ (List.mem_of_getElem? (i := 15) rfl))) (List.mem_cons_of_mem _ (List.mem_append_left _ (List.mem_of_getElem? (i := 4) rfl))) (fun _ hh => (List.mem_cons_of_mem _ (List.mem_append_right _ (List.mem_append_right _ (List.mem_append_right _ (List.mem_append_right _ (List.mem_append_right _ (List.mem_append_left _ hh)))))))) gd_m_fineX) rfl rfl rfl (by decide +kernel) ⟨Nat.le_of_ble_eq_true rfl, Nat.le_of_ble_eq_true rfl⟩) ⟨pw_blind, tw_recv hK hT (fx_50 hX) (by decide) cl_e60 rfl, pw_use hT hK hFc hS hM⟩ rfl rfl hl.1 rfl (lv_room (Nat.le_of_ble_eq_true rfl)) dX12_rule_64 ⟨Nat.le_of_ble_eq_true rfl, Nat.le_of_ble_eq_true rfl⟩) hS (fun q _ h => hFc q h) hFc (fun r0 r_40 t H locs ht hvm hw hB hz1 hk1 hS => ?_)
        refine W.widen (k := 0) (n := 0) (Nat.le_of_ble_eq_true rfl) (Nat.le_of_ble_eq_true rfl) ?_
        clear hvm hz1 hk1
        subst hw
        rcases hB with ⟨hre, hf_41, hT⟩ | ⟨hre, hf_42, hT⟩
        · refine lq_top (v := 1) hre ?_
          rw [ht] at hT
          refine lv_if_eq (tgt := 83) hx hb dX12_rule_67 (by decide) (fun c_43 => absurd c_43 (by decide)) (fun c_43 => ?_)
          refine lv_aload_n hx hb dX12_rule_70 rfl (lv_at hl 1 rfl) ?_
          refine tw_get (D := (dC, dI)) (v := .int (y_35 (a 50) 45)) (C := RX12) (T := TX12) (N := 58) hx hb hts (fun _ hh => (List.mem_cons_of_mem _ (List.mem_append_right _ (List.mem_append_left _ hh)))) hown hK hT (fx_50 hX) (by decide) cl_e60 rfl 45 (by decide) (hts (.fieldLink RX12 197 "TypingPoolModel" "at" "I") (List.mem_cons_of_mem _ (List.mem_append_left _ (List.mem_of_getElem? (i := 16) rfl)))) (fun _ h9 => h9) rfl dX12_rule_71 ?_
          refine lv_iload_n hx hb dX12_rule_74 rfl (lv_at hl 0 rfl) ?_
          refine lv_icmp_ge (tgt := 83) hx hb dX12_rule_75 (by decide) (fun c_44 => ?_) (fun c_44 => ?_)
          · have nc_44 := z_le hc_2 rfl c_44
            refine lv_aload_n hx hb dX12_rule_83 rfl (lv_at hl 1 rfl) ?_
            have hFc := tw_free hF hS hA
            refine va_calli (va_runV (As := []) (rest := []) ⟨hx, hb, hml, hown, hts⟩ (m_fineX l dC dI ad av H.size a k τ ln y_35 g_25 (upc u 6 0)  hI hW) (cwV 0 hts (gi_4 (List.mem_cons_of_mem _ (List.mem_append_left _ (List.mem_of_getElem? (i := 13) rfl))) (List.mem_cons_of_mem _ (List.mem_append_left _ (List.mem_of_getElem? (i := 14) rfl))) (List.mem_cons_of_mem _ (List.mem_append_left _ (List.mem_of_getElem? (i := 15) rfl))) (List.mem_cons_of_mem _ (List.mem_append_left _ (List.mem_of_getElem? (i := 4) rfl))) (fun _ hh => (List.mem_cons_of_mem _ (List.mem_append_right _ (List.mem_append_right _ (List.mem_append_right _ (List.mem_append_right _ (List.mem_append_right _ (List.mem_append_left _ hh)))))))) gd_m_fineX) rfl rfl rfl (by decide +kernel) ⟨Nat.le_of_ble_eq_true rfl, Nat.le_of_ble_eq_true rfl⟩) ⟨pw_blind, tw_recv hK hT (fx_50 hX) (by decide) cl_e60 rfl, pw_use hT hK hFc hS hM⟩ rfl rfl hl.1 rfl (lv_room (Nat.le_of_ble_eq_true rfl)) dX12_rule_84 ⟨Nat.le_of_ble_eq_true rfl, Nat.le_of_ble_eq_true rfl⟩) hS (fun q _ h => hFc q h) hFc (fun r0 r_45 t H locs ht hvm hw hB hz1 hk1 hS => ?_)
            refine W.widen (k := 0) (n := 0) (Nat.le_of_ble_eq_true rfl) (Nat.le_of_ble_eq_true rfl) ?_
            clear hvm hz1 hk1
            subst hw
            rcases hB with ⟨hre, hf_46, hT⟩ | ⟨hre, hf_47, hT⟩
            · refine lq_top (v := 1) hre ?_
              rw [ht] at hT
              refine lv_if_ne (tgt := 97) hx hb dX12_rule_87 (by decide) (fun c_48 => ?_) (fun c_48 => absurd c_48 (by decide))
              refine lv_iconst (v := 0) hx hb dX12_rule_97 (by decide) ?_
              refine lv_istore (lv' := [(4, .int 0), (3, .int (y_1 (a 50) 34)), (0, .ref (a 50)), (1, .int p0), (2, .int p1)]) hx hb dX12_rule_98 hl (by decide) rfl (fun ls hl => ?_)
              have loop_100 : ∀ (n : Nat) (i4 : Int32) (y_L100 : Nat → Nat → Int32) (g_L100 : Nat → Nat → Option Nat) (H : Heap) (locs : List Loc) (ls : Array Slot), (u 6 - i4.toInt).toNat < n → ag τ [60, 81, 82, 83, 84] y y_L100 → IM a (upc u 6 0) τ y_L100 → agg τ g g_L100 → IW ((upc u 6 0) 1) ((upc u 6 0) 2) ((upc u 6 0) 9) (y_L100 (a 89)) → 0 ≤ i4.toInt → i4.toInt ≤ u 6 → tw (dC, dI) a k τ ln y_L100 g_L100 H → va_S A s.heap H locs → lv_has ls 5 [(0, .ref (a 50)), (1, .int p0), (2, .int p1), (3, .int (y_1 (a 50) 34)), (4, .int i4)] → W p l e (headSpec wm_m_rule ({ frames := 384, cells := 0, slots := 0, locals := 25160 })).room s m ([.ref (a 50), .int p0, .int p1] : List Value).toArray below meth c H locs 0 0 (MQ below (va_Qi (fun (r u : Int32) => u = r) (fun (r : Int32) (t : State) => (∃ (u' : Nat → Int) (y' : Nat → Nat → Int32) (g' : Nat → Nat → Option Nat), (∀ i, i ∉ ([4, 6] : List Nat) → u' i = u i) ∧ ag τ [60, 81, 82, 83, 84] y y' ∧ agg τ g g' ∧ IM a u' τ y' ∧ tw (dC, dI) a k τ ln y' g' t.heap)) A) ([.ref (a 50), .int p0, .int p1] : List Value).toArray s 0 0 A) (F0 m 100 ls []) := by
                intro n
                induction n with
                | zero => intro i4 y_L100 g_L100 H locs ls hlt; exact absurd hlt (Nat.not_lt_zero _)
                | succ n ih_100 =>
                  intro i4 y_L100 g_L100 H locs ls hlt hG hI hGg hW hi100_0 hi100_1 hT hS hl
                  refine lv_iload hx hb dX12_rule_100 (lv_at hl 4 rfl) ?_
                  refine lv_iload_n hx hb dX12_rule_102 rfl (lv_at hl 3 rfl) ?_
                  refine lv_icmp_ge (tgt := 134) hx hb dX12_rule_103 (by decide) (fun c_49 => ?_) (fun c_49 => ?_)
                  · have nc_49 := z_le hc_2 rfl c_49
                    refine lv_aload_n hx hb dX12_rule_134 rfl (lv_at hl 0 rfl) ?_
                    refine tw_get (D := (dC, dI)) (v := .ref (a 72)) (C := RX12) (T := TX12) (N := 58) hx hb hts (fun _ hh => (List.mem_cons_of_mem _ (List.mem_append_right _ (List.mem_append_left _ hh)))) hown hK hT (fx_50 hX) (by decide) cl_e60 rfl 21 (by decide) (hts (.fieldLink RX12 62 "TypingPoolModel" "textSize" "[I") (List.mem_cons_of_mem _ (List.mem_append_left _ (List.mem_of_getElem? (i := 17) rfl)))) (fun _ h9 => h9) rfl dX12_rule_135 ?_
                    refine lv_aload_n hx hb dX12_rule_138 rfl (lv_at hl 0 rfl) ?_
                    refine tw_get (D := (dC, dI)) (v := .int (y_L100 (a 50) 24)) (C := RX12) (T := TX12) (N := 58) hx hb hts (fun _ hh => (List.mem_cons_of_mem _ (List.mem_append_right _ (List.mem_append_left _ hh)))) hown hK hT (fx_50 hX) (by decide) cl_e60 rfl 24 (by decide) (hts (.fieldLink RX12 248 "TypingPoolModel" "rules" "I") (List.mem_cons_of_mem _ (List.mem_append_left _ (List.mem_of_getElem? (i := 5) rfl)))) (fun _ h9 => h9) rfl dX12_rule_139 ?_
                    have hc_50 : (y_L100 (a 50) 24).toInt = u 4 := by rw [im_4 hI]; simp [upc]
                    refine lv_iload_n hx hb dX12_rule_142 rfl (lv_at hl 3 rfl) ?_
                    have hbd_51 : 0 ≤ u 4 ∧ u 4 < 20 := by omega
                    refine tw_iast hx hb hK hT hF hS 0 (fx_72 hX) (by decide) (fun _ => cl_e82) rfl (z_in hc_50 hbd_51.1 hbd_51.2) dX12_rule_143 (fun H locs hT hS => ?_)
                    obtain ⟨y_52, hy_52, hT⟩ : ∃ z : Nat → Nat → Int32, z = up2 y_L100 (a 72) ((y_L100 (a 50) 24).toNatClampNeg) (y_1 (a 50) 34) ∧ tw (dC, dI) a k τ ln z g_L100 H := ⟨_, rfl, hT⟩
                    have hG : ag τ [60, 81, 82, 83, 84] y y_52 := by rw [hy_52]; exact hG.up (fx_72 hX) (by decide)
                    have : (y_52 (a 50) 43).toInt = (y_L100 (a 50) 43).toInt := by rw [hy_52, up2_o (kd_ne (fx_50 hX) (fx_72 hX) (by decide))]
                    have : (y_52 (a 50) 44).toInt = (y_L100 (a 50) 44).toInt := by rw [hy_52, up2_o (kd_ne (fx_50 hX) (fx_72 hX) (by decide))]
                    have : (y_52 (a 50) 45).toInt = (y_L100 (a 50) 45).toInt := by rw [hy_52, up2_o (kd_ne (fx_50 hX) (fx_72 hX) (by decide))]
                    have hW : IW ((upc u 6 0) 1) ((upc u 6 0) 2) ((upc u 6 0) 9) (y_52 (a 89)) := by rw [hy_52, up2_o (kd_ne (fx_89 hX) (fx_72 hX) (by decide))]; exact hW
                    have hIold := hI
                    have hI := hI.o72 (x := (y_1 (a 50) 34)) (i := (y_L100 (a 50) 24)) hc_50
                    rw [← hy_52] at hI
                    have hvb_53 : vb (u 4 + 1) 0 60 (y_52 (a 72)) := by rw [hy_52, up2_q]; exact vb_up (im_a72 (u := (upc u 6 0)) hIold) hc_50 hR.2.2.2.2.1.1 hc_2 (by omega) (by omega)
                    clear hc_50
                    refine lv_aload_n hx hb dX12_rule_144 rfl (lv_at hl 0 rfl) ?_
                    refine tw_get (D := (dC, dI)) (v := .ref (a 73)) (C := RX12) (T := TX12) (N := 58) hx hb hts (fun _ hh => (List.mem_cons_of_mem _ (List.mem_append_right _ (List.mem_append_left _ hh)))) hown hK hT (fx_50 hX) (by decide) cl_e60 rfl 22 (by decide) (hts (.fieldLink RX12 65 "TypingPoolModel" "textKind" "[I") (List.mem_cons_of_mem _ (List.mem_append_left _ (List.mem_of_getElem? (i := 18) rfl)))) (fun _ h9 => h9) rfl dX12_rule_145 ?_
                    refine lv_aload_n hx hb dX12_rule_148 rfl (lv_at hl 0 rfl) ?_
                    refine tw_get (D := (dC, dI)) (v := .int (y_52 (a 50) 24)) (C := RX12) (T := TX12) (N := 58) hx hb hts (fun _ hh => (List.mem_cons_of_mem _ (List.mem_append_right _ (List.mem_append_left _ hh)))) hown hK hT (fx_50 hX) (by decide) cl_e60 rfl 24 (by decide) (hts (.fieldLink RX12 248 "TypingPoolModel" "rules" "I") (List.mem_cons_of_mem _ (List.mem_append_left _ (List.mem_of_getElem? (i := 5) rfl)))) (fun _ h9 => h9) rfl dX12_rule_149 ?_
                    have hc_54 : (y_52 (a 50) 24).toInt = u 4 := by rw [im_4 hI]; simp [upc]
                    refine lv_iload_n hx hb dX12_rule_152 rfl (lv_at hl 1 rfl) ?_
                    refine tw_iast hx hb hK hT hF hS 0 (fx_73 hX) (by decide) (fun _ => cl_e83) rfl (z_in hc_54 hbd_51.1 hbd_51.2) dX12_rule_153 (fun H locs hT hS => ?_)
                    obtain ⟨y_55, hy_55, hT⟩ : ∃ z : Nat → Nat → Int32, z = up2 y_52 (a 73) ((y_52 (a 50) 24).toNatClampNeg) p0 ∧ tw (dC, dI) a k τ ln z g_L100 H := ⟨_, rfl, hT⟩
                    have hG : ag τ [60, 81, 82, 83, 84] y y_55 := by rw [hy_55]; exact hG.up (fx_73 hX) (by decide)
                    have ha_56 : y_55 (a 72) = y_52 (a 72) := (show y_55 (a 72) = y_52 (a 72) from by rw [hy_55]; exact up2_o (kd_ne (fx_72 hX) (fx_73 hX) (by decide))).trans rfl
                    have : (y_55 (a 50) 43).toInt = (y_52 (a 50) 43).toInt := by rw [hy_55, up2_o (kd_ne (fx_50 hX) (fx_73 hX) (by decide))]
                    have : (y_55 (a 50) 44).toInt = (y_52 (a 50) 44).toInt := by rw [hy_55, up2_o (kd_ne (fx_50 hX) (fx_73 hX) (by decide))]
                    have : (y_55 (a 50) 45).toInt = (y_52 (a 50) 45).toInt := by rw [hy_55, up2_o (kd_ne (fx_50 hX) (fx_73 hX) (by decide))]
                    have hW : IW ((upc u 6 0) 1) ((upc u 6 0) 2) ((upc u 6 0) 9) (y_55 (a 89)) := by rw [hy_55, up2_o (kd_ne (fx_89 hX) (fx_73 hX) (by decide))]; exact hW
                    have hI := hI.ag (S := [83]) (y' := y_55) (by rw [hy_55]; exact ag.one (fx_73 hX)) (by decide)
                    clear hc_54
                    refine lv_aload_n hx hb dX12_rule_154 rfl (lv_at hl 0 rfl) ?_
                    refine tw_get (D := (dC, dI)) (v := .ref (a 74)) (C := RX12) (T := TX12) (N := 58) hx hb hts (fun _ hh => (List.mem_cons_of_mem _ (List.mem_append_right _ (List.mem_append_left _ hh)))) hown hK hT (fx_50 hX) (by decide) cl_e60 rfl 23 (by decide) (hts (.fieldLink RX12 68 "TypingPoolModel" "textDay" "[I") (List.mem_cons_of_mem _ (List.mem_append_left _ (List.mem_of_getElem? (i := 19) rfl)))) (fun _ h9 => h9) rfl dX12_rule_155 ?_
                    refine lv_aload_n hx hb dX12_rule_158 rfl (lv_at hl 0 rfl) ?_
                    refine tw_get (D := (dC, dI)) (v := .int (y_55 (a 50) 24)) (C := RX12) (T := TX12) (N := 58) hx hb hts (fun _ hh => (List.mem_cons_of_mem _ (List.mem_append_right _ (List.mem_append_left _ hh)))) hown hK hT (fx_50 hX) (by decide) cl_e60 rfl 24 (by decide) (hts (.fieldLink RX12 248 "TypingPoolModel" "rules" "I") (List.mem_cons_of_mem _ (List.mem_append_left _ (List.mem_of_getElem? (i := 5) rfl)))) (fun _ h9 => h9) rfl dX12_rule_159 ?_
                    have hc_57 : (y_55 (a 50) 24).toInt = u 4 := by rw [im_4 hI]; simp [upc]
                    refine lv_iload_n hx hb dX12_rule_162 rfl (lv_at hl 2 rfl) ?_
                    refine tw_iast hx hb hK hT hF hS 0 (fx_74 hX) (by decide) (fun _ => cl_e84) rfl (z_in hc_57 hbd_51.1 hbd_51.2) dX12_rule_163 (fun H locs hT hS => ?_)
                    obtain ⟨y_58, hy_58, hT⟩ : ∃ z : Nat → Nat → Int32, z = up2 y_55 (a 74) ((y_55 (a 50) 24).toNatClampNeg) p1 ∧ tw (dC, dI) a k τ ln z g_L100 H := ⟨_, rfl, hT⟩
                    have hG : ag τ [60, 81, 82, 83, 84] y y_58 := by rw [hy_58]; exact hG.up (fx_74 hX) (by decide)
                    have ha_59 : y_58 (a 72) = y_52 (a 72) := (show y_58 (a 72) = y_55 (a 72) from by rw [hy_58]; exact up2_o (kd_ne (fx_72 hX) (fx_74 hX) (by decide))).trans ha_56
                    have : (y_58 (a 50) 43).toInt = (y_55 (a 50) 43).toInt := by rw [hy_58, up2_o (kd_ne (fx_50 hX) (fx_74 hX) (by decide))]
                    have : (y_58 (a 50) 44).toInt = (y_55 (a 50) 44).toInt := by rw [hy_58, up2_o (kd_ne (fx_50 hX) (fx_74 hX) (by decide))]
                    have : (y_58 (a 50) 45).toInt = (y_55 (a 50) 45).toInt := by rw [hy_58, up2_o (kd_ne (fx_50 hX) (fx_74 hX) (by decide))]
                    have hW : IW ((upc u 6 0) 1) ((upc u 6 0) 2) ((upc u 6 0) 9) (y_58 (a 89)) := by rw [hy_58, up2_o (kd_ne (fx_89 hX) (fx_74 hX) (by decide))]; exact hW
                    have hI := hI.ag (S := [84]) (y' := y_58) (by rw [hy_58]; exact ag.one (fx_74 hX)) (by decide)
                    clear hc_57
                    refine lv_aload_n hx hb dX12_rule_164 rfl (lv_at hl 0 rfl) ?_
                    refine lv_dup hx hb dX12_rule_165 rfl ?_
                    refine tw_get (D := (dC, dI)) (v := .int (y_58 (a 50) 24)) (C := RX12) (T := TX12) (N := 58) hx hb hts (fun _ hh => (List.mem_cons_of_mem _ (List.mem_append_right _ (List.mem_append_left _ hh)))) hown hK hT (fx_50 hX) (by decide) cl_e60 rfl 24 (by decide) (hts (.fieldLink RX12 248 "TypingPoolModel" "rules" "I") (List.mem_cons_of_mem _ (List.mem_append_left _ (List.mem_of_getElem? (i := 5) rfl)))) (fun _ h9 => h9) rfl dX12_rule_166 ?_
                    have hc_60 : (y_58 (a 50) 24).toInt = u 4 := by rw [im_4 hI]; simp [upc]
                    refine lv_iconst (v := 1) hx hb dX12_rule_169 (by decide) ?_
                    refine lv_iadd hx hb dX12_rule_170 ?_
                    refine lv_topi (fun x_61 ex_61 => ?_)
                    have hx_61 := z_add ex_61 hc_60 (zk (x := 1) 1 rfl) (by omega) (by omega)
                    refine tw_put (D := (dC, dI)) (x := x_61) (ty := .int) (C := RX12) (T := TX12) (N := 58) hx hb hts (fun _ hh => (List.mem_cons_of_mem _ (List.mem_append_right _ (List.mem_append_left _ hh)))) tyX12 tyX12_ok nmX12 hown hK hT hF hS (fx_50 hX) (by decide) cl_e60 rfl 24 (by decide) (hts (.fieldLink RX12 248 "TypingPoolModel" "rules" "I") (List.mem_cons_of_mem _ (List.mem_append_left _ (List.mem_of_getElem? (i := 5) rfl)))) (fun _ h9 => h9) rfl (tyX12_ok 24 (by decide)) rfl rfl (Nat.le_of_ble_eq_true rfl) rfl dX12_rule_171 (fun H locs hT hS => ?_)
                    obtain ⟨y_62, hy_62, hT⟩ : ∃ z : Nat → Nat → Int32, z = up2 y_58 (a 50) 24 x_61 ∧ tw (dC, dI) a k τ ln z g_L100 H := ⟨_, rfl, hT⟩
                    have hG : ag τ [60, 81, 82, 83, 84] y y_62 := by rw [hy_62]; exact hG.up (fx_50 hX) (by decide)
                    have ha_63 : y_62 (a 72) = y_52 (a 72) := (show y_62 (a 72) = y_58 (a 72) from by rw [hy_62]; exact up2_o (kd_ne (fx_72 hX) (fx_50 hX) (by decide))).trans ha_59
                    have : (y_62 (a 50) 43).toInt = (y_58 (a 50) 43).toInt := by rw [hy_62, up2_e (by decide)]
                    have : (y_62 (a 50) 44).toInt = (y_58 (a 50) 44).toInt := by rw [hy_62, up2_e (by decide)]
                    have : (y_62 (a 50) 45).toInt = (y_58 (a 50) 45).toInt := by rw [hy_62, up2_e (by decide)]
                    have hW : IW ((upc u 6 0) 1) ((upc u 6 0) 2) ((upc u 6 0) 9) (y_62 (a 89)) := by rw [hy_62, up2_o (kd_ne (fx_89 hX) (fx_50 hX) (by decide))]; exact hW
                    have hp_64 : x_61.toInt = x_61.toInt := rfl
                    have hI := hI.set4 hp_64 (by omega) (by omega) (show u 4 ≤ _ from by omega) (by rw [show x_61.toInt = u 4 + 1 from by omega]; exact ((ha_59).symm ▸ hvb_53))
                    rw [← hy_62] at hI
                    have hW : IW ((upc (upc u 6 0) 4 x_61.toInt) 1) ((upc (upc u 6 0) 4 x_61.toInt) 2) ((upc (upc u 6 0) 4 x_61.toInt) 9) (y_62 (a 89)) := iw_u hW (by simp [upc]) (by simp [upc]) (by simp [upc])
                    clear hc_60
                    refine lv_aload_n hx hb dX12_rule_174 rfl (lv_at hl 0 rfl) ?_
                    refine tw_get (D := (dC, dI)) (v := .int (y_62 (a 50) 24)) (C := RX12) (T := TX12) (N := 58) hx hb hts (fun _ hh => (List.mem_cons_of_mem _ (List.mem_append_right _ (List.mem_append_left _ hh)))) hown hK hT (fx_50 hX) (by decide) cl_e60 rfl 24 (by decide) (hts (.fieldLink RX12 248 "TypingPoolModel" "rules" "I") (List.mem_cons_of_mem _ (List.mem_append_left _ (List.mem_of_getElem? (i := 5) rfl)))) (fun _ h9 => h9) rfl dX12_rule_175 ?_
                    have hc_65 : (y_62 (a 50) 24).toInt = x_61.toInt := by rw [im_4 hI]; simp [upc]
                    refine lv_iconst (v := 1) hx hb dX12_rule_178 (by decide) ?_
                    refine lv_isub hx hb dX12_rule_179 ?_
                    refine lv_topi (fun x_66 ex_66 => ?_)
                    have hx_66 := z_sub ex_66 hc_65 (zk (x := 1) 1 rfl) (by omega) (by omega)
                    exact W.iret (v := x_66) hx hb hr (fun t ht hW9 => ⟨⟨x_66, x_66, rfl, rfl, ⟨(upc (upc u 6 0) 4 x_61.toInt), y_62, g_L100, (by intro i hi; simp only [List.mem_cons, List.not_mem_nil, or_false, not_or] at hi; rw [upc_o (by omega)]; rw [upc_o (by omega)]), hG, hGg, hI, tw_at ht hT⟩⟩, hS.F ht⟩) hS.2.2 dX12_rule_180
                  · have nc_49 := z_nle hc_2 rfl c_49
                    refine lv_aload_n hx hb dX12_rule_106 rfl (lv_at hl 0 rfl) ?_
                    refine tw_get (D := (dC, dI)) (v := .ref (a 71)) (C := RX12) (T := TX12) (N := 58) hx hb hts (fun _ hh => (List.mem_cons_of_mem _ (List.mem_append_right _ (List.mem_append_left _ hh)))) hown hK hT (fx_50 hX) (by decide) cl_e60 rfl 20 (by decide) (hts (.fieldLink RX12 58 "TypingPoolModel" "texts" "[B") (List.mem_cons_of_mem _ (List.mem_append_left _ (List.mem_of_getElem? (i := 20) rfl)))) (fun _ h9 => h9) rfl dX12_rule_107 ?_
                    refine lv_bipush (v := 60) hx hb dX12_rule_110 (by decide) ?_
                    refine lv_aload_n hx hb dX12_rule_112 rfl (lv_at hl 0 rfl) ?_
                    refine tw_get (D := (dC, dI)) (v := .int (y_L100 (a 50) 24)) (C := RX12) (T := TX12) (N := 58) hx hb hts (fun _ hh => (List.mem_cons_of_mem _ (List.mem_append_right _ (List.mem_append_left _ hh)))) hown hK hT (fx_50 hX) (by decide) cl_e60 rfl 24 (by decide) (hts (.fieldLink RX12 248 "TypingPoolModel" "rules" "I") (List.mem_cons_of_mem _ (List.mem_append_left _ (List.mem_of_getElem? (i := 5) rfl)))) (fun _ h9 => h9) rfl dX12_rule_113 ?_
                    have hc_67 : (y_L100 (a 50) 24).toInt = u 4 := by rw [im_4 hI]; simp [upc]
                    refine lv_imul hx hb dX12_rule_116 ?_
                    refine lv_topi (fun x_68 ex_68 => ?_)
                    have hx_68 := z_mul ex_68 (zk (x := 60) 60 rfl) hc_67 (by omega) (by omega)
                    refine lv_iload hx hb dX12_rule_117 (lv_at hl 4 rfl) ?_
                    refine lv_iadd hx hb dX12_rule_119 ?_
                    refine lv_topi (fun x_69 ex_69 => ?_)
                    have hx_69 := z_add ex_69 rfl rfl (by omega) (by omega)
                    refine lv_aload_n hx hb dX12_rule_120 rfl (lv_at hl 0 rfl) ?_
                    refine tw_get (D := (dC, dI)) (v := .ref (a 84)) (C := RX12) (T := TX12) (N := 58) hx hb hts (fun _ hh => (List.mem_cons_of_mem _ (List.mem_append_right _ (List.mem_append_left _ hh)))) hown hK hT (fx_50 hX) (by decide) cl_e60 rfl 33 (by decide) (hts (.fieldLink RX12 101 "TypingPoolModel" "text" "[B") (List.mem_cons_of_mem _ (List.mem_append_left _ (List.mem_of_getElem? (i := 6) rfl)))) (fun _ h9 => h9) rfl dX12_rule_121 ?_
                    refine lv_iload hx hb dX12_rule_124 (lv_at hl 4 rfl) ?_
                    refine tw_bald hx hb hK hT 2 (fx_84 hX) (by decide) cl_e94 rfl (z_in rfl (by omega) (by omega)) dX12_rule_126 ?_
                    refine tw_bast hx hb hK hT hF hS 2 (fx_71 hX) (by decide) (fun _ => cl_e81) rfl (z_in rfl (by omega) (by omega)) dX12_rule_127 (fun H locs hT hS => ?_)
                    obtain ⟨y_70, hy_70, hT⟩ : ∃ z : Nat → Nat → Int32, z = up2 y_L100 (a 71) x_69.toNatClampNeg (vp_nar .byte (y_L100 (a 84) i4.toNatClampNeg)) ∧ tw (dC, dI) a k τ ln z g_L100 H := ⟨_, rfl, hT⟩
                    have hG : ag τ [60, 81, 82, 83, 84] y y_70 := by rw [hy_70]; exact hG.up (fx_71 hX) (by decide)
                    have : (y_70 (a 50) 43).toInt = (y_L100 (a 50) 43).toInt := by rw [hy_70, up2_o (kd_ne (fx_50 hX) (fx_71 hX) (by decide))]
                    have : (y_70 (a 50) 44).toInt = (y_L100 (a 50) 44).toInt := by rw [hy_70, up2_o (kd_ne (fx_50 hX) (fx_71 hX) (by decide))]
                    have : (y_70 (a 50) 45).toInt = (y_L100 (a 50) 45).toInt := by rw [hy_70, up2_o (kd_ne (fx_50 hX) (fx_71 hX) (by decide))]
                    have hW : IW ((upc u 6 0) 1) ((upc u 6 0) 2) ((upc u 6 0) 9) (y_70 (a 89)) := by rw [hy_70, up2_o (kd_ne (fx_89 hX) (fx_71 hX) (by decide))]; exact hW
                    have hI := hI.ag (S := [81]) (y' := y_70) (by rw [hy_70]; exact ag.one (fx_71 hX)) (by decide)
                    clear hc_67
                    obtain ⟨x_71, ex_71⟩ : ∃ y : Int32, y = i4 + Int32.ofInt 1 := ⟨_, rfl⟩
                    have hx_71 := z_add ex_71 rfl (zk (x := Int32.ofInt 1) 1 rfl) (by omega) (by omega)
                    refine lv_iinc (v := x_71) (lv' := [(4, .int x_71), (0, .ref (a 50)), (1, .int p0), (2, .int p1), (3, .int (y_1 (a 50) 34))]) hx hb dX12_rule_128 hl (k := 4) rfl ex_71.symm (by decide) rfl (fun ls hl => ?_)
                    refine lv_goto (tgt := 100) hx hb dX12_rule_131 (by decide) ?_
                    exact ih_100  x_71 y_70 g_L100 H _ ls (by omega) hG hI hGg hW (by omega) (by omega) hT hS (lv_sub hl [1, 2, 3, 4, 0] rfl)
              have hp_72 : (0 : Int32).toInt = 0 := (zk (x := 0) 0 rfl)
              exact loop_100 _ (0 : Int32) y_35 g_25 H _ ls (Nat.lt_succ_self _) hG hI hGg hW (by omega) (by omega) hT hS (lv_sub hl [2, 3, 4, 1, 0] rfl)
            · refine lq_top (v := 0) hre ?_
              rw [ht] at hT
              refine lv_if_ne (tgt := 97) hx hb dX12_rule_87 (by decide) (fun c_73 => absurd c_73 (by decide)) (fun c_73 => ?_)
              refine lv_iconst (v := (-1)) hx hb dX12_rule_90 (by decide) ?_
              refine lv_aload_n hx hb dX12_rule_91 rfl (lv_at hl 1 rfl) ?_
              refine tw_get (D := (dC, dI)) (v := .int (y_35 (a 50) 46)) (C := RX12) (T := TX12) (N := 58) hx hb hts (fun _ hh => (List.mem_cons_of_mem _ (List.mem_append_right _ (List.mem_append_left _ hh)))) hown hK hT (fx_50 hX) (by decide) cl_e60 rfl 46 (by decide) (hts (.fieldLink RX12 200 "TypingPoolModel" "wrong" "I") (List.mem_cons_of_mem _ (List.mem_append_left _ (List.mem_of_getElem? (i := 21) rfl)))) (fun _ h9 => h9) rfl dX12_rule_92 ?_
              refine lv_isub hx hb dX12_rule_95 ?_
              refine lv_topi (fun x_74 ex_74 => ?_)
              exact W.iret (v := x_74) hx hb hr (fun t ht hW9 => ⟨⟨x_74, x_74, rfl, rfl, ⟨(upc u 6 0), y_35, g_25, (by intro i hi; simp only [List.mem_cons, List.not_mem_nil, or_false, not_or] at hi; rw [upc_o (by omega)]), hG, hGg, hI, tw_at ht hT⟩⟩, hS.F ht⟩) hS.2.2 dX12_rule_96
          · have nc_44 := z_nle hc_2 rfl c_44
            refine lv_aload_n hx hb dX12_rule_78 rfl (lv_at hl 1 rfl) ?_
            have hFc := tw_free hF hS hA
            refine va_calli (va_runV (As := []) (rest := []) ⟨hx, hb, hml, hown, hts⟩ (m_isWrongX l dC dI ad av H.size a k τ ln y_35 g_25 (upc u 6 0)  hI (by omega) hW) (cwV 0 hts (gi_4 (List.mem_cons_of_mem _ (List.mem_append_left _ (List.mem_of_getElem? (i := 22) rfl))) (List.mem_cons_of_mem _ (List.mem_append_left _ (List.mem_of_getElem? (i := 23) rfl))) (List.mem_cons_of_mem _ (List.mem_append_left _ (List.mem_of_getElem? (i := 24) rfl))) (List.mem_cons_of_mem _ (List.mem_append_left _ (List.mem_of_getElem? (i := 4) rfl))) (fun _ hh => (List.mem_cons_of_mem _ (List.mem_append_right _ (List.mem_append_right _ (List.mem_append_right _ (List.mem_append_right _ (List.mem_append_right _ (List.mem_append_right _ (List.mem_append_left _ hh))))))))) gd_m_isWrongX) rfl rfl rfl (by decide +kernel) ⟨Nat.le_of_ble_eq_true rfl, Nat.le_of_ble_eq_true rfl⟩) ⟨pw_blind, tw_recv hK hT (fx_50 hX) (by decide) cl_e60 rfl, pw_use hT hK hFc hS hM⟩ rfl rfl hl.1 rfl (lv_room (Nat.le_of_ble_eq_true rfl)) dX12_rule_79 ⟨Nat.le_of_ble_eq_true rfl, Nat.le_of_ble_eq_true rfl⟩) hS (fun q _ h => hFc q h) hFc (fun r0 r_75 t H locs ht hvm hw hB hz1 hk1 hS => ?_)
            refine W.widen (k := 0) (n := 0) (Nat.le_of_ble_eq_true rfl) (Nat.le_of_ble_eq_true rfl) ?_
            clear hvm hz1 hk1
            subst hw
            obtain ⟨y_76, hgy_76, hI, hf_77, hf_78, hT⟩ := hB
            rw [ht] at hT
            have hG := hG.tr hgy_76 (by decide)
            have hW : IW ((upc u 6 0) 1) ((upc u 6 0) 2) ((upc u 6 0) 9) (y_76 (a 89)) := by rw [hgy_76.at (fx_89 hX) (by decide)]; exact hW
            refine lv_pop hx hb dX12_rule_82 rfl ?_
            refine lv_aload_n hx hb dX12_rule_83 rfl (lv_at hl 1 rfl) ?_
            have hFc := tw_free hF hS hA
            refine va_calli (va_runV (As := []) (rest := []) ⟨hx, hb, hml, hown, hts⟩ (m_fineX l dC dI ad av H.size a k τ ln y_76 g_25 (upc u 6 0)  hI hW) (cwV 0 hts (gi_4 (List.mem_cons_of_mem _ (List.mem_append_left _ (List.mem_of_getElem? (i := 13) rfl))) (List.mem_cons_of_mem _ (List.mem_append_left _ (List.mem_of_getElem? (i := 14) rfl))) (List.mem_cons_of_mem _ (List.mem_append_left _ (List.mem_of_getElem? (i := 15) rfl))) (List.mem_cons_of_mem _ (List.mem_append_left _ (List.mem_of_getElem? (i := 4) rfl))) (fun _ hh => (List.mem_cons_of_mem _ (List.mem_append_right _ (List.mem_append_right _ (List.mem_append_right _ (List.mem_append_right _ (List.mem_append_right _ (List.mem_append_left _ hh)))))))) gd_m_fineX) rfl rfl rfl (by decide +kernel) ⟨Nat.le_of_ble_eq_true rfl, Nat.le_of_ble_eq_true rfl⟩) ⟨pw_blind, tw_recv hK hT (fx_50 hX) (by decide) cl_e60 rfl, pw_use hT hK hFc hS hM⟩ rfl rfl hl.1 rfl (lv_room (Nat.le_of_ble_eq_true rfl)) dX12_rule_84 ⟨Nat.le_of_ble_eq_true rfl, Nat.le_of_ble_eq_true rfl⟩) hS (fun q _ h => hFc q h) hFc (fun r0 r_79 t H locs ht hvm hw hB hz1 hk1 hS => ?_)
            refine W.widen (k := 0) (n := 0) (Nat.le_of_ble_eq_true rfl) (Nat.le_of_ble_eq_true rfl) ?_
            clear hvm hz1 hk1
            subst hw
            rcases hB with ⟨hre, hf_80, hT⟩ | ⟨hre, hf_81, hT⟩
            · refine lq_top (v := 1) hre ?_
              rw [ht] at hT
              refine lv_if_ne (tgt := 97) hx hb dX12_rule_87 (by decide) (fun c_82 => ?_) (fun c_82 => absurd c_82 (by decide))
              refine lv_iconst (v := 0) hx hb dX12_rule_97 (by decide) ?_
              refine lv_istore (lv' := [(4, .int 0), (3, .int (y_1 (a 50) 34)), (0, .ref (a 50)), (1, .int p0), (2, .int p1)]) hx hb dX12_rule_98 hl (by decide) rfl (fun ls hl => ?_)
              have loop_100 : ∀ (n : Nat) (i4 : Int32) (y_L100 : Nat → Nat → Int32) (g_L100 : Nat → Nat → Option Nat) (H : Heap) (locs : List Loc) (ls : Array Slot), (u 6 - i4.toInt).toNat < n → ag τ [60, 81, 82, 83, 84] y y_L100 → IM a (upc u 6 0) τ y_L100 → agg τ g g_L100 → IW ((upc u 6 0) 1) ((upc u 6 0) 2) ((upc u 6 0) 9) (y_L100 (a 89)) → 0 ≤ i4.toInt → i4.toInt ≤ u 6 → tw (dC, dI) a k τ ln y_L100 g_L100 H → va_S A s.heap H locs → lv_has ls 5 [(0, .ref (a 50)), (1, .int p0), (2, .int p1), (3, .int (y_1 (a 50) 34)), (4, .int i4)] → W p l e (headSpec wm_m_rule ({ frames := 384, cells := 0, slots := 0, locals := 25160 })).room s m ([.ref (a 50), .int p0, .int p1] : List Value).toArray below meth c H locs 0 0 (MQ below (va_Qi (fun (r u : Int32) => u = r) (fun (r : Int32) (t : State) => (∃ (u' : Nat → Int) (y' : Nat → Nat → Int32) (g' : Nat → Nat → Option Nat), (∀ i, i ∉ ([4, 6] : List Nat) → u' i = u i) ∧ ag τ [60, 81, 82, 83, 84] y y' ∧ agg τ g g' ∧ IM a u' τ y' ∧ tw (dC, dI) a k τ ln y' g' t.heap)) A) ([.ref (a 50), .int p0, .int p1] : List Value).toArray s 0 0 A) (F0 m 100 ls []) := by
                intro n
                induction n with
                | zero => intro i4 y_L100 g_L100 H locs ls hlt; exact absurd hlt (Nat.not_lt_zero _)
                | succ n ih_100 =>
                  intro i4 y_L100 g_L100 H locs ls hlt hG hI hGg hW hi100_0 hi100_1 hT hS hl
                  refine lv_iload hx hb dX12_rule_100 (lv_at hl 4 rfl) ?_
                  refine lv_iload_n hx hb dX12_rule_102 rfl (lv_at hl 3 rfl) ?_
                  refine lv_icmp_ge (tgt := 134) hx hb dX12_rule_103 (by decide) (fun c_83 => ?_) (fun c_83 => ?_)
                  · have nc_83 := z_le hc_2 rfl c_83
                    refine lv_aload_n hx hb dX12_rule_134 rfl (lv_at hl 0 rfl) ?_
                    refine tw_get (D := (dC, dI)) (v := .ref (a 72)) (C := RX12) (T := TX12) (N := 58) hx hb hts (fun _ hh => (List.mem_cons_of_mem _ (List.mem_append_right _ (List.mem_append_left _ hh)))) hown hK hT (fx_50 hX) (by decide) cl_e60 rfl 21 (by decide) (hts (.fieldLink RX12 62 "TypingPoolModel" "textSize" "[I") (List.mem_cons_of_mem _ (List.mem_append_left _ (List.mem_of_getElem? (i := 17) rfl)))) (fun _ h9 => h9) rfl dX12_rule_135 ?_
                    refine lv_aload_n hx hb dX12_rule_138 rfl (lv_at hl 0 rfl) ?_
                    refine tw_get (D := (dC, dI)) (v := .int (y_L100 (a 50) 24)) (C := RX12) (T := TX12) (N := 58) hx hb hts (fun _ hh => (List.mem_cons_of_mem _ (List.mem_append_right _ (List.mem_append_left _ hh)))) hown hK hT (fx_50 hX) (by decide) cl_e60 rfl 24 (by decide) (hts (.fieldLink RX12 248 "TypingPoolModel" "rules" "I") (List.mem_cons_of_mem _ (List.mem_append_left _ (List.mem_of_getElem? (i := 5) rfl)))) (fun _ h9 => h9) rfl dX12_rule_139 ?_
                    have hc_84 : (y_L100 (a 50) 24).toInt = u 4 := by rw [im_4 hI]; simp [upc]
                    refine lv_iload_n hx hb dX12_rule_142 rfl (lv_at hl 3 rfl) ?_
                    have hbd_85 : 0 ≤ u 4 ∧ u 4 < 20 := by omega
                    refine tw_iast hx hb hK hT hF hS 0 (fx_72 hX) (by decide) (fun _ => cl_e82) rfl (z_in hc_84 hbd_85.1 hbd_85.2) dX12_rule_143 (fun H locs hT hS => ?_)
                    obtain ⟨y_86, hy_86, hT⟩ : ∃ z : Nat → Nat → Int32, z = up2 y_L100 (a 72) ((y_L100 (a 50) 24).toNatClampNeg) (y_1 (a 50) 34) ∧ tw (dC, dI) a k τ ln z g_L100 H := ⟨_, rfl, hT⟩
                    have hG : ag τ [60, 81, 82, 83, 84] y y_86 := by rw [hy_86]; exact hG.up (fx_72 hX) (by decide)
                    have : (y_86 (a 50) 43).toInt = (y_L100 (a 50) 43).toInt := by rw [hy_86, up2_o (kd_ne (fx_50 hX) (fx_72 hX) (by decide))]
                    have : (y_86 (a 50) 44).toInt = (y_L100 (a 50) 44).toInt := by rw [hy_86, up2_o (kd_ne (fx_50 hX) (fx_72 hX) (by decide))]
                    have : (y_86 (a 50) 45).toInt = (y_L100 (a 50) 45).toInt := by rw [hy_86, up2_o (kd_ne (fx_50 hX) (fx_72 hX) (by decide))]
                    have hW : IW ((upc u 6 0) 1) ((upc u 6 0) 2) ((upc u 6 0) 9) (y_86 (a 89)) := by rw [hy_86, up2_o (kd_ne (fx_89 hX) (fx_72 hX) (by decide))]; exact hW
                    have hIold := hI
                    have hI := hI.o72 (x := (y_1 (a 50) 34)) (i := (y_L100 (a 50) 24)) hc_84
                    rw [← hy_86] at hI
                    have hvb_87 : vb (u 4 + 1) 0 60 (y_86 (a 72)) := by rw [hy_86, up2_q]; exact vb_up (im_a72 (u := (upc u 6 0)) hIold) hc_84 hR.2.2.2.2.1.1 hc_2 (by omega) (by omega)
                    clear hc_84
                    refine lv_aload_n hx hb dX12_rule_144 rfl (lv_at hl 0 rfl) ?_
                    refine tw_get (D := (dC, dI)) (v := .ref (a 73)) (C := RX12) (T := TX12) (N := 58) hx hb hts (fun _ hh => (List.mem_cons_of_mem _ (List.mem_append_right _ (List.mem_append_left _ hh)))) hown hK hT (fx_50 hX) (by decide) cl_e60 rfl 22 (by decide) (hts (.fieldLink RX12 65 "TypingPoolModel" "textKind" "[I") (List.mem_cons_of_mem _ (List.mem_append_left _ (List.mem_of_getElem? (i := 18) rfl)))) (fun _ h9 => h9) rfl dX12_rule_145 ?_
                    refine lv_aload_n hx hb dX12_rule_148 rfl (lv_at hl 0 rfl) ?_
                    refine tw_get (D := (dC, dI)) (v := .int (y_86 (a 50) 24)) (C := RX12) (T := TX12) (N := 58) hx hb hts (fun _ hh => (List.mem_cons_of_mem _ (List.mem_append_right _ (List.mem_append_left _ hh)))) hown hK hT (fx_50 hX) (by decide) cl_e60 rfl 24 (by decide) (hts (.fieldLink RX12 248 "TypingPoolModel" "rules" "I") (List.mem_cons_of_mem _ (List.mem_append_left _ (List.mem_of_getElem? (i := 5) rfl)))) (fun _ h9 => h9) rfl dX12_rule_149 ?_
                    have hc_88 : (y_86 (a 50) 24).toInt = u 4 := by rw [im_4 hI]; simp [upc]
                    refine lv_iload_n hx hb dX12_rule_152 rfl (lv_at hl 1 rfl) ?_
                    refine tw_iast hx hb hK hT hF hS 0 (fx_73 hX) (by decide) (fun _ => cl_e83) rfl (z_in hc_88 hbd_85.1 hbd_85.2) dX12_rule_153 (fun H locs hT hS => ?_)
                    obtain ⟨y_89, hy_89, hT⟩ : ∃ z : Nat → Nat → Int32, z = up2 y_86 (a 73) ((y_86 (a 50) 24).toNatClampNeg) p0 ∧ tw (dC, dI) a k τ ln z g_L100 H := ⟨_, rfl, hT⟩
                    have hG : ag τ [60, 81, 82, 83, 84] y y_89 := by rw [hy_89]; exact hG.up (fx_73 hX) (by decide)
                    have ha_90 : y_89 (a 72) = y_86 (a 72) := (show y_89 (a 72) = y_86 (a 72) from by rw [hy_89]; exact up2_o (kd_ne (fx_72 hX) (fx_73 hX) (by decide))).trans rfl
                    have : (y_89 (a 50) 43).toInt = (y_86 (a 50) 43).toInt := by rw [hy_89, up2_o (kd_ne (fx_50 hX) (fx_73 hX) (by decide))]
                    have : (y_89 (a 50) 44).toInt = (y_86 (a 50) 44).toInt := by rw [hy_89, up2_o (kd_ne (fx_50 hX) (fx_73 hX) (by decide))]
                    have : (y_89 (a 50) 45).toInt = (y_86 (a 50) 45).toInt := by rw [hy_89, up2_o (kd_ne (fx_50 hX) (fx_73 hX) (by decide))]
                    have hW : IW ((upc u 6 0) 1) ((upc u 6 0) 2) ((upc u 6 0) 9) (y_89 (a 89)) := by rw [hy_89, up2_o (kd_ne (fx_89 hX) (fx_73 hX) (by decide))]; exact hW
                    have hI := hI.ag (S := [83]) (y' := y_89) (by rw [hy_89]; exact ag.one (fx_73 hX)) (by decide)
                    clear hc_88
                    refine lv_aload_n hx hb dX12_rule_154 rfl (lv_at hl 0 rfl) ?_
                    refine tw_get (D := (dC, dI)) (v := .ref (a 74)) (C := RX12) (T := TX12) (N := 58) hx hb hts (fun _ hh => (List.mem_cons_of_mem _ (List.mem_append_right _ (List.mem_append_left _ hh)))) hown hK hT (fx_50 hX) (by decide) cl_e60 rfl 23 (by decide) (hts (.fieldLink RX12 68 "TypingPoolModel" "textDay" "[I") (List.mem_cons_of_mem _ (List.mem_append_left _ (List.mem_of_getElem? (i := 19) rfl)))) (fun _ h9 => h9) rfl dX12_rule_155 ?_
                    refine lv_aload_n hx hb dX12_rule_158 rfl (lv_at hl 0 rfl) ?_
                    refine tw_get (D := (dC, dI)) (v := .int (y_89 (a 50) 24)) (C := RX12) (T := TX12) (N := 58) hx hb hts (fun _ hh => (List.mem_cons_of_mem _ (List.mem_append_right _ (List.mem_append_left _ hh)))) hown hK hT (fx_50 hX) (by decide) cl_e60 rfl 24 (by decide) (hts (.fieldLink RX12 248 "TypingPoolModel" "rules" "I") (List.mem_cons_of_mem _ (List.mem_append_left _ (List.mem_of_getElem? (i := 5) rfl)))) (fun _ h9 => h9) rfl dX12_rule_159 ?_
                    have hc_91 : (y_89 (a 50) 24).toInt = u 4 := by rw [im_4 hI]; simp [upc]
                    refine lv_iload_n hx hb dX12_rule_162 rfl (lv_at hl 2 rfl) ?_
                    refine tw_iast hx hb hK hT hF hS 0 (fx_74 hX) (by decide) (fun _ => cl_e84) rfl (z_in hc_91 hbd_85.1 hbd_85.2) dX12_rule_163 (fun H locs hT hS => ?_)
                    obtain ⟨y_92, hy_92, hT⟩ : ∃ z : Nat → Nat → Int32, z = up2 y_89 (a 74) ((y_89 (a 50) 24).toNatClampNeg) p1 ∧ tw (dC, dI) a k τ ln z g_L100 H := ⟨_, rfl, hT⟩
                    have hG : ag τ [60, 81, 82, 83, 84] y y_92 := by rw [hy_92]; exact hG.up (fx_74 hX) (by decide)
                    have ha_93 : y_92 (a 72) = y_86 (a 72) := (show y_92 (a 72) = y_89 (a 72) from by rw [hy_92]; exact up2_o (kd_ne (fx_72 hX) (fx_74 hX) (by decide))).trans ha_90
                    have : (y_92 (a 50) 43).toInt = (y_89 (a 50) 43).toInt := by rw [hy_92, up2_o (kd_ne (fx_50 hX) (fx_74 hX) (by decide))]
                    have : (y_92 (a 50) 44).toInt = (y_89 (a 50) 44).toInt := by rw [hy_92, up2_o (kd_ne (fx_50 hX) (fx_74 hX) (by decide))]
                    have : (y_92 (a 50) 45).toInt = (y_89 (a 50) 45).toInt := by rw [hy_92, up2_o (kd_ne (fx_50 hX) (fx_74 hX) (by decide))]
                    have hW : IW ((upc u 6 0) 1) ((upc u 6 0) 2) ((upc u 6 0) 9) (y_92 (a 89)) := by rw [hy_92, up2_o (kd_ne (fx_89 hX) (fx_74 hX) (by decide))]; exact hW
                    have hI := hI.ag (S := [84]) (y' := y_92) (by rw [hy_92]; exact ag.one (fx_74 hX)) (by decide)
                    clear hc_91
                    refine lv_aload_n hx hb dX12_rule_164 rfl (lv_at hl 0 rfl) ?_
                    refine lv_dup hx hb dX12_rule_165 rfl ?_
                    refine tw_get (D := (dC, dI)) (v := .int (y_92 (a 50) 24)) (C := RX12) (T := TX12) (N := 58) hx hb hts (fun _ hh => (List.mem_cons_of_mem _ (List.mem_append_right _ (List.mem_append_left _ hh)))) hown hK hT (fx_50 hX) (by decide) cl_e60 rfl 24 (by decide) (hts (.fieldLink RX12 248 "TypingPoolModel" "rules" "I") (List.mem_cons_of_mem _ (List.mem_append_left _ (List.mem_of_getElem? (i := 5) rfl)))) (fun _ h9 => h9) rfl dX12_rule_166 ?_
                    have hc_94 : (y_92 (a 50) 24).toInt = u 4 := by rw [im_4 hI]; simp [upc]
                    refine lv_iconst (v := 1) hx hb dX12_rule_169 (by decide) ?_
                    refine lv_iadd hx hb dX12_rule_170 ?_
                    refine lv_topi (fun x_95 ex_95 => ?_)
                    have hx_95 := z_add ex_95 hc_94 (zk (x := 1) 1 rfl) (by omega) (by omega)
                    refine tw_put (D := (dC, dI)) (x := x_95) (ty := .int) (C := RX12) (T := TX12) (N := 58) hx hb hts (fun _ hh => (List.mem_cons_of_mem _ (List.mem_append_right _ (List.mem_append_left _ hh)))) tyX12 tyX12_ok nmX12 hown hK hT hF hS (fx_50 hX) (by decide) cl_e60 rfl 24 (by decide) (hts (.fieldLink RX12 248 "TypingPoolModel" "rules" "I") (List.mem_cons_of_mem _ (List.mem_append_left _ (List.mem_of_getElem? (i := 5) rfl)))) (fun _ h9 => h9) rfl (tyX12_ok 24 (by decide)) rfl rfl (Nat.le_of_ble_eq_true rfl) rfl dX12_rule_171 (fun H locs hT hS => ?_)
                    obtain ⟨y_96, hy_96, hT⟩ : ∃ z : Nat → Nat → Int32, z = up2 y_92 (a 50) 24 x_95 ∧ tw (dC, dI) a k τ ln z g_L100 H := ⟨_, rfl, hT⟩
                    have hG : ag τ [60, 81, 82, 83, 84] y y_96 := by rw [hy_96]; exact hG.up (fx_50 hX) (by decide)
                    have ha_97 : y_96 (a 72) = y_86 (a 72) := (show y_96 (a 72) = y_92 (a 72) from by rw [hy_96]; exact up2_o (kd_ne (fx_72 hX) (fx_50 hX) (by decide))).trans ha_93
                    have : (y_96 (a 50) 43).toInt = (y_92 (a 50) 43).toInt := by rw [hy_96, up2_e (by decide)]
                    have : (y_96 (a 50) 44).toInt = (y_92 (a 50) 44).toInt := by rw [hy_96, up2_e (by decide)]
                    have : (y_96 (a 50) 45).toInt = (y_92 (a 50) 45).toInt := by rw [hy_96, up2_e (by decide)]
                    have hW : IW ((upc u 6 0) 1) ((upc u 6 0) 2) ((upc u 6 0) 9) (y_96 (a 89)) := by rw [hy_96, up2_o (kd_ne (fx_89 hX) (fx_50 hX) (by decide))]; exact hW
                    have hp_98 : x_95.toInt = x_95.toInt := rfl
                    have hI := hI.set4 hp_98 (by omega) (by omega) (show u 4 ≤ _ from by omega) (by rw [show x_95.toInt = u 4 + 1 from by omega]; exact ((ha_93).symm ▸ hvb_87))
                    rw [← hy_96] at hI
                    have hW : IW ((upc (upc u 6 0) 4 x_95.toInt) 1) ((upc (upc u 6 0) 4 x_95.toInt) 2) ((upc (upc u 6 0) 4 x_95.toInt) 9) (y_96 (a 89)) := iw_u hW (by simp [upc]) (by simp [upc]) (by simp [upc])
                    clear hc_94
                    refine lv_aload_n hx hb dX12_rule_174 rfl (lv_at hl 0 rfl) ?_
                    refine tw_get (D := (dC, dI)) (v := .int (y_96 (a 50) 24)) (C := RX12) (T := TX12) (N := 58) hx hb hts (fun _ hh => (List.mem_cons_of_mem _ (List.mem_append_right _ (List.mem_append_left _ hh)))) hown hK hT (fx_50 hX) (by decide) cl_e60 rfl 24 (by decide) (hts (.fieldLink RX12 248 "TypingPoolModel" "rules" "I") (List.mem_cons_of_mem _ (List.mem_append_left _ (List.mem_of_getElem? (i := 5) rfl)))) (fun _ h9 => h9) rfl dX12_rule_175 ?_
                    have hc_99 : (y_96 (a 50) 24).toInt = x_95.toInt := by rw [im_4 hI]; simp [upc]
                    refine lv_iconst (v := 1) hx hb dX12_rule_178 (by decide) ?_
                    refine lv_isub hx hb dX12_rule_179 ?_
                    refine lv_topi (fun x_100 ex_100 => ?_)
                    have hx_100 := z_sub ex_100 hc_99 (zk (x := 1) 1 rfl) (by omega) (by omega)
                    exact W.iret (v := x_100) hx hb hr (fun t ht hW9 => ⟨⟨x_100, x_100, rfl, rfl, ⟨(upc (upc u 6 0) 4 x_95.toInt), y_96, g_L100, (by intro i hi; simp only [List.mem_cons, List.not_mem_nil, or_false, not_or] at hi; rw [upc_o (by omega)]; rw [upc_o (by omega)]), hG, hGg, hI, tw_at ht hT⟩⟩, hS.F ht⟩) hS.2.2 dX12_rule_180
                  · have nc_83 := z_nle hc_2 rfl c_83
                    refine lv_aload_n hx hb dX12_rule_106 rfl (lv_at hl 0 rfl) ?_
                    refine tw_get (D := (dC, dI)) (v := .ref (a 71)) (C := RX12) (T := TX12) (N := 58) hx hb hts (fun _ hh => (List.mem_cons_of_mem _ (List.mem_append_right _ (List.mem_append_left _ hh)))) hown hK hT (fx_50 hX) (by decide) cl_e60 rfl 20 (by decide) (hts (.fieldLink RX12 58 "TypingPoolModel" "texts" "[B") (List.mem_cons_of_mem _ (List.mem_append_left _ (List.mem_of_getElem? (i := 20) rfl)))) (fun _ h9 => h9) rfl dX12_rule_107 ?_
                    refine lv_bipush (v := 60) hx hb dX12_rule_110 (by decide) ?_
                    refine lv_aload_n hx hb dX12_rule_112 rfl (lv_at hl 0 rfl) ?_
                    refine tw_get (D := (dC, dI)) (v := .int (y_L100 (a 50) 24)) (C := RX12) (T := TX12) (N := 58) hx hb hts (fun _ hh => (List.mem_cons_of_mem _ (List.mem_append_right _ (List.mem_append_left _ hh)))) hown hK hT (fx_50 hX) (by decide) cl_e60 rfl 24 (by decide) (hts (.fieldLink RX12 248 "TypingPoolModel" "rules" "I") (List.mem_cons_of_mem _ (List.mem_append_left _ (List.mem_of_getElem? (i := 5) rfl)))) (fun _ h9 => h9) rfl dX12_rule_113 ?_
                    have hc_101 : (y_L100 (a 50) 24).toInt = u 4 := by rw [im_4 hI]; simp [upc]
                    refine lv_imul hx hb dX12_rule_116 ?_
                    refine lv_topi (fun x_102 ex_102 => ?_)
                    have hx_102 := z_mul ex_102 (zk (x := 60) 60 rfl) hc_101 (by omega) (by omega)
                    refine lv_iload hx hb dX12_rule_117 (lv_at hl 4 rfl) ?_
                    refine lv_iadd hx hb dX12_rule_119 ?_
                    refine lv_topi (fun x_103 ex_103 => ?_)
                    have hx_103 := z_add ex_103 rfl rfl (by omega) (by omega)
                    refine lv_aload_n hx hb dX12_rule_120 rfl (lv_at hl 0 rfl) ?_
                    refine tw_get (D := (dC, dI)) (v := .ref (a 84)) (C := RX12) (T := TX12) (N := 58) hx hb hts (fun _ hh => (List.mem_cons_of_mem _ (List.mem_append_right _ (List.mem_append_left _ hh)))) hown hK hT (fx_50 hX) (by decide) cl_e60 rfl 33 (by decide) (hts (.fieldLink RX12 101 "TypingPoolModel" "text" "[B") (List.mem_cons_of_mem _ (List.mem_append_left _ (List.mem_of_getElem? (i := 6) rfl)))) (fun _ h9 => h9) rfl dX12_rule_121 ?_
                    refine lv_iload hx hb dX12_rule_124 (lv_at hl 4 rfl) ?_
                    refine tw_bald hx hb hK hT 2 (fx_84 hX) (by decide) cl_e94 rfl (z_in rfl (by omega) (by omega)) dX12_rule_126 ?_
                    refine tw_bast hx hb hK hT hF hS 2 (fx_71 hX) (by decide) (fun _ => cl_e81) rfl (z_in rfl (by omega) (by omega)) dX12_rule_127 (fun H locs hT hS => ?_)
                    obtain ⟨y_104, hy_104, hT⟩ : ∃ z : Nat → Nat → Int32, z = up2 y_L100 (a 71) x_103.toNatClampNeg (vp_nar .byte (y_L100 (a 84) i4.toNatClampNeg)) ∧ tw (dC, dI) a k τ ln z g_L100 H := ⟨_, rfl, hT⟩
                    have hG : ag τ [60, 81, 82, 83, 84] y y_104 := by rw [hy_104]; exact hG.up (fx_71 hX) (by decide)
                    have : (y_104 (a 50) 43).toInt = (y_L100 (a 50) 43).toInt := by rw [hy_104, up2_o (kd_ne (fx_50 hX) (fx_71 hX) (by decide))]
                    have : (y_104 (a 50) 44).toInt = (y_L100 (a 50) 44).toInt := by rw [hy_104, up2_o (kd_ne (fx_50 hX) (fx_71 hX) (by decide))]
                    have : (y_104 (a 50) 45).toInt = (y_L100 (a 50) 45).toInt := by rw [hy_104, up2_o (kd_ne (fx_50 hX) (fx_71 hX) (by decide))]
                    have hW : IW ((upc u 6 0) 1) ((upc u 6 0) 2) ((upc u 6 0) 9) (y_104 (a 89)) := by rw [hy_104, up2_o (kd_ne (fx_89 hX) (fx_71 hX) (by decide))]; exact hW
                    have hI := hI.ag (S := [81]) (y' := y_104) (by rw [hy_104]; exact ag.one (fx_71 hX)) (by decide)
                    clear hc_101
                    obtain ⟨x_105, ex_105⟩ : ∃ y : Int32, y = i4 + Int32.ofInt 1 := ⟨_, rfl⟩
                    have hx_105 := z_add ex_105 rfl (zk (x := Int32.ofInt 1) 1 rfl) (by omega) (by omega)
                    refine lv_iinc (v := x_105) (lv' := [(4, .int x_105), (0, .ref (a 50)), (1, .int p0), (2, .int p1), (3, .int (y_1 (a 50) 34))]) hx hb dX12_rule_128 hl (k := 4) rfl ex_105.symm (by decide) rfl (fun ls hl => ?_)
                    refine lv_goto (tgt := 100) hx hb dX12_rule_131 (by decide) ?_
                    exact ih_100  x_105 y_104 g_L100 H _ ls (by omega) hG hI hGg hW (by omega) (by omega) hT hS (lv_sub hl [1, 2, 3, 4, 0] rfl)
              have hp_106 : (0 : Int32).toInt = 0 := (zk (x := 0) 0 rfl)
              exact loop_100 _ (0 : Int32) y_76 g_25 H _ ls (Nat.lt_succ_self _) hG hI hGg hW (by omega) (by omega) hT hS (lv_sub hl [2, 3, 4, 1, 0] rfl)
            · refine lq_top (v := 0) hre ?_
              rw [ht] at hT
              refine lv_if_ne (tgt := 97) hx hb dX12_rule_87 (by decide) (fun c_107 => absurd c_107 (by decide)) (fun c_107 => ?_)
              refine lv_iconst (v := (-1)) hx hb dX12_rule_90 (by decide) ?_
              refine lv_aload_n hx hb dX12_rule_91 rfl (lv_at hl 1 rfl) ?_
              refine tw_get (D := (dC, dI)) (v := .int (y_76 (a 50) 46)) (C := RX12) (T := TX12) (N := 58) hx hb hts (fun _ hh => (List.mem_cons_of_mem _ (List.mem_append_right _ (List.mem_append_left _ hh)))) hown hK hT (fx_50 hX) (by decide) cl_e60 rfl 46 (by decide) (hts (.fieldLink RX12 200 "TypingPoolModel" "wrong" "I") (List.mem_cons_of_mem _ (List.mem_append_left _ (List.mem_of_getElem? (i := 21) rfl)))) (fun _ h9 => h9) rfl dX12_rule_92 ?_
              refine lv_isub hx hb dX12_rule_95 ?_
              refine lv_topi (fun x_108 ex_108 => ?_)
              exact W.iret (v := x_108) hx hb hr (fun t ht hW9 => ⟨⟨x_108, x_108, rfl, rfl, ⟨(upc u 6 0), y_76, g_25, (by intro i hi; simp only [List.mem_cons, List.not_mem_nil, or_false, not_or] at hi; rw [upc_o (by omega)]), hG, hGg, hI, tw_at ht hT⟩⟩, hS.F ht⟩) hS.2.2 dX12_rule_96
        · refine lq_top (v := 0) hre ?_
          rw [ht] at hT
          refine lv_if_eq (tgt := 83) hx hb dX12_rule_67 (by decide) (fun c_109 => ?_) (fun c_109 => absurd c_109 (by decide))
          refine lv_aload_n hx hb dX12_rule_83 rfl (lv_at hl 1 rfl) ?_
          have hFc := tw_free hF hS hA
          refine va_calli (va_runV (As := []) (rest := []) ⟨hx, hb, hml, hown, hts⟩ (m_fineX l dC dI ad av H.size a k τ ln y_35 g_25 (upc u 6 0)  hI hW) (cwV 0 hts (gi_4 (List.mem_cons_of_mem _ (List.mem_append_left _ (List.mem_of_getElem? (i := 13) rfl))) (List.mem_cons_of_mem _ (List.mem_append_left _ (List.mem_of_getElem? (i := 14) rfl))) (List.mem_cons_of_mem _ (List.mem_append_left _ (List.mem_of_getElem? (i := 15) rfl))) (List.mem_cons_of_mem _ (List.mem_append_left _ (List.mem_of_getElem? (i := 4) rfl))) (fun _ hh => (List.mem_cons_of_mem _ (List.mem_append_right _ (List.mem_append_right _ (List.mem_append_right _ (List.mem_append_right _ (List.mem_append_right _ (List.mem_append_left _ hh)))))))) gd_m_fineX) rfl rfl rfl (by decide +kernel) ⟨Nat.le_of_ble_eq_true rfl, Nat.le_of_ble_eq_true rfl⟩) ⟨pw_blind, tw_recv hK hT (fx_50 hX) (by decide) cl_e60 rfl, pw_use hT hK hFc hS hM⟩ rfl rfl hl.1 rfl (lv_room (Nat.le_of_ble_eq_true rfl)) dX12_rule_84 ⟨Nat.le_of_ble_eq_true rfl, Nat.le_of_ble_eq_true rfl⟩) hS (fun q _ h => hFc q h) hFc (fun r0 r_110 t H locs ht hvm hw hB hz1 hk1 hS => ?_)
          refine W.widen (k := 0) (n := 0) (Nat.le_of_ble_eq_true rfl) (Nat.le_of_ble_eq_true rfl) ?_
          clear hvm hz1 hk1
          subst hw
          rcases hB with ⟨hre, hf_111, hT⟩ | ⟨hre, hf_112, hT⟩
          · refine lq_top (v := 1) hre ?_
            rw [ht] at hT
            refine lv_if_ne (tgt := 97) hx hb dX12_rule_87 (by decide) (fun c_113 => ?_) (fun c_113 => absurd c_113 (by decide))
            refine lv_iconst (v := 0) hx hb dX12_rule_97 (by decide) ?_
            refine lv_istore (lv' := [(4, .int 0), (3, .int (y_1 (a 50) 34)), (0, .ref (a 50)), (1, .int p0), (2, .int p1)]) hx hb dX12_rule_98 hl (by decide) rfl (fun ls hl => ?_)
            have loop_100 : ∀ (n : Nat) (i4 : Int32) (y_L100 : Nat → Nat → Int32) (g_L100 : Nat → Nat → Option Nat) (H : Heap) (locs : List Loc) (ls : Array Slot), (u 6 - i4.toInt).toNat < n → ag τ [60, 81, 82, 83, 84] y y_L100 → IM a (upc u 6 0) τ y_L100 → agg τ g g_L100 → IW ((upc u 6 0) 1) ((upc u 6 0) 2) ((upc u 6 0) 9) (y_L100 (a 89)) → 0 ≤ i4.toInt → i4.toInt ≤ u 6 → tw (dC, dI) a k τ ln y_L100 g_L100 H → va_S A s.heap H locs → lv_has ls 5 [(0, .ref (a 50)), (1, .int p0), (2, .int p1), (3, .int (y_1 (a 50) 34)), (4, .int i4)] → W p l e (headSpec wm_m_rule ({ frames := 384, cells := 0, slots := 0, locals := 25160 })).room s m ([.ref (a 50), .int p0, .int p1] : List Value).toArray below meth c H locs 0 0 (MQ below (va_Qi (fun (r u : Int32) => u = r) (fun (r : Int32) (t : State) => (∃ (u' : Nat → Int) (y' : Nat → Nat → Int32) (g' : Nat → Nat → Option Nat), (∀ i, i ∉ ([4, 6] : List Nat) → u' i = u i) ∧ ag τ [60, 81, 82, 83, 84] y y' ∧ agg τ g g' ∧ IM a u' τ y' ∧ tw (dC, dI) a k τ ln y' g' t.heap)) A) ([.ref (a 50), .int p0, .int p1] : List Value).toArray s 0 0 A) (F0 m 100 ls []) := by
              intro n
              induction n with
              | zero => intro i4 y_L100 g_L100 H locs ls hlt; exact absurd hlt (Nat.not_lt_zero _)
              | succ n ih_100 =>
                intro i4 y_L100 g_L100 H locs ls hlt hG hI hGg hW hi100_0 hi100_1 hT hS hl
                refine lv_iload hx hb dX12_rule_100 (lv_at hl 4 rfl) ?_
                refine lv_iload_n hx hb dX12_rule_102 rfl (lv_at hl 3 rfl) ?_
                refine lv_icmp_ge (tgt := 134) hx hb dX12_rule_103 (by decide) (fun c_114 => ?_) (fun c_114 => ?_)
                · have nc_114 := z_le hc_2 rfl c_114
                  refine lv_aload_n hx hb dX12_rule_134 rfl (lv_at hl 0 rfl) ?_
                  refine tw_get (D := (dC, dI)) (v := .ref (a 72)) (C := RX12) (T := TX12) (N := 58) hx hb hts (fun _ hh => (List.mem_cons_of_mem _ (List.mem_append_right _ (List.mem_append_left _ hh)))) hown hK hT (fx_50 hX) (by decide) cl_e60 rfl 21 (by decide) (hts (.fieldLink RX12 62 "TypingPoolModel" "textSize" "[I") (List.mem_cons_of_mem _ (List.mem_append_left _ (List.mem_of_getElem? (i := 17) rfl)))) (fun _ h9 => h9) rfl dX12_rule_135 ?_
                  refine lv_aload_n hx hb dX12_rule_138 rfl (lv_at hl 0 rfl) ?_
                  refine tw_get (D := (dC, dI)) (v := .int (y_L100 (a 50) 24)) (C := RX12) (T := TX12) (N := 58) hx hb hts (fun _ hh => (List.mem_cons_of_mem _ (List.mem_append_right _ (List.mem_append_left _ hh)))) hown hK hT (fx_50 hX) (by decide) cl_e60 rfl 24 (by decide) (hts (.fieldLink RX12 248 "TypingPoolModel" "rules" "I") (List.mem_cons_of_mem _ (List.mem_append_left _ (List.mem_of_getElem? (i := 5) rfl)))) (fun _ h9 => h9) rfl dX12_rule_139 ?_
                  have hc_115 : (y_L100 (a 50) 24).toInt = u 4 := by rw [im_4 hI]; simp [upc]
                  refine lv_iload_n hx hb dX12_rule_142 rfl (lv_at hl 3 rfl) ?_
                  have hbd_116 : 0 ≤ u 4 ∧ u 4 < 20 := by omega
                  refine tw_iast hx hb hK hT hF hS 0 (fx_72 hX) (by decide) (fun _ => cl_e82) rfl (z_in hc_115 hbd_116.1 hbd_116.2) dX12_rule_143 (fun H locs hT hS => ?_)
                  obtain ⟨y_117, hy_117, hT⟩ : ∃ z : Nat → Nat → Int32, z = up2 y_L100 (a 72) ((y_L100 (a 50) 24).toNatClampNeg) (y_1 (a 50) 34) ∧ tw (dC, dI) a k τ ln z g_L100 H := ⟨_, rfl, hT⟩
                  have hG : ag τ [60, 81, 82, 83, 84] y y_117 := by rw [hy_117]; exact hG.up (fx_72 hX) (by decide)
                  have : (y_117 (a 50) 43).toInt = (y_L100 (a 50) 43).toInt := by rw [hy_117, up2_o (kd_ne (fx_50 hX) (fx_72 hX) (by decide))]
                  have : (y_117 (a 50) 44).toInt = (y_L100 (a 50) 44).toInt := by rw [hy_117, up2_o (kd_ne (fx_50 hX) (fx_72 hX) (by decide))]
                  have : (y_117 (a 50) 45).toInt = (y_L100 (a 50) 45).toInt := by rw [hy_117, up2_o (kd_ne (fx_50 hX) (fx_72 hX) (by decide))]
                  have hW : IW ((upc u 6 0) 1) ((upc u 6 0) 2) ((upc u 6 0) 9) (y_117 (a 89)) := by rw [hy_117, up2_o (kd_ne (fx_89 hX) (fx_72 hX) (by decide))]; exact hW
                  have hIold := hI
                  have hI := hI.o72 (x := (y_1 (a 50) 34)) (i := (y_L100 (a 50) 24)) hc_115
                  rw [← hy_117] at hI
                  have hvb_118 : vb (u 4 + 1) 0 60 (y_117 (a 72)) := by rw [hy_117, up2_q]; exact vb_up (im_a72 (u := (upc u 6 0)) hIold) hc_115 hR.2.2.2.2.1.1 hc_2 (by omega) (by omega)
                  clear hc_115
                  refine lv_aload_n hx hb dX12_rule_144 rfl (lv_at hl 0 rfl) ?_
                  refine tw_get (D := (dC, dI)) (v := .ref (a 73)) (C := RX12) (T := TX12) (N := 58) hx hb hts (fun _ hh => (List.mem_cons_of_mem _ (List.mem_append_right _ (List.mem_append_left _ hh)))) hown hK hT (fx_50 hX) (by decide) cl_e60 rfl 22 (by decide) (hts (.fieldLink RX12 65 "TypingPoolModel" "textKind" "[I") (List.mem_cons_of_mem _ (List.mem_append_left _ (List.mem_of_getElem? (i := 18) rfl)))) (fun _ h9 => h9) rfl dX12_rule_145 ?_
                  refine lv_aload_n hx hb dX12_rule_148 rfl (lv_at hl 0 rfl) ?_
                  refine tw_get (D := (dC, dI)) (v := .int (y_117 (a 50) 24)) (C := RX12) (T := TX12) (N := 58) hx hb hts (fun _ hh => (List.mem_cons_of_mem _ (List.mem_append_right _ (List.mem_append_left _ hh)))) hown hK hT (fx_50 hX) (by decide) cl_e60 rfl 24 (by decide) (hts (.fieldLink RX12 248 "TypingPoolModel" "rules" "I") (List.mem_cons_of_mem _ (List.mem_append_left _ (List.mem_of_getElem? (i := 5) rfl)))) (fun _ h9 => h9) rfl dX12_rule_149 ?_
                  have hc_119 : (y_117 (a 50) 24).toInt = u 4 := by rw [im_4 hI]; simp [upc]
                  refine lv_iload_n hx hb dX12_rule_152 rfl (lv_at hl 1 rfl) ?_
                  refine tw_iast hx hb hK hT hF hS 0 (fx_73 hX) (by decide) (fun _ => cl_e83) rfl (z_in hc_119 hbd_116.1 hbd_116.2) dX12_rule_153 (fun H locs hT hS => ?_)
                  obtain ⟨y_120, hy_120, hT⟩ : ∃ z : Nat → Nat → Int32, z = up2 y_117 (a 73) ((y_117 (a 50) 24).toNatClampNeg) p0 ∧ tw (dC, dI) a k τ ln z g_L100 H := ⟨_, rfl, hT⟩
                  have hG : ag τ [60, 81, 82, 83, 84] y y_120 := by rw [hy_120]; exact hG.up (fx_73 hX) (by decide)
                  have ha_121 : y_120 (a 72) = y_117 (a 72) := (show y_120 (a 72) = y_117 (a 72) from by rw [hy_120]; exact up2_o (kd_ne (fx_72 hX) (fx_73 hX) (by decide))).trans rfl
                  have : (y_120 (a 50) 43).toInt = (y_117 (a 50) 43).toInt := by rw [hy_120, up2_o (kd_ne (fx_50 hX) (fx_73 hX) (by decide))]
                  have : (y_120 (a 50) 44).toInt = (y_117 (a 50) 44).toInt := by rw [hy_120, up2_o (kd_ne (fx_50 hX) (fx_73 hX) (by decide))]
                  have : (y_120 (a 50) 45).toInt = (y_117 (a 50) 45).toInt := by rw [hy_120, up2_o (kd_ne (fx_50 hX) (fx_73 hX) (by decide))]
                  have hW : IW ((upc u 6 0) 1) ((upc u 6 0) 2) ((upc u 6 0) 9) (y_120 (a 89)) := by rw [hy_120, up2_o (kd_ne (fx_89 hX) (fx_73 hX) (by decide))]; exact hW
                  have hI := hI.ag (S := [83]) (y' := y_120) (by rw [hy_120]; exact ag.one (fx_73 hX)) (by decide)
                  clear hc_119
                  refine lv_aload_n hx hb dX12_rule_154 rfl (lv_at hl 0 rfl) ?_
                  refine tw_get (D := (dC, dI)) (v := .ref (a 74)) (C := RX12) (T := TX12) (N := 58) hx hb hts (fun _ hh => (List.mem_cons_of_mem _ (List.mem_append_right _ (List.mem_append_left _ hh)))) hown hK hT (fx_50 hX) (by decide) cl_e60 rfl 23 (by decide) (hts (.fieldLink RX12 68 "TypingPoolModel" "textDay" "[I") (List.mem_cons_of_mem _ (List.mem_append_left _ (List.mem_of_getElem? (i := 19) rfl)))) (fun _ h9 => h9) rfl dX12_rule_155 ?_
                  refine lv_aload_n hx hb dX12_rule_158 rfl (lv_at hl 0 rfl) ?_
                  refine tw_get (D := (dC, dI)) (v := .int (y_120 (a 50) 24)) (C := RX12) (T := TX12) (N := 58) hx hb hts (fun _ hh => (List.mem_cons_of_mem _ (List.mem_append_right _ (List.mem_append_left _ hh)))) hown hK hT (fx_50 hX) (by decide) cl_e60 rfl 24 (by decide) (hts (.fieldLink RX12 248 "TypingPoolModel" "rules" "I") (List.mem_cons_of_mem _ (List.mem_append_left _ (List.mem_of_getElem? (i := 5) rfl)))) (fun _ h9 => h9) rfl dX12_rule_159 ?_
                  have hc_122 : (y_120 (a 50) 24).toInt = u 4 := by rw [im_4 hI]; simp [upc]
                  refine lv_iload_n hx hb dX12_rule_162 rfl (lv_at hl 2 rfl) ?_
                  refine tw_iast hx hb hK hT hF hS 0 (fx_74 hX) (by decide) (fun _ => cl_e84) rfl (z_in hc_122 hbd_116.1 hbd_116.2) dX12_rule_163 (fun H locs hT hS => ?_)
                  obtain ⟨y_123, hy_123, hT⟩ : ∃ z : Nat → Nat → Int32, z = up2 y_120 (a 74) ((y_120 (a 50) 24).toNatClampNeg) p1 ∧ tw (dC, dI) a k τ ln z g_L100 H := ⟨_, rfl, hT⟩
                  have hG : ag τ [60, 81, 82, 83, 84] y y_123 := by rw [hy_123]; exact hG.up (fx_74 hX) (by decide)
                  have ha_124 : y_123 (a 72) = y_117 (a 72) := (show y_123 (a 72) = y_120 (a 72) from by rw [hy_123]; exact up2_o (kd_ne (fx_72 hX) (fx_74 hX) (by decide))).trans ha_121
                  have : (y_123 (a 50) 43).toInt = (y_120 (a 50) 43).toInt := by rw [hy_123, up2_o (kd_ne (fx_50 hX) (fx_74 hX) (by decide))]
                  have : (y_123 (a 50) 44).toInt = (y_120 (a 50) 44).toInt := by rw [hy_123, up2_o (kd_ne (fx_50 hX) (fx_74 hX) (by decide))]
                  have : (y_123 (a 50) 45).toInt = (y_120 (a 50) 45).toInt := by rw [hy_123, up2_o (kd_ne (fx_50 hX) (fx_74 hX) (by decide))]
                  have hW : IW ((upc u 6 0) 1) ((upc u 6 0) 2) ((upc u 6 0) 9) (y_123 (a 89)) := by rw [hy_123, up2_o (kd_ne (fx_89 hX) (fx_74 hX) (by decide))]; exact hW
                  have hI := hI.ag (S := [84]) (y' := y_123) (by rw [hy_123]; exact ag.one (fx_74 hX)) (by decide)
                  clear hc_122
                  refine lv_aload_n hx hb dX12_rule_164 rfl (lv_at hl 0 rfl) ?_
                  refine lv_dup hx hb dX12_rule_165 rfl ?_
                  refine tw_get (D := (dC, dI)) (v := .int (y_123 (a 50) 24)) (C := RX12) (T := TX12) (N := 58) hx hb hts (fun _ hh => (List.mem_cons_of_mem _ (List.mem_append_right _ (List.mem_append_left _ hh)))) hown hK hT (fx_50 hX) (by decide) cl_e60 rfl 24 (by decide) (hts (.fieldLink RX12 248 "TypingPoolModel" "rules" "I") (List.mem_cons_of_mem _ (List.mem_append_left _ (List.mem_of_getElem? (i := 5) rfl)))) (fun _ h9 => h9) rfl dX12_rule_166 ?_
                  have hc_125 : (y_123 (a 50) 24).toInt = u 4 := by rw [im_4 hI]; simp [upc]
                  refine lv_iconst (v := 1) hx hb dX12_rule_169 (by decide) ?_
                  refine lv_iadd hx hb dX12_rule_170 ?_
                  refine lv_topi (fun x_126 ex_126 => ?_)
                  have hx_126 := z_add ex_126 hc_125 (zk (x := 1) 1 rfl) (by omega) (by omega)
                  refine tw_put (D := (dC, dI)) (x := x_126) (ty := .int) (C := RX12) (T := TX12) (N := 58) hx hb hts (fun _ hh => (List.mem_cons_of_mem _ (List.mem_append_right _ (List.mem_append_left _ hh)))) tyX12 tyX12_ok nmX12 hown hK hT hF hS (fx_50 hX) (by decide) cl_e60 rfl 24 (by decide) (hts (.fieldLink RX12 248 "TypingPoolModel" "rules" "I") (List.mem_cons_of_mem _ (List.mem_append_left _ (List.mem_of_getElem? (i := 5) rfl)))) (fun _ h9 => h9) rfl (tyX12_ok 24 (by decide)) rfl rfl (Nat.le_of_ble_eq_true rfl) rfl dX12_rule_171 (fun H locs hT hS => ?_)
                  obtain ⟨y_127, hy_127, hT⟩ : ∃ z : Nat → Nat → Int32, z = up2 y_123 (a 50) 24 x_126 ∧ tw (dC, dI) a k τ ln z g_L100 H := ⟨_, rfl, hT⟩
                  have hG : ag τ [60, 81, 82, 83, 84] y y_127 := by rw [hy_127]; exact hG.up (fx_50 hX) (by decide)
                  have ha_128 : y_127 (a 72) = y_117 (a 72) := (show y_127 (a 72) = y_123 (a 72) from by rw [hy_127]; exact up2_o (kd_ne (fx_72 hX) (fx_50 hX) (by decide))).trans ha_124
                  have : (y_127 (a 50) 43).toInt = (y_123 (a 50) 43).toInt := by rw [hy_127, up2_e (by decide)]
                  have : (y_127 (a 50) 44).toInt = (y_123 (a 50) 44).toInt := by rw [hy_127, up2_e (by decide)]
                  have : (y_127 (a 50) 45).toInt = (y_123 (a 50) 45).toInt := by rw [hy_127, up2_e (by decide)]
                  have hW : IW ((upc u 6 0) 1) ((upc u 6 0) 2) ((upc u 6 0) 9) (y_127 (a 89)) := by rw [hy_127, up2_o (kd_ne (fx_89 hX) (fx_50 hX) (by decide))]; exact hW
                  have hp_129 : x_126.toInt = x_126.toInt := rfl
                  have hI := hI.set4 hp_129 (by omega) (by omega) (show u 4 ≤ _ from by omega) (by rw [show x_126.toInt = u 4 + 1 from by omega]; exact ((ha_124).symm ▸ hvb_118))
                  rw [← hy_127] at hI
                  have hW : IW ((upc (upc u 6 0) 4 x_126.toInt) 1) ((upc (upc u 6 0) 4 x_126.toInt) 2) ((upc (upc u 6 0) 4 x_126.toInt) 9) (y_127 (a 89)) := iw_u hW (by simp [upc]) (by simp [upc]) (by simp [upc])
                  clear hc_125
                  refine lv_aload_n hx hb dX12_rule_174 rfl (lv_at hl 0 rfl) ?_
                  refine tw_get (D := (dC, dI)) (v := .int (y_127 (a 50) 24)) (C := RX12) (T := TX12) (N := 58) hx hb hts (fun _ hh => (List.mem_cons_of_mem _ (List.mem_append_right _ (List.mem_append_left _ hh)))) hown hK hT (fx_50 hX) (by decide) cl_e60 rfl 24 (by decide) (hts (.fieldLink RX12 248 "TypingPoolModel" "rules" "I") (List.mem_cons_of_mem _ (List.mem_append_left _ (List.mem_of_getElem? (i := 5) rfl)))) (fun _ h9 => h9) rfl dX12_rule_175 ?_
                  have hc_130 : (y_127 (a 50) 24).toInt = x_126.toInt := by rw [im_4 hI]; simp [upc]
                  refine lv_iconst (v := 1) hx hb dX12_rule_178 (by decide) ?_
                  refine lv_isub hx hb dX12_rule_179 ?_
                  refine lv_topi (fun x_131 ex_131 => ?_)
                  have hx_131 := z_sub ex_131 hc_130 (zk (x := 1) 1 rfl) (by omega) (by omega)
                  exact W.iret (v := x_131) hx hb hr (fun t ht hW9 => ⟨⟨x_131, x_131, rfl, rfl, ⟨(upc (upc u 6 0) 4 x_126.toInt), y_127, g_L100, (by intro i hi; simp only [List.mem_cons, List.not_mem_nil, or_false, not_or] at hi; rw [upc_o (by omega)]; rw [upc_o (by omega)]), hG, hGg, hI, tw_at ht hT⟩⟩, hS.F ht⟩) hS.2.2 dX12_rule_180
                · have nc_114 := z_nle hc_2 rfl c_114
                  refine lv_aload_n hx hb dX12_rule_106 rfl (lv_at hl 0 rfl) ?_
                  refine tw_get (D := (dC, dI)) (v := .ref (a 71)) (C := RX12) (T := TX12) (N := 58) hx hb hts (fun _ hh => (List.mem_cons_of_mem _ (List.mem_append_right _ (List.mem_append_left _ hh)))) hown hK hT (fx_50 hX) (by decide) cl_e60 rfl 20 (by decide) (hts (.fieldLink RX12 58 "TypingPoolModel" "texts" "[B") (List.mem_cons_of_mem _ (List.mem_append_left _ (List.mem_of_getElem? (i := 20) rfl)))) (fun _ h9 => h9) rfl dX12_rule_107 ?_
                  refine lv_bipush (v := 60) hx hb dX12_rule_110 (by decide) ?_
                  refine lv_aload_n hx hb dX12_rule_112 rfl (lv_at hl 0 rfl) ?_
                  refine tw_get (D := (dC, dI)) (v := .int (y_L100 (a 50) 24)) (C := RX12) (T := TX12) (N := 58) hx hb hts (fun _ hh => (List.mem_cons_of_mem _ (List.mem_append_right _ (List.mem_append_left _ hh)))) hown hK hT (fx_50 hX) (by decide) cl_e60 rfl 24 (by decide) (hts (.fieldLink RX12 248 "TypingPoolModel" "rules" "I") (List.mem_cons_of_mem _ (List.mem_append_left _ (List.mem_of_getElem? (i := 5) rfl)))) (fun _ h9 => h9) rfl dX12_rule_113 ?_
                  have hc_132 : (y_L100 (a 50) 24).toInt = u 4 := by rw [im_4 hI]; simp [upc]
                  refine lv_imul hx hb dX12_rule_116 ?_
                  refine lv_topi (fun x_133 ex_133 => ?_)
                  have hx_133 := z_mul ex_133 (zk (x := 60) 60 rfl) hc_132 (by omega) (by omega)
                  refine lv_iload hx hb dX12_rule_117 (lv_at hl 4 rfl) ?_
                  refine lv_iadd hx hb dX12_rule_119 ?_
                  refine lv_topi (fun x_134 ex_134 => ?_)
                  have hx_134 := z_add ex_134 rfl rfl (by omega) (by omega)
                  refine lv_aload_n hx hb dX12_rule_120 rfl (lv_at hl 0 rfl) ?_
                  refine tw_get (D := (dC, dI)) (v := .ref (a 84)) (C := RX12) (T := TX12) (N := 58) hx hb hts (fun _ hh => (List.mem_cons_of_mem _ (List.mem_append_right _ (List.mem_append_left _ hh)))) hown hK hT (fx_50 hX) (by decide) cl_e60 rfl 33 (by decide) (hts (.fieldLink RX12 101 "TypingPoolModel" "text" "[B") (List.mem_cons_of_mem _ (List.mem_append_left _ (List.mem_of_getElem? (i := 6) rfl)))) (fun _ h9 => h9) rfl dX12_rule_121 ?_
                  refine lv_iload hx hb dX12_rule_124 (lv_at hl 4 rfl) ?_
                  refine tw_bald hx hb hK hT 2 (fx_84 hX) (by decide) cl_e94 rfl (z_in rfl (by omega) (by omega)) dX12_rule_126 ?_
                  refine tw_bast hx hb hK hT hF hS 2 (fx_71 hX) (by decide) (fun _ => cl_e81) rfl (z_in rfl (by omega) (by omega)) dX12_rule_127 (fun H locs hT hS => ?_)
                  obtain ⟨y_135, hy_135, hT⟩ : ∃ z : Nat → Nat → Int32, z = up2 y_L100 (a 71) x_134.toNatClampNeg (vp_nar .byte (y_L100 (a 84) i4.toNatClampNeg)) ∧ tw (dC, dI) a k τ ln z g_L100 H := ⟨_, rfl, hT⟩
                  have hG : ag τ [60, 81, 82, 83, 84] y y_135 := by rw [hy_135]; exact hG.up (fx_71 hX) (by decide)
                  have : (y_135 (a 50) 43).toInt = (y_L100 (a 50) 43).toInt := by rw [hy_135, up2_o (kd_ne (fx_50 hX) (fx_71 hX) (by decide))]
                  have : (y_135 (a 50) 44).toInt = (y_L100 (a 50) 44).toInt := by rw [hy_135, up2_o (kd_ne (fx_50 hX) (fx_71 hX) (by decide))]
                  have : (y_135 (a 50) 45).toInt = (y_L100 (a 50) 45).toInt := by rw [hy_135, up2_o (kd_ne (fx_50 hX) (fx_71 hX) (by decide))]
                  have hW : IW ((upc u 6 0) 1) ((upc u 6 0) 2) ((upc u 6 0) 9) (y_135 (a 89)) := by rw [hy_135, up2_o (kd_ne (fx_89 hX) (fx_71 hX) (by decide))]; exact hW
                  have hI := hI.ag (S := [81]) (y' := y_135) (by rw [hy_135]; exact ag.one (fx_71 hX)) (by decide)
                  clear hc_132
                  obtain ⟨x_136, ex_136⟩ : ∃ y : Int32, y = i4 + Int32.ofInt 1 := ⟨_, rfl⟩
                  have hx_136 := z_add ex_136 rfl (zk (x := Int32.ofInt 1) 1 rfl) (by omega) (by omega)
                  refine lv_iinc (v := x_136) (lv' := [(4, .int x_136), (0, .ref (a 50)), (1, .int p0), (2, .int p1), (3, .int (y_1 (a 50) 34))]) hx hb dX12_rule_128 hl (k := 4) rfl ex_136.symm (by decide) rfl (fun ls hl => ?_)
                  refine lv_goto (tgt := 100) hx hb dX12_rule_131 (by decide) ?_
                  exact ih_100  x_136 y_135 g_L100 H _ ls (by omega) hG hI hGg hW (by omega) (by omega) hT hS (lv_sub hl [1, 2, 3, 4, 0] rfl)
            have hp_137 : (0 : Int32).toInt = 0 := (zk (x := 0) 0 rfl)
            exact loop_100 _ (0 : Int32) y_35 g_25 H _ ls (Nat.lt_succ_self _) hG hI hGg hW (by omega) (by omega) hT hS (lv_sub hl [2, 3, 4, 1, 0] rfl)
          · refine lq_top (v := 0) hre ?_
            rw [ht] at hT
            refine lv_if_ne (tgt := 97) hx hb dX12_rule_87 (by decide) (fun c_138 => absurd c_138 (by decide)) (fun c_138 => ?_)
            refine lv_iconst (v := (-1)) hx hb dX12_rule_90 (by decide) ?_
            refine lv_aload_n hx hb dX12_rule_91 rfl (lv_at hl 1 rfl) ?_
            refine tw_get (D := (dC, dI)) (v := .int (y_35 (a 50) 46)) (C := RX12) (T := TX12) (N := 58) hx hb hts (fun _ hh => (List.mem_cons_of_mem _ (List.mem_append_right _ (List.mem_append_left _ hh)))) hown hK hT (fx_50 hX) (by decide) cl_e60 rfl 46 (by decide) (hts (.fieldLink RX12 200 "TypingPoolModel" "wrong" "I") (List.mem_cons_of_mem _ (List.mem_append_left _ (List.mem_of_getElem? (i := 21) rfl)))) (fun _ h9 => h9) rfl dX12_rule_92 ?_
            refine lv_isub hx hb dX12_rule_95 ?_
            refine lv_topi (fun x_139 ex_139 => ?_)
            exact W.iret (v := x_139) hx hb hr (fun t ht hW9 => ⟨⟨x_139, x_139, rfl, rfl, ⟨(upc u 6 0), y_35, g_25, (by intro i hi; simp only [List.mem_cons, List.not_mem_nil, or_false, not_or] at hi; rw [upc_o (by omega)]), hG, hGg, hI, tw_at ht hT⟩⟩, hS.F ht⟩) hS.2.2 dX12_rule_96
      · have nc_20 := z_eq hc_19 (zk (x := 20) 20 rfl) c_20
        refine lv_bipush (v := (-100)) hx hb dX12_rule_43 (by decide) ?_
        exact W.iret (v := (-100)) hx hb hr (fun t ht hW9 => ⟨⟨(-100), (-100), rfl, rfl, ⟨(upc u 6 0), y_3, g, (by intro i hi; simp only [List.mem_cons, List.not_mem_nil, or_false, not_or] at hi; rw [upc_o (by omega)]), hG, hGg, hI, tw_at ht hT⟩⟩, hS.F ht⟩) hS.2.2 dX12_rule_45
    · refine lq_top (v := 0) hre ?_
      rw [ht] at hT
      try simp only [hp_12, hp_13] at hf_17
      clear hp_12 hp_13
      refine lv_if_eq (tgt := 43) hx hb dX12_rule_31 (by decide) (fun c_140 => ?_) (fun c_140 => absurd c_140 (by decide))
      refine lv_bipush (v := (-100)) hx hb dX12_rule_43 (by decide) ?_
      exact W.iret (v := (-100)) hx hb hr (fun t ht hW9 => ⟨⟨(-100), (-100), rfl, rfl, ⟨(upc u 6 0), y_3, g, (by intro i hi; simp only [List.mem_cons, List.not_mem_nil, or_false, not_or] at hi; rw [upc_o (by omega)]), hG, hGg, hI, tw_at ht hT⟩⟩, hS.F ht⟩) hS.2.2 dX12_rule_45
  · refine lq_top (v := 0) hre ?_
    rw [ht] at hT
    try simp only [hp_5, hp_6] at hf_10
    clear hp_5 hp_6
    refine lv_if_eq (tgt := 43) hx hb dX12_rule_21 (by decide) (fun c_141 => ?_) (fun c_141 => absurd c_141 (by decide))
    refine lv_bipush (v := (-100)) hx hb dX12_rule_43 (by decide) ?_
    exact W.iret (v := (-100)) hx hb hr (fun t ht hW9 => ⟨⟨(-100), (-100), rfl, rfl, ⟨(upc u 6 0), y_3, g, (by intro i hi; simp only [List.mem_cons, List.not_mem_nil, or_false, not_or] at hi; rw [upc_o (by omega)]), hG, hGg, hI, tw_at ht hT⟩⟩, hS.F ht⟩) hS.2.2 dX12_rule_45
def wo_m_putW : List Cond := [.fieldLink RX12 107 "TypingPoolModel" "w" "[I"]
def wm_m_putW : List Cond := .code yX12_put cX12_put 4 none :: (wo_m_putW ++ (wsX120 ++ ([] : List Cond)))
theorem gd_m_putW : ∀ w ∈ wm_m_putW, goodWord w = true := gd_c rfl (gd_a (by decide) (gd_a gd_wsX120 gd_nil))
set_option maxRecDepth 20000 in
theorem im_m_putW : ∀ w ∈ wm_m_putW, w ∈ lw_tbl := im_c (in_r [.code yX12_put cX12_put 4 none] [1431] (by decide +kernel)) (in_app (in_r wo_m_putW [1279] (by decide +kernel)) (in_app im_wsX120 im_nil))
set_option maxHeartbeats 4000000 in
set_option maxRecDepth 100000 in
theorem m_putW (l : Launch) (dC : Nat → ClassId) (dI : Nat → Nat → Nat) (ad av : Nat → Nat) (sz : Nat) (a : Nat → Nat) (k : Nat → ClassId) (τ ln : Nat → Nat) (y : Nat → Nat → Int32) (g : Nat → Nat → Option Nat) (u : Nat → Int) (p0 : Int32) (p1 : Int32) (p2 : Int32) (hI : IM a u τ y) (hl0 : 0 ≤ p0.toInt) (hu0 : p0.toInt < 8) (hl1 : 0 ≤ p1.toInt) (hu1 : p1.toInt ≤ 5) : Met l yX12_put wm_m_putW ({ frames := 0, cells := 0, slots := 0, locals := 0 }) (pw_ ad av (dC, dI) sz [.ref (a 50), .int p0, .int p1, .int p2] a k τ ln y g) (va_Qv (fun (_ : Unit) => True) (fun (_ : Unit) (t : State) => (∃ (i : Int32), i.toInt = 1 + 6 * p0.toInt + p1.toInt ∧ tw (dC, dI) a k τ ln (up2 y (a 89) i.toNatClampNeg p2) g t.heap)) (fr τ sz)) 0 0 (fr τ sz) := by
  refine Met.ofW (cc := cX12_put) (maxL := 4) (ret := none) (by decide) rfl ?_
  intro p e s m args below meth c s₁ B hml hv
  obtain ⟨rfl, hsz, hT, hK, hM⟩ := hv
  have hx := B.exec
  have hb := B.bytes
  have hr := B.returns
  have hts := atoms_spec (ws := wm_m_putW) B.pre
  have hown : s.vm.findClass RX12 = some m.cls := findClass_of_methodNamed B.named
  have hlocks := B.notSynchronized
  subst hsz
  generalize hAe : fr τ s.heap.size = A at hM ⊢
  have hA : ∀ q : Nat, s.heap.size ≤ q → A q := fun q h => by rw [← hAe]; exact Or.inr h
  have hF : ∀ q, τ q ≠ 0 → A q := fun q h => by rw [← hAe]; exact Or.inl h
  have hS : va_S A s.heap s.heap [] := va_S.rf
  have hX := hI.1
  have hR := im_r hI
  have hG : ag τ [99] y y := ag.rf
  have hl := lv_entry ([.ref (a 50), .int p0, .int p1, .int p2]) (n := 4) (Nat.le_of_ble_eq_true rfl)
  rw [lg_entry_eq]
  generalize (lg_sl ([.ref (a 50), .int p0, .int p1, .int p2]) ++ List.replicate (4 - (lg_sl ([.ref (a 50), .int p0, .int p1, .int p2])).length) Slot.unset).toArray = ls at hl ⊢
  have hl : lv_has ls 4 [(0, .ref (a 50)), (1, .int p0), (2, .int p1), (3, .int p2)] := hl
  refine lv_aload_n hx hb dX12_put_0 rfl (lv_at hl 0 rfl) ?_
  refine tw_get (D := (dC, dI)) (v := .ref (a 89)) (C := RX12) (T := TX12) (N := 58) hx hb hts (fun _ hh => (List.mem_cons_of_mem _ (List.mem_append_right _ (List.mem_append_left _ hh)))) hown hK hT (fx_50 hX) (by decide) cl_e60 rfl 38 (by decide) (hts (.fieldLink RX12 107 "TypingPoolModel" "w" "[I") (List.mem_cons_of_mem _ (List.mem_append_left _ (List.mem_of_getElem? (i := 0) rfl)))) (fun _ h9 => h9) rfl dX12_put_1 ?_
  refine lv_iconst (v := 1) hx hb dX12_put_4 (by decide) ?_
  refine lv_bipush (v := 6) hx hb dX12_put_5 (by decide) ?_
  refine lv_iload_n hx hb dX12_put_7 rfl (lv_at hl 1 rfl) ?_
  refine lv_imul hx hb dX12_put_8 ?_
  refine lv_topi (fun x_1 ex_1 => ?_)
  have hx_1 := z_mul ex_1 (zk (x := 6) 6 rfl) rfl (by omega) (by omega)
  refine lv_iadd hx hb dX12_put_9 ?_
  refine lv_topi (fun x_2 ex_2 => ?_)
  have hx_2 := z_add ex_2 (zk (x := 1) 1 rfl) rfl (by omega) (by omega)
  refine lv_iload_n hx hb dX12_put_10 rfl (lv_at hl 2 rfl) ?_
  refine lv_iadd hx hb dX12_put_11 ?_
  refine lv_topi (fun x_3 ex_3 => ?_)
  have hx_3 := z_add ex_3 rfl rfl (by omega) (by omega)
  refine lv_iload_n hx hb dX12_put_12 rfl (lv_at hl 3 rfl) ?_
  refine tw_iast hx hb hK hT hF hS 0 (fx_89 hX) (by decide) (fun _ => cl_e99) rfl (z_in rfl (by omega) (by omega)) dX12_put_13 (fun H locs hT hS => ?_)
  obtain ⟨y_4, hy_4, hT⟩ : ∃ z : Nat → Nat → Int32, z = up2 y (a 89) x_3.toNatClampNeg p2 ∧ tw (dC, dI) a k τ ln z g H := ⟨_, rfl, hT⟩
  have hG : ag τ [99] y y_4 := by rw [hy_4]; exact hG.up (fx_89 hX) (by decide)
  have hI := hI.ag (S := [99]) (y' := y_4) (by rw [hy_4]; exact ag.one (fx_89 hX)) (by decide)
  have hE : x_3.toInt = 1 + 6 * p0.toInt + p1.toInt := by have h8 : x_3.toInt = x_3.toInt := rfl; omega
  rw [hy_4] at hT
  exact W.vret hx hb hr (fun t ht hW9 => ⟨⟨(), rfl, trivial, ⟨x_3, hE, tw_at ht hT⟩⟩, hS.F ht⟩) hS.2.2 dX12_put_14
def wo_m_goMinute : List Cond := [.fieldLink RX12 142 "TypingPoolModel" "hands" "I", .fieldLink RX12 107 "TypingPoolModel" "w" "[I", .methodLink RX12 272 yX12_get, .instanceMethod yX12_get, .selects RX12 yX12_get yX12_get, .initialized RX12, .methodLink RX12 164 yX12_now, .instanceMethod yX12_now, .selects RX12 yX12_now yX12_now, .methodLink RX12 293 yX12_isAway, .instanceMethod yX12_isAway, .selects RX12 yX12_isAway yX12_isAway, .methodLink RX12 156 yX12_put, .instanceMethod yX12_put, .selects RX12 yX12_put yX12_put, .methodLink RX12 261 yX12_piece, .instanceMethod yX12_piece, .selects RX12 yX12_piece yX12_piece, .methodLink RX12 281 Lib.Math.max.name, .static Lib.Math.max.name, .initialized "java/lang/Math", .code Lib.Math.max.name Lib.Math.max.code 2 (some .int), .methodLink RX12 170 yX12_piece_, .instanceMethod yX12_piece_, .selects RX12 yX12_piece_ yX12_piece_, .fieldLink RX12 52 "TypingPoolModel" "words" "[I", .fieldLink RX12 37 "TypingPoolModel" "lines" "[I", .methodLink RX12 296 yX12_choose, .instanceMethod yX12_choose, .selects RX12 yX12_choose yX12_choose, .fieldLink RX12 13 "TypingPoolModel" "speed" "[I", .methodLink RX12 299 yX12_rate, .static yX12_rate]
def wm_m_goMinute : List Cond := .code yX12_goMinute cX12_goMinute 4 none :: (wo_m_goMinute ++ (wsX120 ++ (wm_m_get ++ (wm_m_now ++ (wm_m_isAway ++ (wm_m_putW ++ (wm_m_pieceG ++ (wm_m_pieceP ++ (wm_m_choose ++ (wm_m_rate ++ ([] : List Cond)))))))))))
theorem gd_m_goMinute : ∀ w ∈ wm_m_goMinute, goodWord w = true := gd_c rfl (gd_a (by decide) (gd_a gd_wsX120 (gd_a gd_m_get (gd_a gd_m_now (gd_a gd_m_isAway (gd_a gd_m_putW (gd_a gd_m_pieceG (gd_a gd_m_pieceP (gd_a gd_m_choose (gd_a gd_m_rate gd_nil))))))))))
set_option maxRecDepth 20000 in
theorem im_m_goMinute : ∀ w ∈ wm_m_goMinute, w ∈ lw_tbl := im_c (in_r [.code yX12_goMinute cX12_goMinute 4 none] [1539] (by decide +kernel)) (in_app (in_r wo_m_goMinute [1246, 1279, 1540, 1542, 46, 86, 1440, 1442, 28, 1544, 1546, 47, 1428, 1430, 26, 1556, 1558, 50, 1583, 289, 78, 290, 1448, 1450, 29, 1258, 1253, 1548, 1550, 48, 1243, 1580, 1581] (by decide +kernel)) (in_app im_wsX120 (in_app im_m_get (in_app im_m_now (in_app im_m_isAway (in_app im_m_putW (in_app im_m_pieceG (in_app im_m_pieceP (in_app im_m_choose (in_app im_m_rate im_nil))))))))))
set_option maxHeartbeats 4000000 in
set_option maxRecDepth 100000 in
theorem m_goMinute (l : Launch) (dC : Nat → ClassId) (dI : Nat → Nat → Nat) (ad av : Nat → Nat) (sz : Nat) (a : Nat → Nat) (k : Nat → ClassId) (τ ln : Nat → Nat) (y : Nat → Nat → Int32) (g : Nat → Nat → Option Nat) (u : Nat → Int) (hI : IM a u τ y) (hn : u 9 < 4800) (hW : IW (u 1) (u 2) (u 9) (y (a 89))) : Met l yX12_goMinute wm_m_goMinute ({ frames := 387, cells := 0, slots := 0, locals := 25340 }) (pw_ ad av (dC, dI) sz [.ref (a 50)] a k τ ln y g) (va_Qv (fun (_ : Unit) => True) (fun (_ : Unit) (t : State) => (∃ (u' : Nat → Int) (y' : Nat → Nat → Int32) (g' : Nat → Nat → Option Nat), (∀ i, i ∉ ([9] : List Nat) → u' i = u i) ∧ ag τ [60, 99, 102] y y' ∧ agg τ g g' ∧ IM a u' τ y' ∧ IW (u' 1) (u' 2) (u' 9) (y' (a 89)) ∧ u' 9 = u 9 + 1 ∧ tw (dC, dI) a k τ ln y' g' t.heap)) (fr τ sz)) 0 0 (fr τ sz) := by
  refine Met.ofW (cc := cX12_goMinute) (maxL := 4) (ret := none) (by decide) rfl ?_
  intro p e s m args below meth c s₁ B hml hv
  obtain ⟨rfl, hsz, hT, hK, hM⟩ := hv
  have hx := B.exec
  have hb := B.bytes
  have hr := B.returns
  have hts := atoms_spec (ws := wm_m_goMinute) B.pre
  have hown : s.vm.findClass RX12 = some m.cls := findClass_of_methodNamed B.named
  have hlocks := B.notSynchronized
  subst hsz
  generalize hAe : fr τ s.heap.size = A at hM ⊢
  have hA : ∀ q : Nat, s.heap.size ≤ q → A q := fun q h => by rw [← hAe]; exact Or.inr h
  have hF : ∀ q, τ q ≠ 0 → A q := fun q h => by rw [← hAe]; exact Or.inl h
  have hS : va_S A s.heap s.heap [] := va_S.rf
  have hX := hI.1
  have hR := im_r hI
  have hG : ag τ [60, 99, 102] y y := ag.rf
  have hGg : agg τ g g := agg.rf
  have hl := lv_entry ([.ref (a 50)]) (n := 4) (Nat.le_of_ble_eq_true rfl)
  rw [lg_entry_eq]
  generalize (lg_sl ([.ref (a 50)]) ++ List.replicate (4 - (lg_sl ([.ref (a 50)])).length) Slot.unset).toArray = ls at hl ⊢
  have hl : lv_has ls 4 [(0, .ref (a 50))] := hl
  refine lv_iconst (v := 0) hx hb dX12_goMinute_0 (by decide) ?_
  refine lv_istore_n (lv' := [(1, .int 0), (0, .ref (a 50))]) hx hb dX12_goMinute_1 rfl hl (by decide) rfl (fun ls hl => ?_)
  have loop_2 : ∀ (n : Nat) (i1 : Int32) (y_L2 : Nat → Nat → Int32) (g_L2 : Nat → Nat → Option Nat) (H : Heap) (locs : List Loc) (ls : Array Slot), (u 1 - i1.toInt).toNat < n → ag τ [60, 99, 102] y y_L2 → IM a u τ y_L2 → agg τ g g_L2 → IW (u 1) (u 2) (u 9) (y_L2 (a 89)) → 0 ≤ i1.toInt → i1.toInt ≤ u 1 → tw (dC, dI) a k τ ln y_L2 g_L2 H → va_S A s.heap H locs → lv_has ls 4 [(0, .ref (a 50)), (1, .int i1)] → W p l e (headSpec wm_m_goMinute ({ frames := 387, cells := 0, slots := 0, locals := 25340 })).room s m ([.ref (a 50)] : List Value).toArray below meth c H locs 0 0 (MQ below (va_Qv (fun (_ : Unit) => True) (fun (_ : Unit) (t : State) => (∃ (u' : Nat → Int) (y' : Nat → Nat → Int32) (g' : Nat → Nat → Option Nat), (∀ i, i ∉ ([9] : List Nat) → u' i = u i) ∧ ag τ [60, 99, 102] y y' ∧ agg τ g g' ∧ IM a u' τ y' ∧ IW (u' 1) (u' 2) (u' 9) (y' (a 89)) ∧ u' 9 = u 9 + 1 ∧ tw (dC, dI) a k τ ln y' g' t.heap)) A) ([.ref (a 50)] : List Value).toArray s 0 0 A) (F0 m 2 ls []) := by
    intro n
    induction n with
    | zero => intro i1 y_L2 g_L2 H locs ls hlt; exact absurd hlt (Nat.not_lt_zero _)
    | succ n ih_2 =>
      intro i1 y_L2 g_L2 H locs ls hlt hG hI hGg hW hi2_0 hi2_1 hT hS hl
      refine lv_iload_n hx hb dX12_goMinute_2 rfl (lv_at hl 1 rfl) ?_
      refine lv_aload_n hx hb dX12_goMinute_3 rfl (lv_at hl 0 rfl) ?_
      refine tw_get (D := (dC, dI)) (v := .int (y_L2 (a 50) 5)) (C := RX12) (T := TX12) (N := 58) hx hb hts (fun _ hh => (List.mem_cons_of_mem _ (List.mem_append_right _ (List.mem_append_left _ hh)))) hown hK hT (fx_50 hX) (by decide) cl_e60 rfl 5 (by decide) (hts (.fieldLink RX12 142 "TypingPoolModel" "hands" "I") (List.mem_cons_of_mem _ (List.mem_append_left _ (List.mem_of_getElem? (i := 0) rfl)))) (fun _ h9 => h9) rfl dX12_goMinute_4 ?_
      have hc_1 := im_1 hI
      refine lv_icmp_ge (tgt := 126) hx hb dX12_goMinute_7 (by decide) (fun c_2 => ?_) (fun c_2 => ?_)
      · have nc_2 := z_le hc_1 rfl c_2
        refine lv_iconst (v := 0) hx hb dX12_goMinute_126 (by decide) ?_
        refine lv_istore_n (lv' := [(1, .int 0), (0, .ref (a 50))]) hx hb dX12_goMinute_127 rfl hl (by decide) rfl (fun ls hl => ?_)
        have loop_128 : ∀ (n : Nat) (i1 : Int32) (y_L128 : Nat → Nat → Int32) (g_L128 : Nat → Nat → Option Nat) (H : Heap) (locs : List Loc) (ls : Array Slot), (u 1 - i1.toInt).toNat < n → ag τ [60, 99, 102] y y_L128 → IM a u τ y_L128 → agg τ g g_L128 → IW (u 1) (u 2) (u 9) (y_L128 (a 89)) → 0 ≤ i1.toInt → i1.toInt ≤ u 1 → tw (dC, dI) a k τ ln y_L128 g_L128 H → va_S A s.heap H locs → lv_has ls 4 [(0, .ref (a 50)), (1, .int i1)] → W p l e (headSpec wm_m_goMinute ({ frames := 387, cells := 0, slots := 0, locals := 25340 })).room s m ([.ref (a 50)] : List Value).toArray below meth c H locs 0 0 (MQ below (va_Qv (fun (_ : Unit) => True) (fun (_ : Unit) (t : State) => (∃ (u' : Nat → Int) (y' : Nat → Nat → Int32) (g' : Nat → Nat → Option Nat), (∀ i, i ∉ ([9] : List Nat) → u' i = u i) ∧ ag τ [60, 99, 102] y y' ∧ agg τ g g' ∧ IM a u' τ y' ∧ IW (u' 1) (u' 2) (u' 9) (y' (a 89)) ∧ u' 9 = u 9 + 1 ∧ tw (dC, dI) a k τ ln y' g' t.heap)) A) ([.ref (a 50)] : List Value).toArray s 0 0 A) (F0 m 128 ls []) := by
          intro n
          induction n with
          | zero => intro i1 y_L128 g_L128 H locs ls hlt; exact absurd hlt (Nat.not_lt_zero _)
          | succ n ih_128 =>
            intro i1 y_L128 g_L128 H locs ls hlt hG hI hGg hW hi128_0 hi128_1 hT hS hl
            refine lv_iload_n hx hb dX12_goMinute_128 rfl (lv_at hl 1 rfl) ?_
            refine lv_aload_n hx hb dX12_goMinute_129 rfl (lv_at hl 0 rfl) ?_
            refine tw_get (D := (dC, dI)) (v := .int (y_L128 (a 50) 5)) (C := RX12) (T := TX12) (N := 58) hx hb hts (fun _ hh => (List.mem_cons_of_mem _ (List.mem_append_right _ (List.mem_append_left _ hh)))) hown hK hT (fx_50 hX) (by decide) cl_e60 rfl 5 (by decide) (hts (.fieldLink RX12 142 "TypingPoolModel" "hands" "I") (List.mem_cons_of_mem _ (List.mem_append_left _ (List.mem_of_getElem? (i := 0) rfl)))) (fun _ h9 => h9) rfl dX12_goMinute_130 ?_
            have hc_3 := im_1 hI
            refine lv_icmp_ge (tgt := 296) hx hb dX12_goMinute_133 (by decide) (fun c_4 => ?_) (fun c_4 => ?_)
            · have nc_4 := z_le hc_3 rfl c_4
              refine lv_aload_n hx hb dX12_goMinute_296 rfl (lv_at hl 0 rfl) ?_
              refine tw_get (D := (dC, dI)) (v := .ref (a 89)) (C := RX12) (T := TX12) (N := 58) hx hb hts (fun _ hh => (List.mem_cons_of_mem _ (List.mem_append_right _ (List.mem_append_left _ hh)))) hown hK hT (fx_50 hX) (by decide) cl_e60 rfl 38 (by decide) (hts (.fieldLink RX12 107 "TypingPoolModel" "w" "[I") (List.mem_cons_of_mem _ (List.mem_append_left _ (List.mem_of_getElem? (i := 1) rfl)))) (fun _ h9 => h9) rfl dX12_goMinute_297 ?_
              refine lv_iconst (v := 0) hx hb dX12_goMinute_300 (by decide) ?_
              refine lv_dup2_11 hx hb dX12_goMinute_301 rfl rfl ?_
              refine tw_iald hx hb hK hT 0 (fx_89 hX) (by decide) cl_e99 rfl (z_in (zk (x := 0) 0 rfl) (by omega) (by omega)) dX12_goMinute_302 ?_
              have hc_5 : (y_L128 (a 89) (0 : Int32).toNatClampNeg).toInt = u 9 := hW.1
              refine lv_iconst (v := 1) hx hb dX12_goMinute_303 (by decide) ?_
              refine lv_iadd hx hb dX12_goMinute_304 ?_
              refine lv_topi (fun x_6 ex_6 => ?_)
              have hx_6 := z_add ex_6 hc_5 (zk (x := 1) 1 rfl) (by omega) (by omega)
              refine tw_iast hx hb hK hT hF hS 0 (fx_89 hX) (by decide) (fun _ => cl_e99) rfl (z_in (zk (x := 0) 0 rfl) (by omega) (by omega)) dX12_goMinute_305 (fun H locs hT hS => ?_)
              obtain ⟨y_7, hy_7, hT⟩ : ∃ z : Nat → Nat → Int32, z = up2 y_L128 (a 89) ((0 : Int32).toNatClampNeg) x_6 ∧ tw (dC, dI) a k τ ln z g_L128 H := ⟨_, rfl, hT⟩
              have hG : ag τ [60, 99, 102] y y_7 := by rw [hy_7]; exact hG.up (fx_89 hX) (by decide)
              have hp_8 : x_6.toInt = x_6.toInt := rfl
              have hW : IW ((upc u 9 x_6.toInt) 1) ((upc u 9 x_6.toInt) 2) ((upc u 9 x_6.toInt) 9) (y_7 (a 89)) := by rw [hy_7, up2_q]; exact iw_now hW (zk (x := 0) 0 rfl) hp_8
              have hI := hI.ag (S := [99]) (y' := y_7) (by rw [hy_7]; exact ag.one (fx_89 hX)) (by decide)
              have hI := hI.now (v := x_6.toInt) (by omega) (by omega)
              clear hc_1 hc_3
              exact W.vret hx hb hr (fun t ht hW9 => ⟨⟨(), rfl, trivial, ⟨(upc u 9 x_6.toInt), y_7, g_L128, (by intro i hi; simp only [List.mem_cons, List.not_mem_nil, or_false, not_or] at hi; rw [upc_o (by omega)]), hG, hGg, hI, hW, (by rw [upc_i]; omega), tw_at ht hT⟩⟩, hS.F ht⟩) hS.2.2 dX12_goMinute_306
            · have nc_4 := z_nle hc_3 rfl c_4
              refine lv_aload_n hx hb dX12_goMinute_136 rfl (lv_at hl 0 rfl) ?_
              refine lv_iload_n hx hb dX12_goMinute_137 rfl (lv_at hl 1 rfl) ?_
              refine lv_iconst (v := 0) hx hb dX12_goMinute_138 (by decide) ?_
              have hFc := tw_free hF hS hA
              have hp_9 : (0 : Int32).toInt = 0 := (zk (x := 0) 0 rfl)
              refine va_calli (va_runV (As := [.int i1, .int 0]) (rest := []) ⟨hx, hb, hml, hown, hts⟩ (m_get l dC dI ad av H.size a k τ ln y_L128 g_L128 u i1 (0 : Int32) hI (by omega) (by omega) (by decide) (by decide) hW) (cwV 2 hts (gi_4 (List.mem_cons_of_mem _ (List.mem_append_left _ (List.mem_of_getElem? (i := 2) rfl))) (List.mem_cons_of_mem _ (List.mem_append_left _ (List.mem_of_getElem? (i := 3) rfl))) (List.mem_cons_of_mem _ (List.mem_append_left _ (List.mem_of_getElem? (i := 4) rfl))) (List.mem_cons_of_mem _ (List.mem_append_left _ (List.mem_of_getElem? (i := 5) rfl))) (fun _ hh => (List.mem_cons_of_mem _ (List.mem_append_right _ (List.mem_append_right _ (List.mem_append_left _ hh))))) gd_m_get) rfl rfl rfl (by decide +kernel) ⟨Nat.le_of_ble_eq_true rfl, Nat.le_of_ble_eq_true rfl⟩) ⟨pw_blind, tw_recv hK hT (fx_50 hX) (by decide) cl_e60 rfl, pw_use hT hK hFc hS hM⟩ rfl rfl hl.1 rfl (lv_room (Nat.le_of_ble_eq_true rfl)) dX12_goMinute_139 ⟨Nat.le_of_ble_eq_true rfl, Nat.le_of_ble_eq_true rfl⟩) hS (fun q _ h => hFc q h) hFc (fun r0 r_10 t H locs ht hvm hw hB hz1 hk1 hS => ?_)
              refine W.widen (k := 0) (n := 0) (Nat.le_of_ble_eq_true rfl) (Nat.le_of_ble_eq_true rfl) ?_
              clear hvm hz1 hk1
              subst hw
              obtain ⟨hf_11, hT⟩ := hB
              rw [ht] at hT
              try simp only [hp_9] at hf_11
              clear hp_9
              have hiw_12 := iw_rt hW (z := i1.toInt) (by omega) (by omega)
              refine lv_istore_n (lv' := [(2, .int r_10), (0, .ref (a 50)), (1, .int i1)]) hx hb dX12_goMinute_142 rfl hl (by decide) rfl (fun ls hl => ?_)
              refine lv_iload_n hx hb dX12_goMinute_143 rfl (lv_at hl 0 rfl) ?_
              refine lv_iconst (v := (-1)) hx hb dX12_goMinute_144 (by decide) ?_
              refine lv_icmp_eq (tgt := 290) hx hb dX12_goMinute_145 (by decide) (fun c_13 => ?_) (fun c_13 => ?_)
              · have nc_13 := z_eq rfl (zk (x := (-1)) (-1) rfl) c_13
                obtain ⟨x_14, ex_14⟩ : ∃ y : Int32, y = i1 + Int32.ofInt 1 := ⟨_, rfl⟩
                have hx_14 := z_add ex_14 rfl (zk (x := Int32.ofInt 1) 1 rfl) (by omega) (by omega)
                refine lv_iinc (v := x_14) (lv' := [(1, .int x_14), (2, .int r_10), (0, .ref (a 50))]) hx hb dX12_goMinute_290 hl (k := 2) rfl ex_14.symm (by decide) rfl (fun ls hl => ?_)
                refine lv_goto (tgt := 128) hx hb dX12_goMinute_293 (by decide) ?_
                exact ih_128  x_14 y_L128 g_L128 H _ ls (by omega) hG hI hGg hW (by omega) (by omega) hT hS (lv_sub hl [2, 0] rfl)
              · have nc_13 := z_ne rfl (zk (x := (-1)) (-1) rfl) c_13
                refine lv_aload_n hx hb dX12_goMinute_148 rfl (lv_at hl 1 rfl) ?_
                refine lv_iload_n hx hb dX12_goMinute_149 rfl (lv_at hl 2 rfl) ?_
                refine lv_aload_n hx hb dX12_goMinute_150 rfl (lv_at hl 1 rfl) ?_
                have hFc := tw_free hF hS hA
                refine va_calli (va_runV (As := []) (rest := [.int i1, .ref (a 50)]) ⟨hx, hb, hml, hown, hts⟩ (m_now l dC dI ad av H.size a k τ ln y_L128 g_L128 u  hI hW) (cwV 0 hts (gi_4 (List.mem_cons_of_mem _ (List.mem_append_left _ (List.mem_of_getElem? (i := 6) rfl))) (List.mem_cons_of_mem _ (List.mem_append_left _ (List.mem_of_getElem? (i := 7) rfl))) (List.mem_cons_of_mem _ (List.mem_append_left _ (List.mem_of_getElem? (i := 8) rfl))) (List.mem_cons_of_mem _ (List.mem_append_left _ (List.mem_of_getElem? (i := 5) rfl))) (fun _ hh => (List.mem_cons_of_mem _ (List.mem_append_right _ (List.mem_append_right _ (List.mem_append_right _ (List.mem_append_left _ hh)))))) gd_m_now) rfl rfl rfl (by decide +kernel) ⟨Nat.le_of_ble_eq_true rfl, Nat.le_of_ble_eq_true rfl⟩) ⟨pw_blind, tw_recv hK hT (fx_50 hX) (by decide) cl_e60 rfl, pw_use hT hK hFc hS hM⟩ rfl rfl hl.1 rfl (lv_room (Nat.le_of_ble_eq_true rfl)) dX12_goMinute_151 ⟨Nat.le_of_ble_eq_true rfl, Nat.le_of_ble_eq_true rfl⟩) hS (fun q _ h => hFc q h) hFc (fun r0 r_15 t H locs ht hvm hw hB hz1 hk1 hS => ?_)
                refine W.widen (k := 0) (n := 0) (Nat.le_of_ble_eq_true rfl) (Nat.le_of_ble_eq_true rfl) ?_
                clear hvm hz1 hk1
                subst hw
                obtain ⟨hf_16, hT⟩ := hB
                rw [ht] at hT
                have hFc := tw_free hF hS hA
                refine va_calli (va_runV (As := [.int i1, .int r_15]) (rest := []) ⟨hx, hb, hml, hown, hts⟩ (m_isAway l dC dI ad av H.size a k τ ln y_L128 g_L128 u i1 r_15 hI hW) (cwV 2 hts (gi_4 (List.mem_cons_of_mem _ (List.mem_append_left _ (List.mem_of_getElem? (i := 9) rfl))) (List.mem_cons_of_mem _ (List.mem_append_left _ (List.mem_of_getElem? (i := 10) rfl))) (List.mem_cons_of_mem _ (List.mem_append_left _ (List.mem_of_getElem? (i := 11) rfl))) (List.mem_cons_of_mem _ (List.mem_append_left _ (List.mem_of_getElem? (i := 5) rfl))) (fun _ hh => (List.mem_cons_of_mem _ (List.mem_append_right _ (List.mem_append_right _ (List.mem_append_right _ (List.mem_append_right _ (List.mem_append_left _ hh))))))) gd_m_isAway) rfl rfl rfl (by decide +kernel) ⟨Nat.le_of_ble_eq_true rfl, Nat.le_of_ble_eq_true rfl⟩) ⟨pw_blind, tw_recv hK hT (fx_50 hX) (by decide) cl_e60 rfl, pw_use hT hK hFc hS hM⟩ rfl rfl hl.1 rfl (lv_room (Nat.le_of_ble_eq_true rfl)) dX12_goMinute_154 ⟨Nat.le_of_ble_eq_true rfl, Nat.le_of_ble_eq_true rfl⟩) hS (fun q _ h => hFc q h) hFc (fun r0 r_17 t H locs ht hvm hw hB hz1 hk1 hS => ?_)
                refine W.widen (k := 0) (n := 0) (Nat.le_of_ble_eq_true rfl) (Nat.le_of_ble_eq_true rfl) ?_
                clear hvm hz1 hk1
                subst hw
                rcases hB with ⟨hre, hT⟩ | ⟨hre, hT⟩
                · refine lq_top (v := 1) hre ?_
                  rw [ht] at hT
                  refine lv_if_eq (tgt := 163) hx hb dX12_goMinute_157 (by decide) (fun c_18 => absurd c_18 (by decide)) (fun c_18 => ?_)
                  refine lv_goto (tgt := 290) hx hb dX12_goMinute_160 (by decide) ?_
                  obtain ⟨x_19, ex_19⟩ : ∃ y : Int32, y = i1 + Int32.ofInt 1 := ⟨_, rfl⟩
                  have hx_19 := z_add ex_19 rfl (zk (x := Int32.ofInt 1) 1 rfl) (by omega) (by omega)
                  refine lv_iinc (v := x_19) (lv' := [(1, .int x_19), (2, .int r_10), (0, .ref (a 50))]) hx hb dX12_goMinute_290 hl (k := 2) rfl ex_19.symm (by decide) rfl (fun ls hl => ?_)
                  refine lv_goto (tgt := 128) hx hb dX12_goMinute_293 (by decide) ?_
                  exact ih_128  x_19 y_L128 g_L128 H _ ls (by omega) hG hI hGg hW (by omega) (by omega) hT hS (lv_sub hl [2, 0] rfl)
                · refine lq_top (v := 0) hre ?_
                  rw [ht] at hT
                  refine lv_if_eq (tgt := 163) hx hb dX12_goMinute_157 (by decide) (fun c_20 => ?_) (fun c_20 => absurd c_20 (by decide))
                  refine lv_aload_n hx hb dX12_goMinute_163 rfl (lv_at hl 1 rfl) ?_
                  refine lv_iload_n hx hb dX12_goMinute_164 rfl (lv_at hl 2 rfl) ?_
                  refine lv_iconst (v := 3) hx hb dX12_goMinute_165 (by decide) ?_
                  refine lv_aload_n hx hb dX12_goMinute_166 rfl (lv_at hl 1 rfl) ?_
                  refine lv_iload_n hx hb dX12_goMinute_167 rfl (lv_at hl 2 rfl) ?_
                  refine lv_iconst (v := 3) hx hb dX12_goMinute_168 (by decide) ?_
                  have hFc := tw_free hF hS hA
                  have hp_21 : (3 : Int32).toInt = 3 := (zk (x := 3) 3 rfl)
                  refine va_calli (va_runV (As := [.int i1, .int 3]) (rest := [.int 3, .int i1, .ref (a 50)]) ⟨hx, hb, hml, hown, hts⟩ (m_get l dC dI ad av H.size a k τ ln y_L128 g_L128 u i1 (3 : Int32) hI (by omega) (by omega) (by decide) (by decide) hW) (cwV 2 hts (gi_4 (List.mem_cons_of_mem _ (List.mem_append_left _ (List.mem_of_getElem? (i := 2) rfl))) (List.mem_cons_of_mem _ (List.mem_append_left _ (List.mem_of_getElem? (i := 3) rfl))) (List.mem_cons_of_mem _ (List.mem_append_left _ (List.mem_of_getElem? (i := 4) rfl))) (List.mem_cons_of_mem _ (List.mem_append_left _ (List.mem_of_getElem? (i := 5) rfl))) (fun _ hh => (List.mem_cons_of_mem _ (List.mem_append_right _ (List.mem_append_right _ (List.mem_append_left _ hh))))) gd_m_get) rfl rfl rfl (by decide +kernel) ⟨Nat.le_of_ble_eq_true rfl, Nat.le_of_ble_eq_true rfl⟩) ⟨pw_blind, tw_recv hK hT (fx_50 hX) (by decide) cl_e60 rfl, pw_use hT hK hFc hS hM⟩ rfl rfl hl.1 rfl (lv_room (Nat.le_of_ble_eq_true rfl)) dX12_goMinute_169 ⟨Nat.le_of_ble_eq_true rfl, Nat.le_of_ble_eq_true rfl⟩) hS (fun q _ h => hFc q h) hFc (fun r0 r_22 t H locs ht hvm hw hB hz1 hk1 hS => ?_)
                  refine W.widen (k := 0) (n := 0) (Nat.le_of_ble_eq_true rfl) (Nat.le_of_ble_eq_true rfl) ?_
                  clear hvm hz1 hk1
                  subst hw
                  obtain ⟨hf_23, hT⟩ := hB
                  rw [ht] at hT
                  try simp only [hp_21] at hf_23
                  clear hp_21
                  refine lv_iconst (v := 1) hx hb dX12_goMinute_172 (by decide) ?_
                  refine lv_iadd hx hb dX12_goMinute_173 ?_
                  refine lv_topi (fun x_24 ex_24 => ?_)
                  have hFc := tw_free hF hS hA
                  have hp_25 : (3 : Int32).toInt = 3 := (zk (x := 3) 3 rfl)
                  refine va_callv (va_runV (As := [.int i1, .int 3, .int x_24]) (rest := []) ⟨hx, hb, hml, hown, hts⟩ (m_putW l dC dI ad av H.size a k τ ln y_L128 g_L128 u i1 (3 : Int32) x_24 hI (by omega) (by omega) (by decide) (by decide)) (cwV 3 hts (gi_4 (List.mem_cons_of_mem _ (List.mem_append_left _ (List.mem_of_getElem? (i := 12) rfl))) (List.mem_cons_of_mem _ (List.mem_append_left _ (List.mem_of_getElem? (i := 13) rfl))) (List.mem_cons_of_mem _ (List.mem_append_left _ (List.mem_of_getElem? (i := 14) rfl))) (List.mem_cons_of_mem _ (List.mem_append_left _ (List.mem_of_getElem? (i := 5) rfl))) (fun _ hh => (List.mem_cons_of_mem _ (List.mem_append_right _ (List.mem_append_right _ (List.mem_append_right _ (List.mem_append_right _ (List.mem_append_right _ (List.mem_append_left _ hh)))))))) gd_m_putW) rfl rfl rfl (by decide +kernel) ⟨Nat.le_of_ble_eq_true rfl, Nat.le_of_ble_eq_true rfl⟩) ⟨pw_blind, tw_recv hK hT (fx_50 hX) (by decide) cl_e60 rfl, pw_use hT hK hFc hS hM⟩ rfl rfl hl.1 rfl (lv_room (Nat.le_of_ble_eq_true rfl)) dX12_goMinute_174 ⟨Nat.le_of_ble_eq_true rfl, Nat.le_of_ble_eq_true rfl⟩) hS (fun q _ h => hFc q h) hFc (fun u0 t H locs ht hvm hw hB hz1 hk1 hS => ?_)
                  refine W.widen (k := 0) (n := 0) (Nat.le_of_ble_eq_true rfl) (Nat.le_of_ble_eq_true rfl) ?_
                  clear hvm hz1 hk1
                  obtain ⟨i_27, hii_27, hT⟩ := hB
                  rw [ht] at hT
                  clear hp_25
                  obtain ⟨y_28, hy_28, hT⟩ : ∃ z : Nat → Nat → Int32, z = up2 y_L128 (a 89) i_27.toNatClampNeg x_24 ∧ tw (dC, dI) a k τ ln z g_L128 H := ⟨_, rfl, hT⟩
                  have hG : ag τ [60, 99, 102] y y_28 := by rw [hy_28]; exact hG.up (fx_89 hX) (by decide)
                  have hI := hI.ag (S := [99]) (y' := y_28) (by rw [hy_28]; exact ag.one (fx_89 hX)) (by decide)
                  have hb_29 : i_27.toInt = 1 + 6 * (i1.toInt) + 3 := ec_h hii_27 rfl rfl
                  clear hii_27
                  have hxv_30 : x_24.toInt = x_24.toInt := rfl
                  have := rd_hh (v := 0) hy_28 hb_29 (by omega) (by decide)
                  have hW : IW (u 1) (u 2) (u 9) (y_28 (a 89)) := by rw [hy_28, up2_q]; exact iw_h hW hR.2.1.2 hb_29 (by omega) (by omega) (by decide)
                  clear hc_1 hc_3
                  refine lv_aload_n hx hb dX12_goMinute_177 rfl (lv_at hl 1 rfl) ?_
                  refine lv_iload_n hx hb dX12_goMinute_178 rfl (lv_at hl 0 rfl) ?_
                  refine lv_iconst (v := 3) hx hb dX12_goMinute_179 (by decide) ?_
                  refine lv_iconst (v := 0) hx hb dX12_goMinute_180 (by decide) ?_
                  refine lv_aload_n hx hb dX12_goMinute_181 rfl (lv_at hl 1 rfl) ?_
                  refine lv_iload_n hx hb dX12_goMinute_182 rfl (lv_at hl 0 rfl) ?_
                  refine lv_iconst (v := 3) hx hb dX12_goMinute_183 (by decide) ?_
                  have hFc := tw_free hF hS hA
                  have hp_31 : (3 : Int32).toInt = 3 := (zk (x := 3) 3 rfl)
                  refine va_calli (va_runV (As := [.int r_10, .int 3]) (rest := [.int 0, .int 3, .int r_10, .ref (a 50)]) ⟨hx, hb, hml, hown, hts⟩ (m_pieceG l dC dI ad av H.size a k τ ln y_28 g_L128 u r_10 (3 : Int32) hI (by omega) (by omega) (by decide) (by decide) hW) (cwV 2 hts (gi_4 (List.mem_cons_of_mem _ (List.mem_append_left _ (List.mem_of_getElem? (i := 15) rfl))) (List.mem_cons_of_mem _ (List.mem_append_left _ (List.mem_of_getElem? (i := 16) rfl))) (List.mem_cons_of_mem _ (List.mem_append_left _ (List.mem_of_getElem? (i := 17) rfl))) (List.mem_cons_of_mem _ (List.mem_append_left _ (List.mem_of_getElem? (i := 5) rfl))) (fun _ hh => (List.mem_cons_of_mem _ (List.mem_append_right _ (List.mem_append_right _ (List.mem_append_right _ (List.mem_append_right _ (List.mem_append_right _ (List.mem_append_right _ (List.mem_append_left _ hh))))))))) gd_m_pieceG) rfl rfl rfl (by decide +kernel) ⟨Nat.le_of_ble_eq_true rfl, Nat.le_of_ble_eq_true rfl⟩) ⟨pw_blind, tw_recv hK hT (fx_50 hX) (by decide) cl_e60 rfl, pw_use hT hK hFc hS hM⟩ rfl rfl hl.1 rfl (lv_room (Nat.le_of_ble_eq_true rfl)) dX12_goMinute_184 ⟨Nat.le_of_ble_eq_true rfl, Nat.le_of_ble_eq_true rfl⟩) hS (fun q _ h => hFc q h) hFc (fun r0 r_32 t H locs ht hvm hw hB hz1 hk1 hS => ?_)
                  refine W.widen (k := 0) (n := 0) (Nat.le_of_ble_eq_true rfl) (Nat.le_of_ble_eq_true rfl) ?_
                  clear hvm hz1 hk1
                  subst hw
                  obtain ⟨hf_33, hT⟩ := hB
                  rw [ht] at hT
                  try simp only [hp_31] at hf_33
                  clear hp_31
                  have hiw_34 := iw_lf hW (z := r_10.toInt) (by omega) (by omega)
                  refine lv_aload_n hx hb dX12_goMinute_187 rfl (lv_at hl 1 rfl) ?_
                  refine lv_iload_n hx hb dX12_goMinute_188 rfl (lv_at hl 2 rfl) ?_
                  refine lv_iconst (v := 1) hx hb dX12_goMinute_189 (by decide) ?_
                  have hFc := tw_free hF hS hA
                  have hp_35 : (1 : Int32).toInt = 1 := (zk (x := 1) 1 rfl)
                  refine va_calli (va_runV (As := [.int i1, .int 1]) (rest := [.int r_32, .int 0, .int 3, .int r_10, .ref (a 50)]) ⟨hx, hb, hml, hown, hts⟩ (m_get l dC dI ad av H.size a k τ ln y_28 g_L128 u i1 (1 : Int32) hI (by omega) (by omega) (by decide) (by decide) hW) (cwV 2 hts (gi_4 (List.mem_cons_of_mem _ (List.mem_append_left _ (List.mem_of_getElem? (i := 2) rfl))) (List.mem_cons_of_mem _ (List.mem_append_left _ (List.mem_of_getElem? (i := 3) rfl))) (List.mem_cons_of_mem _ (List.mem_append_left _ (List.mem_of_getElem? (i := 4) rfl))) (List.mem_cons_of_mem _ (List.mem_append_left _ (List.mem_of_getElem? (i := 5) rfl))) (fun _ hh => (List.mem_cons_of_mem _ (List.mem_append_right _ (List.mem_append_right _ (List.mem_append_left _ hh))))) gd_m_get) rfl rfl rfl (by decide +kernel) ⟨Nat.le_of_ble_eq_true rfl, Nat.le_of_ble_eq_true rfl⟩) ⟨pw_blind, tw_recv hK hT (fx_50 hX) (by decide) cl_e60 rfl, pw_use hT hK hFc hS hM⟩ rfl rfl hl.1 rfl (lv_room (Nat.le_of_ble_eq_true rfl)) dX12_goMinute_190 ⟨Nat.le_of_ble_eq_true rfl, Nat.le_of_ble_eq_true rfl⟩) hS (fun q _ h => hFc q h) hFc (fun r0 r_36 t H locs ht hvm hw hB hz1 hk1 hS => ?_)
                  refine W.widen (k := 0) (n := 0) (Nat.le_of_ble_eq_true rfl) (Nat.le_of_ble_eq_true rfl) ?_
                  clear hvm hz1 hk1
                  subst hw
                  obtain ⟨hf_37, hT⟩ := hB
                  rw [ht] at hT
                  try simp only [hp_35] at hf_37
                  clear hp_35
                  have hiw_38 := iw_rt hW (z := i1.toInt) (by omega) (by omega)
                  refine lv_isub hx hb dX12_goMinute_193 ?_
                  refine lv_topi (fun x_39 ex_39 => ?_)
                  have hx_39 := z_sub ex_39 rfl rfl (by omega) (by omega)
                  refine va_mmax hx hb (by rw [hml]; exact hl.1.symm) hown (hts (.methodLink RX12 281 Lib.Math.max.name) (List.mem_cons_of_mem _ (List.mem_append_left _ (List.mem_of_getElem? (i := 18) rfl)))) (hts (.static Lib.Math.max.name) (List.mem_cons_of_mem _ (List.mem_append_left _ (List.mem_of_getElem? (i := 19) rfl)))) (hts (.initialized "java/lang/Math") (List.mem_cons_of_mem _ (List.mem_append_left _ (List.mem_of_getElem? (i := 20) rfl)))) (hts (.code Lib.Math.max.name Lib.Math.max.code 2 (some .int)) (List.mem_cons_of_mem _ (List.mem_append_left _ (List.mem_of_getElem? (i := 21) rfl)))) (Nat.le_of_ble_eq_true rfl) (Nat.le_of_ble_eq_true rfl) (Nat.le_of_ble_eq_true rfl) (Nat.le_of_ble_eq_true rfl) dX12_goMinute_194 ?_
                  refine lv_topi (fun x_40 ex_40 => ?_)
                  have hx_40 := z_max ex_40 (zk (x := 0) 0 rfl) rfl
                  have hFc := tw_free hF hS hA
                  have hp_41 : (3 : Int32).toInt = 3 := (zk (x := 3) 3 rfl)
                  refine va_callv (va_runV (As := [.int r_10, .int 3, .int x_40]) (rest := []) ⟨hx, hb, hml, hown, hts⟩ (m_pieceP l dC dI ad av H.size a k τ ln y_28 g_L128 u r_10 (3 : Int32) x_40 hI (by omega) (by omega) (by decide) (by decide) hW) (cwV 3 hts (gi_4 (List.mem_cons_of_mem _ (List.mem_append_left _ (List.mem_of_getElem? (i := 22) rfl))) (List.mem_cons_of_mem _ (List.mem_append_left _ (List.mem_of_getElem? (i := 23) rfl))) (List.mem_cons_of_mem _ (List.mem_append_left _ (List.mem_of_getElem? (i := 24) rfl))) (List.mem_cons_of_mem _ (List.mem_append_left _ (List.mem_of_getElem? (i := 5) rfl))) (fun _ hh => (List.mem_cons_of_mem _ (List.mem_append_right _ (List.mem_append_right _ (List.mem_append_right _ (List.mem_append_right _ (List.mem_append_right _ (List.mem_append_right _ (List.mem_append_right _ (List.mem_append_left _ hh)))))))))) gd_m_pieceP) rfl rfl rfl (by decide +kernel) ⟨Nat.le_of_ble_eq_true rfl, Nat.le_of_ble_eq_true rfl⟩) ⟨pw_blind, tw_recv hK hT (fx_50 hX) (by decide) cl_e60 rfl, pw_use hT hK hFc hS hM⟩ rfl rfl hl.1 rfl (lv_room (Nat.le_of_ble_eq_true rfl)) dX12_goMinute_197 ⟨Nat.le_of_ble_eq_true rfl, Nat.le_of_ble_eq_true rfl⟩) hS (fun q _ h => hFc q h) hFc (fun u0 t H locs ht hvm hw hB hz1 hk1 hS => ?_)
                  refine W.widen (k := 0) (n := 0) (Nat.le_of_ble_eq_true rfl) (Nat.le_of_ble_eq_true rfl) ?_
                  clear hvm hz1 hk1
                  obtain ⟨i_43, hii_43, hT⟩ := hB
                  rw [ht] at hT
                  clear hp_41
                  obtain ⟨y_44, hy_44, hT⟩ : ∃ z : Nat → Nat → Int32, z = up2 y_28 (a 89) i_43.toNatClampNeg x_40 ∧ tw (dC, dI) a k τ ln z g_L128 H := ⟨_, rfl, hT⟩
                  have hG : ag τ [60, 99, 102] y y_44 := by rw [hy_44]; exact hG.up (fx_89 hX) (by decide)
                  have hI := hI.ag (S := [99]) (y' := y_44) (by rw [hy_44]; exact ag.one (fx_89 hX)) (by decide)
                  have hb_45 : i_43.toInt = 49 + 5 * (r_10.toInt) + 3 := ec_p hii_43 rfl rfl
                  clear hii_43
                  have hxv_46 : x_40.toInt = x_40.toInt := rfl
                  have := rd_o (m := 1 + 6 * (i1.toInt) + 0) hy_44 hb_45 (by omega) (by omega) (by omega)
                  have hW : IW (u 1) (u 2) (u 9) (y_44 (a 89)) := by rw [hy_44, up2_q]; exact iw_l hW hR.2.1.2 hb_45 (by omega) hxv_46 (by omega)
                  refine lv_aload_n hx hb dX12_goMinute_200 rfl (lv_at hl 1 rfl) ?_
                  refine lv_iload_n hx hb dX12_goMinute_201 rfl (lv_at hl 0 rfl) ?_
                  refine lv_iconst (v := 3) hx hb dX12_goMinute_202 (by decide) ?_
                  have hFc := tw_free hF hS hA
                  have hp_47 : (3 : Int32).toInt = 3 := (zk (x := 3) 3 rfl)
                  refine va_calli (va_runV (As := [.int r_10, .int 3]) (rest := []) ⟨hx, hb, hml, hown, hts⟩ (m_pieceG l dC dI ad av H.size a k τ ln y_44 g_L128 u r_10 (3 : Int32) hI (by omega) (by omega) (by decide) (by decide) hW) (cwV 2 hts (gi_4 (List.mem_cons_of_mem _ (List.mem_append_left _ (List.mem_of_getElem? (i := 15) rfl))) (List.mem_cons_of_mem _ (List.mem_append_left _ (List.mem_of_getElem? (i := 16) rfl))) (List.mem_cons_of_mem _ (List.mem_append_left _ (List.mem_of_getElem? (i := 17) rfl))) (List.mem_cons_of_mem _ (List.mem_append_left _ (List.mem_of_getElem? (i := 5) rfl))) (fun _ hh => (List.mem_cons_of_mem _ (List.mem_append_right _ (List.mem_append_right _ (List.mem_append_right _ (List.mem_append_right _ (List.mem_append_right _ (List.mem_append_right _ (List.mem_append_left _ hh))))))))) gd_m_pieceG) rfl rfl rfl (by decide +kernel) ⟨Nat.le_of_ble_eq_true rfl, Nat.le_of_ble_eq_true rfl⟩) ⟨pw_blind, tw_recv hK hT (fx_50 hX) (by decide) cl_e60 rfl, pw_use hT hK hFc hS hM⟩ rfl rfl hl.1 rfl (lv_room (Nat.le_of_ble_eq_true rfl)) dX12_goMinute_203 ⟨Nat.le_of_ble_eq_true rfl, Nat.le_of_ble_eq_true rfl⟩) hS (fun q _ h => hFc q h) hFc (fun r0 r_48 t H locs ht hvm hw hB hz1 hk1 hS => ?_)
                  refine W.widen (k := 0) (n := 0) (Nat.le_of_ble_eq_true rfl) (Nat.le_of_ble_eq_true rfl) ?_
                  clear hvm hz1 hk1
                  subst hw
                  obtain ⟨hf_49, hT⟩ := hB
                  rw [ht] at hT
                  try simp only [hp_47] at hf_49
                  clear hp_47
                  have hiw_50 := iw_lf hW (z := r_10.toInt) (by omega) (by omega)
                  refine lv_if_le (tgt := 212) hx hb dX12_goMinute_206 (by decide) (fun c_51 => ?_) (fun c_51 => ?_)
                  · have nc_51 := z_le rfl (zk (x := 0) 0 rfl) c_51
                    refine lv_aload_n hx hb dX12_goMinute_212 rfl (lv_at hl 1 rfl) ?_
                    refine lv_iload_n hx hb dX12_goMinute_213 rfl (lv_at hl 0 rfl) ?_
                    refine lv_iconst (v := 2) hx hb dX12_goMinute_214 (by decide) ?_
                    refine lv_aload_n hx hb dX12_goMinute_215 rfl (lv_at hl 1 rfl) ?_
                    have hFc := tw_free hF hS hA
                    refine va_calli (va_runV (As := []) (rest := [.int 2, .int r_10, .ref (a 50)]) ⟨hx, hb, hml, hown, hts⟩ (m_now l dC dI ad av H.size a k τ ln y_44 g_L128 u  hI hW) (cwV 0 hts (gi_4 (List.mem_cons_of_mem _ (List.mem_append_left _ (List.mem_of_getElem? (i := 6) rfl))) (List.mem_cons_of_mem _ (List.mem_append_left _ (List.mem_of_getElem? (i := 7) rfl))) (List.mem_cons_of_mem _ (List.mem_append_left _ (List.mem_of_getElem? (i := 8) rfl))) (List.mem_cons_of_mem _ (List.mem_append_left _ (List.mem_of_getElem? (i := 5) rfl))) (fun _ hh => (List.mem_cons_of_mem _ (List.mem_append_right _ (List.mem_append_right _ (List.mem_append_right _ (List.mem_append_left _ hh)))))) gd_m_now) rfl rfl rfl (by decide +kernel) ⟨Nat.le_of_ble_eq_true rfl, Nat.le_of_ble_eq_true rfl⟩) ⟨pw_blind, tw_recv hK hT (fx_50 hX) (by decide) cl_e60 rfl, pw_use hT hK hFc hS hM⟩ rfl rfl hl.1 rfl (lv_room (Nat.le_of_ble_eq_true rfl)) dX12_goMinute_216 ⟨Nat.le_of_ble_eq_true rfl, Nat.le_of_ble_eq_true rfl⟩) hS (fun q _ h => hFc q h) hFc (fun r0 r_52 t H locs ht hvm hw hB hz1 hk1 hS => ?_)
                    refine W.widen (k := 0) (n := 0) (Nat.le_of_ble_eq_true rfl) (Nat.le_of_ble_eq_true rfl) ?_
                    clear hvm hz1 hk1
                    subst hw
                    obtain ⟨hf_53, hT⟩ := hB
                    rw [ht] at hT
                    refine lv_iconst (v := 1) hx hb dX12_goMinute_219 (by decide) ?_
                    refine lv_iadd hx hb dX12_goMinute_220 ?_
                    refine lv_topi (fun x_54 ex_54 => ?_)
                    have hx_54 := z_add ex_54 rfl (zk (x := 1) 1 rfl) (by omega) (by omega)
                    have hFc := tw_free hF hS hA
                    have hp_55 : (2 : Int32).toInt = 2 := (zk (x := 2) 2 rfl)
                    refine va_callv (va_runV (As := [.int r_10, .int 2, .int x_54]) (rest := []) ⟨hx, hb, hml, hown, hts⟩ (m_pieceP l dC dI ad av H.size a k τ ln y_44 g_L128 u r_10 (2 : Int32) x_54 hI (by omega) (by omega) (by decide) (by decide) hW) (cwV 3 hts (gi_4 (List.mem_cons_of_mem _ (List.mem_append_left _ (List.mem_of_getElem? (i := 22) rfl))) (List.mem_cons_of_mem _ (List.mem_append_left _ (List.mem_of_getElem? (i := 23) rfl))) (List.mem_cons_of_mem _ (List.mem_append_left _ (List.mem_of_getElem? (i := 24) rfl))) (List.mem_cons_of_mem _ (List.mem_append_left _ (List.mem_of_getElem? (i := 5) rfl))) (fun _ hh => (List.mem_cons_of_mem _ (List.mem_append_right _ (List.mem_append_right _ (List.mem_append_right _ (List.mem_append_right _ (List.mem_append_right _ (List.mem_append_right _ (List.mem_append_right _ (List.mem_append_left _ hh)))))))))) gd_m_pieceP) rfl rfl rfl (by decide +kernel) ⟨Nat.le_of_ble_eq_true rfl, Nat.le_of_ble_eq_true rfl⟩) ⟨pw_blind, tw_recv hK hT (fx_50 hX) (by decide) cl_e60 rfl, pw_use hT hK hFc hS hM⟩ rfl rfl hl.1 rfl (lv_room (Nat.le_of_ble_eq_true rfl)) dX12_goMinute_221 ⟨Nat.le_of_ble_eq_true rfl, Nat.le_of_ble_eq_true rfl⟩) hS (fun q _ h => hFc q h) hFc (fun u0 t H locs ht hvm hw hB hz1 hk1 hS => ?_)
                    refine W.widen (k := 0) (n := 0) (Nat.le_of_ble_eq_true rfl) (Nat.le_of_ble_eq_true rfl) ?_
                    clear hvm hz1 hk1
                    obtain ⟨i_57, hii_57, hT⟩ := hB
                    rw [ht] at hT
                    clear hp_55
                    obtain ⟨y_58, hy_58, hT⟩ : ∃ z : Nat → Nat → Int32, z = up2 y_44 (a 89) i_57.toNatClampNeg x_54 ∧ tw (dC, dI) a k τ ln z g_L128 H := ⟨_, rfl, hT⟩
                    have hG : ag τ [60, 99, 102] y y_58 := by rw [hy_58]; exact hG.up (fx_89 hX) (by decide)
                    have hI := hI.ag (S := [99]) (y' := y_58) (by rw [hy_58]; exact ag.one (fx_89 hX)) (by decide)
                    have hb_59 : i_57.toInt = 49 + 5 * (r_10.toInt) + 2 := ec_p hii_57 rfl rfl
                    clear hii_57
                    have hxv_60 : x_54.toInt = x_54.toInt := rfl
                    have := rd_o (m := 1 + 6 * (i1.toInt) + 0) hy_58 hb_59 (by omega) (by omega) (by omega)
                    have hW : IW (u 1) (u 2) (u 9) (y_58 (a 89)) := by rw [hy_58, up2_q]; exact iw_p hW hR.2.1.2 hb_59 (by omega) (by decide)
                    refine lv_aload_n hx hb dX12_goMinute_224 rfl (lv_at hl 1 rfl) ?_
                    refine lv_iload_n hx hb dX12_goMinute_225 rfl (lv_at hl 2 rfl) ?_
                    refine lv_iconst (v := 0) hx hb dX12_goMinute_226 (by decide) ?_
                    refine lv_iconst (v := (-1)) hx hb dX12_goMinute_227 (by decide) ?_
                    have hFc := tw_free hF hS hA
                    have hp_61 : (0 : Int32).toInt = 0 := (zk (x := 0) 0 rfl)
                    have hp_62 : (-1 : Int32).toInt = (-1) := (zk (x := (-1)) (-1) rfl)
                    refine va_callv (va_runV (As := [.int i1, .int 0, .int (-1)]) (rest := []) ⟨hx, hb, hml, hown, hts⟩ (m_putW l dC dI ad av H.size a k τ ln y_58 g_L128 u i1 (0 : Int32) (-1 : Int32) hI (by omega) (by omega) (by decide) (by decide)) (cwV 3 hts (gi_4 (List.mem_cons_of_mem _ (List.mem_append_left _ (List.mem_of_getElem? (i := 12) rfl))) (List.mem_cons_of_mem _ (List.mem_append_left _ (List.mem_of_getElem? (i := 13) rfl))) (List.mem_cons_of_mem _ (List.mem_append_left _ (List.mem_of_getElem? (i := 14) rfl))) (List.mem_cons_of_mem _ (List.mem_append_left _ (List.mem_of_getElem? (i := 5) rfl))) (fun _ hh => (List.mem_cons_of_mem _ (List.mem_append_right _ (List.mem_append_right _ (List.mem_append_right _ (List.mem_append_right _ (List.mem_append_right _ (List.mem_append_left _ hh)))))))) gd_m_putW) rfl rfl rfl (by decide +kernel) ⟨Nat.le_of_ble_eq_true rfl, Nat.le_of_ble_eq_true rfl⟩) ⟨pw_blind, tw_recv hK hT (fx_50 hX) (by decide) cl_e60 rfl, pw_use hT hK hFc hS hM⟩ rfl rfl hl.1 rfl (lv_room (Nat.le_of_ble_eq_true rfl)) dX12_goMinute_228 ⟨Nat.le_of_ble_eq_true rfl, Nat.le_of_ble_eq_true rfl⟩) hS (fun q _ h => hFc q h) hFc (fun u0 t H locs ht hvm hw hB hz1 hk1 hS => ?_)
                    refine W.widen (k := 0) (n := 0) (Nat.le_of_ble_eq_true rfl) (Nat.le_of_ble_eq_true rfl) ?_
                    clear hvm hz1 hk1
                    obtain ⟨i_64, hii_64, hT⟩ := hB
                    rw [ht] at hT
                    clear hp_61 hp_62
                    obtain ⟨y_65, hy_65, hT⟩ : ∃ z : Nat → Nat → Int32, z = up2 y_58 (a 89) i_64.toNatClampNeg (-1 : Int32) ∧ tw (dC, dI) a k τ ln z g_L128 H := ⟨_, rfl, hT⟩
                    have hG : ag τ [60, 99, 102] y y_65 := by rw [hy_65]; exact hG.up (fx_89 hX) (by decide)
                    have hI := hI.ag (S := [99]) (y' := y_65) (by rw [hy_65]; exact ag.one (fx_89 hX)) (by decide)
                    have hb_66 : i_64.toInt = 1 + 6 * (i1.toInt) + 0 := ec_h hii_64 rfl rfl
                    clear hii_64
                    have hxv_67 : (-1 : Int32).toInt = (-1) := (zk (x := (-1)) (-1) rfl)
                    have := rd_i (m := 1 + 6 * (i1.toInt) + 0) hy_65 hb_66 (by omega) hxv_67
                    have hWd := hW
                    refine lv_aload_n hx hb dX12_goMinute_231 rfl (lv_at hl 1 rfl) ?_
                    refine lv_iload_n hx hb dX12_goMinute_232 rfl (lv_at hl 2 rfl) ?_
                    refine lv_iconst (v := 1) hx hb dX12_goMinute_233 (by decide) ?_
                    refine lv_iconst (v := (-1)) hx hb dX12_goMinute_234 (by decide) ?_
                    have hFc := tw_free hF hS hA
                    have hp_68 : (1 : Int32).toInt = 1 := (zk (x := 1) 1 rfl)
                    have hp_69 : (-1 : Int32).toInt = (-1) := (zk (x := (-1)) (-1) rfl)
                    refine va_callv (va_runV (As := [.int i1, .int 1, .int (-1)]) (rest := []) ⟨hx, hb, hml, hown, hts⟩ (m_putW l dC dI ad av H.size a k τ ln y_65 g_L128 u i1 (1 : Int32) (-1 : Int32) hI (by omega) (by omega) (by decide) (by decide)) (cwV 3 hts (gi_4 (List.mem_cons_of_mem _ (List.mem_append_left _ (List.mem_of_getElem? (i := 12) rfl))) (List.mem_cons_of_mem _ (List.mem_append_left _ (List.mem_of_getElem? (i := 13) rfl))) (List.mem_cons_of_mem _ (List.mem_append_left _ (List.mem_of_getElem? (i := 14) rfl))) (List.mem_cons_of_mem _ (List.mem_append_left _ (List.mem_of_getElem? (i := 5) rfl))) (fun _ hh => (List.mem_cons_of_mem _ (List.mem_append_right _ (List.mem_append_right _ (List.mem_append_right _ (List.mem_append_right _ (List.mem_append_right _ (List.mem_append_left _ hh)))))))) gd_m_putW) rfl rfl rfl (by decide +kernel) ⟨Nat.le_of_ble_eq_true rfl, Nat.le_of_ble_eq_true rfl⟩) ⟨pw_blind, tw_recv hK hT (fx_50 hX) (by decide) cl_e60 rfl, pw_use hT hK hFc hS hM⟩ rfl rfl hl.1 rfl (lv_room (Nat.le_of_ble_eq_true rfl)) dX12_goMinute_235 ⟨Nat.le_of_ble_eq_true rfl, Nat.le_of_ble_eq_true rfl⟩) hS (fun q _ h => hFc q h) hFc (fun u0 t H locs ht hvm hw hB hz1 hk1 hS => ?_)
                    refine W.widen (k := 0) (n := 0) (Nat.le_of_ble_eq_true rfl) (Nat.le_of_ble_eq_true rfl) ?_
                    clear hvm hz1 hk1
                    obtain ⟨i_71, hii_71, hT⟩ := hB
                    rw [ht] at hT
                    clear hp_68 hp_69
                    obtain ⟨y_72, hy_72, hT⟩ : ∃ z : Nat → Nat → Int32, z = up2 y_65 (a 89) i_71.toNatClampNeg (-1 : Int32) ∧ tw (dC, dI) a k τ ln z g_L128 H := ⟨_, rfl, hT⟩
                    have hG : ag τ [60, 99, 102] y y_72 := by rw [hy_72]; exact hG.up (fx_89 hX) (by decide)
                    have hI := hI.ag (S := [99]) (y' := y_72) (by rw [hy_72]; exact ag.one (fx_89 hX)) (by decide)
                    have hb_73 : i_71.toInt = 1 + 6 * (i1.toInt) + 1 := ec_h hii_71 rfl rfl
                    clear hii_71
                    have hxv_74 : (-1 : Int32).toInt = (-1) := (zk (x := (-1)) (-1) rfl)
                    have := rd_hh (v := 0) hy_72 hb_73 (by omega) (by decide)
                    have hW : IW (u 1) (u 2) (u 9) (y_72 (a 89)) := by rw [hy_72, up2_q, hy_65, up2_q]; exact iw_2 hWd hR.2.1.2 hb_66 hb_73 (by omega) (by omega) hxv_67 hxv_74 (by omega)
                    refine lv_aload_n hx hb dX12_goMinute_238 rfl (lv_at hl 1 rfl) ?_
                    refine lv_iload_n hx hb dX12_goMinute_239 rfl (lv_at hl 2 rfl) ?_
                    refine lv_iconst (v := 2) hx hb dX12_goMinute_240 (by decide) ?_
                    refine lv_aload_n hx hb dX12_goMinute_241 rfl (lv_at hl 1 rfl) ?_
                    refine lv_iload_n hx hb dX12_goMinute_242 rfl (lv_at hl 2 rfl) ?_
                    refine lv_iconst (v := 2) hx hb dX12_goMinute_243 (by decide) ?_
                    have hFc := tw_free hF hS hA
                    have hp_75 : (2 : Int32).toInt = 2 := (zk (x := 2) 2 rfl)
                    refine va_calli (va_runV (As := [.int i1, .int 2]) (rest := [.int 2, .int i1, .ref (a 50)]) ⟨hx, hb, hml, hown, hts⟩ (m_get l dC dI ad av H.size a k τ ln y_72 g_L128 u i1 (2 : Int32) hI (by omega) (by omega) (by decide) (by decide) hW) (cwV 2 hts (gi_4 (List.mem_cons_of_mem _ (List.mem_append_left _ (List.mem_of_getElem? (i := 2) rfl))) (List.mem_cons_of_mem _ (List.mem_append_left _ (List.mem_of_getElem? (i := 3) rfl))) (List.mem_cons_of_mem _ (List.mem_append_left _ (List.mem_of_getElem? (i := 4) rfl))) (List.mem_cons_of_mem _ (List.mem_append_left _ (List.mem_of_getElem? (i := 5) rfl))) (fun _ hh => (List.mem_cons_of_mem _ (List.mem_append_right _ (List.mem_append_right _ (List.mem_append_left _ hh))))) gd_m_get) rfl rfl rfl (by decide +kernel) ⟨Nat.le_of_ble_eq_true rfl, Nat.le_of_ble_eq_true rfl⟩) ⟨pw_blind, tw_recv hK hT (fx_50 hX) (by decide) cl_e60 rfl, pw_use hT hK hFc hS hM⟩ rfl rfl hl.1 rfl (lv_room (Nat.le_of_ble_eq_true rfl)) dX12_goMinute_244 ⟨Nat.le_of_ble_eq_true rfl, Nat.le_of_ble_eq_true rfl⟩) hS (fun q _ h => hFc q h) hFc (fun r0 r_76 t H locs ht hvm hw hB hz1 hk1 hS => ?_)
                    refine W.widen (k := 0) (n := 0) (Nat.le_of_ble_eq_true rfl) (Nat.le_of_ble_eq_true rfl) ?_
                    clear hvm hz1 hk1
                    subst hw
                    obtain ⟨hf_77, hT⟩ := hB
                    rw [ht] at hT
                    try simp only [hp_75] at hf_77
                    clear hp_75
                    refine lv_aload_n hx hb dX12_goMinute_247 rfl (lv_at hl 1 rfl) ?_
                    refine tw_get (D := (dC, dI)) (v := .ref (a 68)) (C := RX12) (T := TX12) (N := 58) hx hb hts (fun _ hh => (List.mem_cons_of_mem _ (List.mem_append_right _ (List.mem_append_left _ hh)))) hown hK hT (fx_50 hX) (by decide) cl_e60 rfl 17 (by decide) (hts (.fieldLink RX12 52 "TypingPoolModel" "words" "[I") (List.mem_cons_of_mem _ (List.mem_append_left _ (List.mem_of_getElem? (i := 25) rfl)))) (fun _ h9 => h9) rfl dX12_goMinute_248 ?_
                    refine lv_iload_n hx hb dX12_goMinute_251 rfl (lv_at hl 0 rfl) ?_
                    refine tw_iald hx hb hK hT 0 (fx_68 hX) (by decide) cl_e78 rfl (z_in rfl (by omega) (by omega)) dX12_goMinute_252 ?_
                    refine lv_ior hx hb dX12_goMinute_253 ?_
                    refine lv_topi (fun x_78 ex_78 => ?_)
                    have hFc := tw_free hF hS hA
                    have hp_79 : (2 : Int32).toInt = 2 := (zk (x := 2) 2 rfl)
                    refine va_callv (va_runV (As := [.int i1, .int 2, .int x_78]) (rest := []) ⟨hx, hb, hml, hown, hts⟩ (m_putW l dC dI ad av H.size a k τ ln y_72 g_L128 u i1 (2 : Int32) x_78 hI (by omega) (by omega) (by decide) (by decide)) (cwV 3 hts (gi_4 (List.mem_cons_of_mem _ (List.mem_append_left _ (List.mem_of_getElem? (i := 12) rfl))) (List.mem_cons_of_mem _ (List.mem_append_left _ (List.mem_of_getElem? (i := 13) rfl))) (List.mem_cons_of_mem _ (List.mem_append_left _ (List.mem_of_getElem? (i := 14) rfl))) (List.mem_cons_of_mem _ (List.mem_append_left _ (List.mem_of_getElem? (i := 5) rfl))) (fun _ hh => (List.mem_cons_of_mem _ (List.mem_append_right _ (List.mem_append_right _ (List.mem_append_right _ (List.mem_append_right _ (List.mem_append_right _ (List.mem_append_left _ hh)))))))) gd_m_putW) rfl rfl rfl (by decide +kernel) ⟨Nat.le_of_ble_eq_true rfl, Nat.le_of_ble_eq_true rfl⟩) ⟨pw_blind, tw_recv hK hT (fx_50 hX) (by decide) cl_e60 rfl, pw_use hT hK hFc hS hM⟩ rfl rfl hl.1 rfl (lv_room (Nat.le_of_ble_eq_true rfl)) dX12_goMinute_254 ⟨Nat.le_of_ble_eq_true rfl, Nat.le_of_ble_eq_true rfl⟩) hS (fun q _ h => hFc q h) hFc (fun u0 t H locs ht hvm hw hB hz1 hk1 hS => ?_)
                    refine W.widen (k := 0) (n := 0) (Nat.le_of_ble_eq_true rfl) (Nat.le_of_ble_eq_true rfl) ?_
                    clear hvm hz1 hk1
                    obtain ⟨i_81, hii_81, hT⟩ := hB
                    rw [ht] at hT
                    clear hp_79
                    obtain ⟨y_82, hy_82, hT⟩ : ∃ z : Nat → Nat → Int32, z = up2 y_72 (a 89) i_81.toNatClampNeg x_78 ∧ tw (dC, dI) a k τ ln z g_L128 H := ⟨_, rfl, hT⟩
                    have hG : ag τ [60, 99, 102] y y_82 := by rw [hy_82]; exact hG.up (fx_89 hX) (by decide)
                    have hI := hI.ag (S := [99]) (y' := y_82) (by rw [hy_82]; exact ag.one (fx_89 hX)) (by decide)
                    have hb_83 : i_81.toInt = 1 + 6 * (i1.toInt) + 2 := ec_h hii_81 rfl rfl
                    clear hii_81
                    have hxv_84 : x_78.toInt = x_78.toInt := rfl
                    have := rd_hh (v := 0) hy_82 hb_83 (by omega) (by decide)
                    have hW : IW (u 1) (u 2) (u 9) (y_82 (a 89)) := by rw [hy_82, up2_q]; exact iw_h hW hR.2.1.2 hb_83 (by omega) (by omega) (by decide)
                    refine lv_aload_n hx hb dX12_goMinute_257 rfl (lv_at hl 1 rfl) ?_
                    refine lv_iload_n hx hb dX12_goMinute_258 rfl (lv_at hl 2 rfl) ?_
                    refine lv_iconst (v := 4) hx hb dX12_goMinute_259 (by decide) ?_
                    refine lv_aload_n hx hb dX12_goMinute_260 rfl (lv_at hl 1 rfl) ?_
                    refine lv_iload_n hx hb dX12_goMinute_261 rfl (lv_at hl 2 rfl) ?_
                    refine lv_iconst (v := 4) hx hb dX12_goMinute_262 (by decide) ?_
                    have hFc := tw_free hF hS hA
                    have hp_85 : (4 : Int32).toInt = 4 := (zk (x := 4) 4 rfl)
                    refine va_calli (va_runV (As := [.int i1, .int 4]) (rest := [.int 4, .int i1, .ref (a 50)]) ⟨hx, hb, hml, hown, hts⟩ (m_get l dC dI ad av H.size a k τ ln y_82 g_L128 u i1 (4 : Int32) hI (by omega) (by omega) (by decide) (by decide) hW) (cwV 2 hts (gi_4 (List.mem_cons_of_mem _ (List.mem_append_left _ (List.mem_of_getElem? (i := 2) rfl))) (List.mem_cons_of_mem _ (List.mem_append_left _ (List.mem_of_getElem? (i := 3) rfl))) (List.mem_cons_of_mem _ (List.mem_append_left _ (List.mem_of_getElem? (i := 4) rfl))) (List.mem_cons_of_mem _ (List.mem_append_left _ (List.mem_of_getElem? (i := 5) rfl))) (fun _ hh => (List.mem_cons_of_mem _ (List.mem_append_right _ (List.mem_append_right _ (List.mem_append_left _ hh))))) gd_m_get) rfl rfl rfl (by decide +kernel) ⟨Nat.le_of_ble_eq_true rfl, Nat.le_of_ble_eq_true rfl⟩) ⟨pw_blind, tw_recv hK hT (fx_50 hX) (by decide) cl_e60 rfl, pw_use hT hK hFc hS hM⟩ rfl rfl hl.1 rfl (lv_room (Nat.le_of_ble_eq_true rfl)) dX12_goMinute_263 ⟨Nat.le_of_ble_eq_true rfl, Nat.le_of_ble_eq_true rfl⟩) hS (fun q _ h => hFc q h) hFc (fun r0 r_86 t H locs ht hvm hw hB hz1 hk1 hS => ?_)
                    refine W.widen (k := 0) (n := 0) (Nat.le_of_ble_eq_true rfl) (Nat.le_of_ble_eq_true rfl) ?_
                    clear hvm hz1 hk1
                    subst hw
                    obtain ⟨hf_87, hT⟩ := hB
                    rw [ht] at hT
                    try simp only [hp_85] at hf_87
                    clear hp_85
                    refine lv_aload_n hx hb dX12_goMinute_266 rfl (lv_at hl 1 rfl) ?_
                    refine tw_get (D := (dC, dI)) (v := .ref (a 63)) (C := RX12) (T := TX12) (N := 58) hx hb hts (fun _ hh => (List.mem_cons_of_mem _ (List.mem_append_right _ (List.mem_append_left _ hh)))) hown hK hT (fx_50 hX) (by decide) cl_e60 rfl 12 (by decide) (hts (.fieldLink RX12 37 "TypingPoolModel" "lines" "[I") (List.mem_cons_of_mem _ (List.mem_append_left _ (List.mem_of_getElem? (i := 26) rfl)))) (fun _ h9 => h9) rfl dX12_goMinute_267 ?_
                    refine lv_iload_n hx hb dX12_goMinute_270 rfl (lv_at hl 0 rfl) ?_
                    refine tw_iald hx hb hK hT 0 (fx_63 hX) (by decide) cl_e73 rfl (z_in rfl (by omega) (by omega)) dX12_goMinute_271 ?_
                    have hv_88 := vb_at (im_a63 hI) (x := r_10) rfl (by omega) (by omega)
                    refine lv_iadd hx hb dX12_goMinute_272 ?_
                    refine lv_topi (fun x_89 ex_89 => ?_)
                    have hFc := tw_free hF hS hA
                    have hp_90 : (4 : Int32).toInt = 4 := (zk (x := 4) 4 rfl)
                    refine va_callv (va_runV (As := [.int i1, .int 4, .int x_89]) (rest := []) ⟨hx, hb, hml, hown, hts⟩ (m_putW l dC dI ad av H.size a k τ ln y_82 g_L128 u i1 (4 : Int32) x_89 hI (by omega) (by omega) (by decide) (by decide)) (cwV 3 hts (gi_4 (List.mem_cons_of_mem _ (List.mem_append_left _ (List.mem_of_getElem? (i := 12) rfl))) (List.mem_cons_of_mem _ (List.mem_append_left _ (List.mem_of_getElem? (i := 13) rfl))) (List.mem_cons_of_mem _ (List.mem_append_left _ (List.mem_of_getElem? (i := 14) rfl))) (List.mem_cons_of_mem _ (List.mem_append_left _ (List.mem_of_getElem? (i := 5) rfl))) (fun _ hh => (List.mem_cons_of_mem _ (List.mem_append_right _ (List.mem_append_right _ (List.mem_append_right _ (List.mem_append_right _ (List.mem_append_right _ (List.mem_append_left _ hh)))))))) gd_m_putW) rfl rfl rfl (by decide +kernel) ⟨Nat.le_of_ble_eq_true rfl, Nat.le_of_ble_eq_true rfl⟩) ⟨pw_blind, tw_recv hK hT (fx_50 hX) (by decide) cl_e60 rfl, pw_use hT hK hFc hS hM⟩ rfl rfl hl.1 rfl (lv_room (Nat.le_of_ble_eq_true rfl)) dX12_goMinute_273 ⟨Nat.le_of_ble_eq_true rfl, Nat.le_of_ble_eq_true rfl⟩) hS (fun q _ h => hFc q h) hFc (fun u0 t H locs ht hvm hw hB hz1 hk1 hS => ?_)
                    refine W.widen (k := 0) (n := 0) (Nat.le_of_ble_eq_true rfl) (Nat.le_of_ble_eq_true rfl) ?_
                    clear hvm hz1 hk1
                    obtain ⟨i_92, hii_92, hT⟩ := hB
                    rw [ht] at hT
                    clear hp_90
                    obtain ⟨y_93, hy_93, hT⟩ : ∃ z : Nat → Nat → Int32, z = up2 y_82 (a 89) i_92.toNatClampNeg x_89 ∧ tw (dC, dI) a k τ ln z g_L128 H := ⟨_, rfl, hT⟩
                    have hG : ag τ [60, 99, 102] y y_93 := by rw [hy_93]; exact hG.up (fx_89 hX) (by decide)
                    have hI := hI.ag (S := [99]) (y' := y_93) (by rw [hy_93]; exact ag.one (fx_89 hX)) (by decide)
                    have hb_94 : i_92.toInt = 1 + 6 * (i1.toInt) + 4 := ec_h hii_92 rfl rfl
                    clear hii_92
                    have hxv_95 : x_89.toInt = x_89.toInt := rfl
                    have := rd_hh (v := 0) hy_93 hb_94 (by omega) (by decide)
                    have hW : IW (u 1) (u 2) (u 9) (y_93 (a 89)) := by rw [hy_93, up2_q]; exact iw_h hW hR.2.1.2 hb_94 (by omega) (by omega) (by decide)
                    refine lv_aload_n hx hb dX12_goMinute_276 rfl (lv_at hl 1 rfl) ?_
                    refine lv_iload_n hx hb dX12_goMinute_277 rfl (lv_at hl 2 rfl) ?_
                    refine lv_iconst (v := 5) hx hb dX12_goMinute_278 (by decide) ?_
                    refine lv_aload_n hx hb dX12_goMinute_279 rfl (lv_at hl 1 rfl) ?_
                    refine lv_iload_n hx hb dX12_goMinute_280 rfl (lv_at hl 2 rfl) ?_
                    refine lv_iconst (v := 5) hx hb dX12_goMinute_281 (by decide) ?_
                    have hFc := tw_free hF hS hA
                    have hp_96 : (5 : Int32).toInt = 5 := (zk (x := 5) 5 rfl)
                    refine va_calli (va_runV (As := [.int i1, .int 5]) (rest := [.int 5, .int i1, .ref (a 50)]) ⟨hx, hb, hml, hown, hts⟩ (m_get l dC dI ad av H.size a k τ ln y_93 g_L128 u i1 (5 : Int32) hI (by omega) (by omega) (by decide) (by decide) hW) (cwV 2 hts (gi_4 (List.mem_cons_of_mem _ (List.mem_append_left _ (List.mem_of_getElem? (i := 2) rfl))) (List.mem_cons_of_mem _ (List.mem_append_left _ (List.mem_of_getElem? (i := 3) rfl))) (List.mem_cons_of_mem _ (List.mem_append_left _ (List.mem_of_getElem? (i := 4) rfl))) (List.mem_cons_of_mem _ (List.mem_append_left _ (List.mem_of_getElem? (i := 5) rfl))) (fun _ hh => (List.mem_cons_of_mem _ (List.mem_append_right _ (List.mem_append_right _ (List.mem_append_left _ hh))))) gd_m_get) rfl rfl rfl (by decide +kernel) ⟨Nat.le_of_ble_eq_true rfl, Nat.le_of_ble_eq_true rfl⟩) ⟨pw_blind, tw_recv hK hT (fx_50 hX) (by decide) cl_e60 rfl, pw_use hT hK hFc hS hM⟩ rfl rfl hl.1 rfl (lv_room (Nat.le_of_ble_eq_true rfl)) dX12_goMinute_282 ⟨Nat.le_of_ble_eq_true rfl, Nat.le_of_ble_eq_true rfl⟩) hS (fun q _ h => hFc q h) hFc (fun r0 r_97 t H locs ht hvm hw hB hz1 hk1 hS => ?_)
                    refine W.widen (k := 0) (n := 0) (Nat.le_of_ble_eq_true rfl) (Nat.le_of_ble_eq_true rfl) ?_
                    clear hvm hz1 hk1
                    subst hw
                    obtain ⟨hf_98, hT⟩ := hB
                    rw [ht] at hT
                    try simp only [hp_96] at hf_98
                    clear hp_96
                    refine lv_iconst (v := 1) hx hb dX12_goMinute_285 (by decide) ?_
                    refine lv_iadd hx hb dX12_goMinute_286 ?_
                    refine lv_topi (fun x_99 ex_99 => ?_)
                    have hFc := tw_free hF hS hA
                    have hp_100 : (5 : Int32).toInt = 5 := (zk (x := 5) 5 rfl)
                    refine va_callv (va_runV (As := [.int i1, .int 5, .int x_99]) (rest := []) ⟨hx, hb, hml, hown, hts⟩ (m_putW l dC dI ad av H.size a k τ ln y_93 g_L128 u i1 (5 : Int32) x_99 hI (by omega) (by omega) (by decide) (by decide)) (cwV 3 hts (gi_4 (List.mem_cons_of_mem _ (List.mem_append_left _ (List.mem_of_getElem? (i := 12) rfl))) (List.mem_cons_of_mem _ (List.mem_append_left _ (List.mem_of_getElem? (i := 13) rfl))) (List.mem_cons_of_mem _ (List.mem_append_left _ (List.mem_of_getElem? (i := 14) rfl))) (List.mem_cons_of_mem _ (List.mem_append_left _ (List.mem_of_getElem? (i := 5) rfl))) (fun _ hh => (List.mem_cons_of_mem _ (List.mem_append_right _ (List.mem_append_right _ (List.mem_append_right _ (List.mem_append_right _ (List.mem_append_right _ (List.mem_append_left _ hh)))))))) gd_m_putW) rfl rfl rfl (by decide +kernel) ⟨Nat.le_of_ble_eq_true rfl, Nat.le_of_ble_eq_true rfl⟩) ⟨pw_blind, tw_recv hK hT (fx_50 hX) (by decide) cl_e60 rfl, pw_use hT hK hFc hS hM⟩ rfl rfl hl.1 rfl (lv_room (Nat.le_of_ble_eq_true rfl)) dX12_goMinute_287 ⟨Nat.le_of_ble_eq_true rfl, Nat.le_of_ble_eq_true rfl⟩) hS (fun q _ h => hFc q h) hFc (fun u0 t H locs ht hvm hw hB hz1 hk1 hS => ?_)
                    refine W.widen (k := 0) (n := 0) (Nat.le_of_ble_eq_true rfl) (Nat.le_of_ble_eq_true rfl) ?_
                    clear hvm hz1 hk1
                    obtain ⟨i_102, hii_102, hT⟩ := hB
                    rw [ht] at hT
                    clear hp_100
                    obtain ⟨y_103, hy_103, hT⟩ : ∃ z : Nat → Nat → Int32, z = up2 y_93 (a 89) i_102.toNatClampNeg x_99 ∧ tw (dC, dI) a k τ ln z g_L128 H := ⟨_, rfl, hT⟩
                    have hG : ag τ [60, 99, 102] y y_103 := by rw [hy_103]; exact hG.up (fx_89 hX) (by decide)
                    have hI := hI.ag (S := [99]) (y' := y_103) (by rw [hy_103]; exact ag.one (fx_89 hX)) (by decide)
                    have hb_104 : i_102.toInt = 1 + 6 * (i1.toInt) + 5 := ec_h hii_102 rfl rfl
                    clear hii_102
                    have hxv_105 : x_99.toInt = x_99.toInt := rfl
                    have := rd_hh (v := 0) hy_103 hb_104 (by omega) (by decide)
                    have hW : IW (u 1) (u 2) (u 9) (y_103 (a 89)) := by rw [hy_103, up2_q]; exact iw_h hW hR.2.1.2 hb_104 (by omega) (by omega) (by decide)
                    obtain ⟨x_106, ex_106⟩ : ∃ y : Int32, y = i1 + Int32.ofInt 1 := ⟨_, rfl⟩
                    have hx_106 := z_add ex_106 rfl (zk (x := Int32.ofInt 1) 1 rfl) (by omega) (by omega)
                    refine lv_iinc (v := x_106) (lv' := [(1, .int x_106), (2, .int r_10), (0, .ref (a 50))]) hx hb dX12_goMinute_290 hl (k := 2) rfl ex_106.symm (by decide) rfl (fun ls hl => ?_)
                    refine lv_goto (tgt := 128) hx hb dX12_goMinute_293 (by decide) ?_
                    exact ih_128  x_106 y_103 g_L128 H _ ls (by omega) hG hI hGg hW (by omega) (by omega) hT hS (lv_sub hl [2, 0] rfl)
                  · have nc_51 := z_nle rfl (zk (x := 0) 0 rfl) c_51
                    refine lv_goto (tgt := 290) hx hb dX12_goMinute_209 (by decide) ?_
                    obtain ⟨x_107, ex_107⟩ : ∃ y : Int32, y = i1 + Int32.ofInt 1 := ⟨_, rfl⟩
                    have hx_107 := z_add ex_107 rfl (zk (x := Int32.ofInt 1) 1 rfl) (by omega) (by omega)
                    refine lv_iinc (v := x_107) (lv' := [(1, .int x_107), (2, .int r_10), (0, .ref (a 50))]) hx hb dX12_goMinute_290 hl (k := 2) rfl ex_107.symm (by decide) rfl (fun ls hl => ?_)
                    refine lv_goto (tgt := 128) hx hb dX12_goMinute_293 (by decide) ?_
                    exact ih_128  x_107 y_44 g_L128 H _ ls (by omega) hG hI hGg hW (by omega) (by omega) hT hS (lv_sub hl [2, 0] rfl)
        have hp_108 : (0 : Int32).toInt = 0 := (zk (x := 0) 0 rfl)
        exact loop_128 _ (0 : Int32) y_L2 g_L2 H _ ls (Nat.lt_succ_self _) hG hI hGg hW (by omega) (by omega) hT hS (lv_sub hl [1, 0] rfl)
      · have nc_2 := z_nle hc_1 rfl c_2
        refine lv_aload_n hx hb dX12_goMinute_10 rfl (lv_at hl 0 rfl) ?_
        refine lv_iload_n hx hb dX12_goMinute_11 rfl (lv_at hl 1 rfl) ?_
        refine lv_iconst (v := 0) hx hb dX12_goMinute_12 (by decide) ?_
        have hFc := tw_free hF hS hA
        have hp_109 : (0 : Int32).toInt = 0 := (zk (x := 0) 0 rfl)
        refine va_calli (va_runV (As := [.int i1, .int 0]) (rest := []) ⟨hx, hb, hml, hown, hts⟩ (m_get l dC dI ad av H.size a k τ ln y_L2 g_L2 u i1 (0 : Int32) hI (by omega) (by omega) (by decide) (by decide) hW) (cwV 2 hts (gi_4 (List.mem_cons_of_mem _ (List.mem_append_left _ (List.mem_of_getElem? (i := 2) rfl))) (List.mem_cons_of_mem _ (List.mem_append_left _ (List.mem_of_getElem? (i := 3) rfl))) (List.mem_cons_of_mem _ (List.mem_append_left _ (List.mem_of_getElem? (i := 4) rfl))) (List.mem_cons_of_mem _ (List.mem_append_left _ (List.mem_of_getElem? (i := 5) rfl))) (fun _ hh => (List.mem_cons_of_mem _ (List.mem_append_right _ (List.mem_append_right _ (List.mem_append_left _ hh))))) gd_m_get) rfl rfl rfl (by decide +kernel) ⟨Nat.le_of_ble_eq_true rfl, Nat.le_of_ble_eq_true rfl⟩) ⟨pw_blind, tw_recv hK hT (fx_50 hX) (by decide) cl_e60 rfl, pw_use hT hK hFc hS hM⟩ rfl rfl hl.1 rfl (lv_room (Nat.le_of_ble_eq_true rfl)) dX12_goMinute_13 ⟨Nat.le_of_ble_eq_true rfl, Nat.le_of_ble_eq_true rfl⟩) hS (fun q _ h => hFc q h) hFc (fun r0 r_110 t H locs ht hvm hw hB hz1 hk1 hS => ?_)
        refine W.widen (k := 0) (n := 0) (Nat.le_of_ble_eq_true rfl) (Nat.le_of_ble_eq_true rfl) ?_
        clear hvm hz1 hk1
        subst hw
        obtain ⟨hf_111, hT⟩ := hB
        rw [ht] at hT
        try simp only [hp_109] at hf_111
        clear hp_109
        have hiw_112 := iw_rt hW (z := i1.toInt) (by omega) (by omega)
        refine lv_iconst (v := (-1)) hx hb dX12_goMinute_16 (by decide) ?_
        refine lv_icmp_ne (tgt := 120) hx hb dX12_goMinute_17 (by decide) (fun c_113 => ?_) (fun c_113 => ?_)
        · have nc_113 := z_ne rfl (zk (x := (-1)) (-1) rfl) c_113
          obtain ⟨x_114, ex_114⟩ : ∃ y : Int32, y = i1 + Int32.ofInt 1 := ⟨_, rfl⟩
          have hx_114 := z_add ex_114 rfl (zk (x := Int32.ofInt 1) 1 rfl) (by omega) (by omega)
          refine lv_iinc (v := x_114) (lv' := [(1, .int x_114), (0, .ref (a 50))]) hx hb dX12_goMinute_120 hl (k := 1) rfl ex_114.symm (by decide) rfl (fun ls hl => ?_)
          refine lv_goto (tgt := 2) hx hb dX12_goMinute_123 (by decide) ?_
          exact ih_2  x_114 y_L2 g_L2 H _ ls (by omega) hG hI hGg hW (by omega) (by omega) hT hS (lv_sub hl [1, 0] rfl)
        · have nc_113 := z_eq rfl (zk (x := (-1)) (-1) rfl) c_113
          refine lv_aload_n hx hb dX12_goMinute_20 rfl (lv_at hl 0 rfl) ?_
          refine lv_iload_n hx hb dX12_goMinute_21 rfl (lv_at hl 1 rfl) ?_
          refine lv_aload_n hx hb dX12_goMinute_22 rfl (lv_at hl 0 rfl) ?_
          have hFc := tw_free hF hS hA
          refine va_calli (va_runV (As := []) (rest := [.int i1, .ref (a 50)]) ⟨hx, hb, hml, hown, hts⟩ (m_now l dC dI ad av H.size a k τ ln y_L2 g_L2 u  hI hW) (cwV 0 hts (gi_4 (List.mem_cons_of_mem _ (List.mem_append_left _ (List.mem_of_getElem? (i := 6) rfl))) (List.mem_cons_of_mem _ (List.mem_append_left _ (List.mem_of_getElem? (i := 7) rfl))) (List.mem_cons_of_mem _ (List.mem_append_left _ (List.mem_of_getElem? (i := 8) rfl))) (List.mem_cons_of_mem _ (List.mem_append_left _ (List.mem_of_getElem? (i := 5) rfl))) (fun _ hh => (List.mem_cons_of_mem _ (List.mem_append_right _ (List.mem_append_right _ (List.mem_append_right _ (List.mem_append_left _ hh)))))) gd_m_now) rfl rfl rfl (by decide +kernel) ⟨Nat.le_of_ble_eq_true rfl, Nat.le_of_ble_eq_true rfl⟩) ⟨pw_blind, tw_recv hK hT (fx_50 hX) (by decide) cl_e60 rfl, pw_use hT hK hFc hS hM⟩ rfl rfl hl.1 rfl (lv_room (Nat.le_of_ble_eq_true rfl)) dX12_goMinute_23 ⟨Nat.le_of_ble_eq_true rfl, Nat.le_of_ble_eq_true rfl⟩) hS (fun q _ h => hFc q h) hFc (fun r0 r_115 t H locs ht hvm hw hB hz1 hk1 hS => ?_)
          refine W.widen (k := 0) (n := 0) (Nat.le_of_ble_eq_true rfl) (Nat.le_of_ble_eq_true rfl) ?_
          clear hvm hz1 hk1
          subst hw
          obtain ⟨hf_116, hT⟩ := hB
          rw [ht] at hT
          have hFc := tw_free hF hS hA
          refine va_calli (va_runV (As := [.int i1, .int r_115]) (rest := []) ⟨hx, hb, hml, hown, hts⟩ (m_isAway l dC dI ad av H.size a k τ ln y_L2 g_L2 u i1 r_115 hI hW) (cwV 2 hts (gi_4 (List.mem_cons_of_mem _ (List.mem_append_left _ (List.mem_of_getElem? (i := 9) rfl))) (List.mem_cons_of_mem _ (List.mem_append_left _ (List.mem_of_getElem? (i := 10) rfl))) (List.mem_cons_of_mem _ (List.mem_append_left _ (List.mem_of_getElem? (i := 11) rfl))) (List.mem_cons_of_mem _ (List.mem_append_left _ (List.mem_of_getElem? (i := 5) rfl))) (fun _ hh => (List.mem_cons_of_mem _ (List.mem_append_right _ (List.mem_append_right _ (List.mem_append_right _ (List.mem_append_right _ (List.mem_append_left _ hh))))))) gd_m_isAway) rfl rfl rfl (by decide +kernel) ⟨Nat.le_of_ble_eq_true rfl, Nat.le_of_ble_eq_true rfl⟩) ⟨pw_blind, tw_recv hK hT (fx_50 hX) (by decide) cl_e60 rfl, pw_use hT hK hFc hS hM⟩ rfl rfl hl.1 rfl (lv_room (Nat.le_of_ble_eq_true rfl)) dX12_goMinute_26 ⟨Nat.le_of_ble_eq_true rfl, Nat.le_of_ble_eq_true rfl⟩) hS (fun q _ h => hFc q h) hFc (fun r0 r_117 t H locs ht hvm hw hB hz1 hk1 hS => ?_)
          refine W.widen (k := 0) (n := 0) (Nat.le_of_ble_eq_true rfl) (Nat.le_of_ble_eq_true rfl) ?_
          clear hvm hz1 hk1
          subst hw
          rcases hB with ⟨hre, hT⟩ | ⟨hre, hT⟩
          · refine lq_top (v := 1) hre ?_
            rw [ht] at hT
            refine lv_if_eq (tgt := 35) hx hb dX12_goMinute_29 (by decide) (fun c_118 => absurd c_118 (by decide)) (fun c_118 => ?_)
            refine lv_goto (tgt := 120) hx hb dX12_goMinute_32 (by decide) ?_
            obtain ⟨x_119, ex_119⟩ : ∃ y : Int32, y = i1 + Int32.ofInt 1 := ⟨_, rfl⟩
            have hx_119 := z_add ex_119 rfl (zk (x := Int32.ofInt 1) 1 rfl) (by omega) (by omega)
            refine lv_iinc (v := x_119) (lv' := [(1, .int x_119), (0, .ref (a 50))]) hx hb dX12_goMinute_120 hl (k := 1) rfl ex_119.symm (by decide) rfl (fun ls hl => ?_)
            refine lv_goto (tgt := 2) hx hb dX12_goMinute_123 (by decide) ?_
            exact ih_2  x_119 y_L2 g_L2 H _ ls (by omega) hG hI hGg hW (by omega) (by omega) hT hS (lv_sub hl [1, 0] rfl)
          · refine lq_top (v := 0) hre ?_
            rw [ht] at hT
            refine lv_if_eq (tgt := 35) hx hb dX12_goMinute_29 (by decide) (fun c_120 => ?_) (fun c_120 => absurd c_120 (by decide))
            refine lv_aload_n hx hb dX12_goMinute_35 rfl (lv_at hl 0 rfl) ?_
            refine lv_iload_n hx hb dX12_goMinute_36 rfl (lv_at hl 1 rfl) ?_
            have hFc := tw_free hF hS hA
            refine va_calli (va_runV (As := [.int i1]) (rest := []) ⟨hx, hb, hml, hown, hts⟩ (m_choose l dC dI ad av H.size a k τ ln y_L2 g_L2 u i1 hI (by omega) (by omega) hW) (cwV 1 hts (gi_4 (List.mem_cons_of_mem _ (List.mem_append_left _ (List.mem_of_getElem? (i := 27) rfl))) (List.mem_cons_of_mem _ (List.mem_append_left _ (List.mem_of_getElem? (i := 28) rfl))) (List.mem_cons_of_mem _ (List.mem_append_left _ (List.mem_of_getElem? (i := 29) rfl))) (List.mem_cons_of_mem _ (List.mem_append_left _ (List.mem_of_getElem? (i := 5) rfl))) (fun _ hh => (List.mem_cons_of_mem _ (List.mem_append_right _ (List.mem_append_right _ (List.mem_append_right _ (List.mem_append_right _ (List.mem_append_right _ (List.mem_append_right _ (List.mem_append_right _ (List.mem_append_right _ (List.mem_append_left _ hh))))))))))) gd_m_choose) rfl rfl rfl (by decide +kernel) ⟨Nat.le_of_ble_eq_true rfl, Nat.le_of_ble_eq_true rfl⟩) ⟨pw_blind, tw_recv hK hT (fx_50 hX) (by decide) cl_e60 rfl, pw_use hT hK hFc hS hM⟩ rfl rfl hl.1 rfl (lv_room (Nat.le_of_ble_eq_true rfl)) dX12_goMinute_37 ⟨Nat.le_of_ble_eq_true rfl, Nat.le_of_ble_eq_true rfl⟩) hS (fun q _ h => hFc q h) hFc (fun r0 r_121 t H locs ht hvm hw hB hz1 hk1 hS => ?_)
            refine W.widen (k := 0) (n := 0) (Nat.le_of_ble_eq_true rfl) (Nat.le_of_ble_eq_true rfl) ?_
            clear hvm hz1 hk1
            subst hw
            obtain ⟨y_122, g_123, hgy_122, hggg_123, hI, hf_124, hT⟩ := hB
            rw [ht] at hT
            have hG := hG.tr hgy_122 (by decide)
            have hGg := hGg.tr hggg_123
            have hW : IW (u 1) (u 2) (u 9) (y_122 (a 89)) := by rw [hgy_122.at (fx_89 hX) (by decide)]; exact hW
            clear hc_1
            refine lv_istore_n (lv' := [(2, .int r_121), (0, .ref (a 50)), (1, .int i1)]) hx hb dX12_goMinute_40 rfl hl (by decide) rfl (fun ls hl => ?_)
            refine lv_iload_n hx hb dX12_goMinute_41 rfl (lv_at hl 0 rfl) ?_
            refine lv_iconst (v := (-1)) hx hb dX12_goMinute_42 (by decide) ?_
            refine lv_icmp_ne (tgt := 49) hx hb dX12_goMinute_43 (by decide) (fun c_125 => ?_) (fun c_125 => ?_)
            · have nc_125 := z_ne rfl (zk (x := (-1)) (-1) rfl) c_125
              refine lv_aload_n hx hb dX12_goMinute_49 rfl (lv_at hl 1 rfl) ?_
              refine tw_get (D := (dC, dI)) (v := .ref (a 68)) (C := RX12) (T := TX12) (N := 58) hx hb hts (fun _ hh => (List.mem_cons_of_mem _ (List.mem_append_right _ (List.mem_append_left _ hh)))) hown hK hT (fx_50 hX) (by decide) cl_e60 rfl 17 (by decide) (hts (.fieldLink RX12 52 "TypingPoolModel" "words" "[I") (List.mem_cons_of_mem _ (List.mem_append_left _ (List.mem_of_getElem? (i := 25) rfl)))) (fun _ h9 => h9) rfl dX12_goMinute_50 ?_
              refine lv_iload_n hx hb dX12_goMinute_53 rfl (lv_at hl 0 rfl) ?_
              refine tw_iald hx hb hK hT 0 (fx_68 hX) (by decide) cl_e78 rfl (z_in rfl (by omega) (by omega)) dX12_goMinute_54 ?_
              refine lv_aload_n hx hb dX12_goMinute_55 rfl (lv_at hl 1 rfl) ?_
              refine lv_iload_n hx hb dX12_goMinute_56 rfl (lv_at hl 2 rfl) ?_
              refine lv_iconst (v := 2) hx hb dX12_goMinute_57 (by decide) ?_
              have hFc := tw_free hF hS hA
              have hp_126 : (2 : Int32).toInt = 2 := (zk (x := 2) 2 rfl)
              refine va_calli (va_runV (As := [.int i1, .int 2]) (rest := [.int (y_122 (a 68) r_121.toNatClampNeg)]) ⟨hx, hb, hml, hown, hts⟩ (m_get l dC dI ad av H.size a k τ ln y_122 g_123 u i1 (2 : Int32) hI (by omega) (by omega) (by decide) (by decide) hW) (cwV 2 hts (gi_4 (List.mem_cons_of_mem _ (List.mem_append_left _ (List.mem_of_getElem? (i := 2) rfl))) (List.mem_cons_of_mem _ (List.mem_append_left _ (List.mem_of_getElem? (i := 3) rfl))) (List.mem_cons_of_mem _ (List.mem_append_left _ (List.mem_of_getElem? (i := 4) rfl))) (List.mem_cons_of_mem _ (List.mem_append_left _ (List.mem_of_getElem? (i := 5) rfl))) (fun _ hh => (List.mem_cons_of_mem _ (List.mem_append_right _ (List.mem_append_right _ (List.mem_append_left _ hh))))) gd_m_get) rfl rfl rfl (by decide +kernel) ⟨Nat.le_of_ble_eq_true rfl, Nat.le_of_ble_eq_true rfl⟩) ⟨pw_blind, tw_recv hK hT (fx_50 hX) (by decide) cl_e60 rfl, pw_use hT hK hFc hS hM⟩ rfl rfl hl.1 rfl (lv_room (Nat.le_of_ble_eq_true rfl)) dX12_goMinute_58 ⟨Nat.le_of_ble_eq_true rfl, Nat.le_of_ble_eq_true rfl⟩) hS (fun q _ h => hFc q h) hFc (fun r0 r_127 t H locs ht hvm hw hB hz1 hk1 hS => ?_)
              refine W.widen (k := 0) (n := 0) (Nat.le_of_ble_eq_true rfl) (Nat.le_of_ble_eq_true rfl) ?_
              clear hvm hz1 hk1
              subst hw
              obtain ⟨hf_128, hT⟩ := hB
              rw [ht] at hT
              try simp only [hp_126] at hf_128
              clear hp_126
              refine lv_iconst (v := (-1)) hx hb dX12_goMinute_61 (by decide) ?_
              refine lv_ixor hx hb dX12_goMinute_62 ?_
              refine lv_topi (fun x_129 ex_129 => ?_)
              refine lv_iand hx hb dX12_goMinute_63 ?_
              refine lv_topi (fun x_130 ex_130 => ?_)
              refine lv_istore_n (lv' := [(3, .int x_130), (2, .int r_121), (0, .ref (a 50)), (1, .int i1)]) hx hb dX12_goMinute_64 rfl hl (by decide) rfl (fun ls hl => ?_)
              refine lv_aload_n hx hb dX12_goMinute_65 rfl (lv_at hl 2 rfl) ?_
              refine lv_iload_n hx hb dX12_goMinute_66 rfl (lv_at hl 3 rfl) ?_
              refine lv_iconst (v := 0) hx hb dX12_goMinute_67 (by decide) ?_
              refine lv_iload_n hx hb dX12_goMinute_68 rfl (lv_at hl 1 rfl) ?_
              have hFc := tw_free hF hS hA
              have hp_131 : (0 : Int32).toInt = 0 := (zk (x := 0) 0 rfl)
              refine va_callv (va_runV (As := [.int i1, .int 0, .int r_121]) (rest := []) ⟨hx, hb, hml, hown, hts⟩ (m_putW l dC dI ad av H.size a k τ ln y_122 g_123 u i1 (0 : Int32) r_121 hI (by omega) (by omega) (by decide) (by decide)) (cwV 3 hts (gi_4 (List.mem_cons_of_mem _ (List.mem_append_left _ (List.mem_of_getElem? (i := 12) rfl))) (List.mem_cons_of_mem _ (List.mem_append_left _ (List.mem_of_getElem? (i := 13) rfl))) (List.mem_cons_of_mem _ (List.mem_append_left _ (List.mem_of_getElem? (i := 14) rfl))) (List.mem_cons_of_mem _ (List.mem_append_left _ (List.mem_of_getElem? (i := 5) rfl))) (fun _ hh => (List.mem_cons_of_mem _ (List.mem_append_right _ (List.mem_append_right _ (List.mem_append_right _ (List.mem_append_right _ (List.mem_append_right _ (List.mem_append_left _ hh)))))))) gd_m_putW) rfl rfl rfl (by decide +kernel) ⟨Nat.le_of_ble_eq_true rfl, Nat.le_of_ble_eq_true rfl⟩) ⟨pw_blind, tw_recv hK hT (fx_50 hX) (by decide) cl_e60 rfl, pw_use hT hK hFc hS hM⟩ rfl rfl hl.1 rfl (lv_room (Nat.le_of_ble_eq_true rfl)) dX12_goMinute_69 ⟨Nat.le_of_ble_eq_true rfl, Nat.le_of_ble_eq_true rfl⟩) hS (fun q _ h => hFc q h) hFc (fun u0 t H locs ht hvm hw hB hz1 hk1 hS => ?_)
              refine W.widen (k := 0) (n := 0) (Nat.le_of_ble_eq_true rfl) (Nat.le_of_ble_eq_true rfl) ?_
              clear hvm hz1 hk1
              obtain ⟨i_133, hii_133, hT⟩ := hB
              rw [ht] at hT
              clear hp_131
              obtain ⟨y_134, hy_134, hT⟩ : ∃ z : Nat → Nat → Int32, z = up2 y_122 (a 89) i_133.toNatClampNeg r_121 ∧ tw (dC, dI) a k τ ln z g_123 H := ⟨_, rfl, hT⟩
              have hG : ag τ [60, 99, 102] y y_134 := by rw [hy_134]; exact hG.up (fx_89 hX) (by decide)
              have hI := hI.ag (S := [99]) (y' := y_134) (by rw [hy_134]; exact ag.one (fx_89 hX)) (by decide)
              have hb_135 : i_133.toInt = 1 + 6 * (i1.toInt) + 0 := ec_h hii_133 rfl rfl
              clear hii_133
              have hxv_136 : r_121.toInt = r_121.toInt := rfl
              have := rd_i (m := 1 + 6 * (i1.toInt) + 0) hy_134 hb_135 (by omega) hxv_136
              have hWd := hW
              refine lv_aload_n hx hb dX12_goMinute_72 rfl (lv_at hl 2 rfl) ?_
              refine lv_iload_n hx hb dX12_goMinute_73 rfl (lv_at hl 3 rfl) ?_
              refine lv_iconst (v := 1) hx hb dX12_goMinute_74 (by decide) ?_
              refine lv_aload_n hx hb dX12_goMinute_75 rfl (lv_at hl 2 rfl) ?_
              refine tw_get (D := (dC, dI)) (v := .ref (a 53)) (C := RX12) (T := TX12) (N := 58) hx hb hts (fun _ hh => (List.mem_cons_of_mem _ (List.mem_append_right _ (List.mem_append_left _ hh)))) hown hK hT (fx_50 hX) (by decide) cl_e60 rfl 2 (by decide) (hts (.fieldLink RX12 13 "TypingPoolModel" "speed" "[I") (List.mem_cons_of_mem _ (List.mem_append_left _ (List.mem_of_getElem? (i := 30) rfl)))) (fun _ h9 => h9) rfl dX12_goMinute_76 ?_
              refine lv_iload_n hx hb dX12_goMinute_79 rfl (lv_at hl 3 rfl) ?_
              refine tw_iald hx hb hK hT 0 (fx_53 hX) (by decide) cl_e63 rfl (z_in rfl (by omega) (by omega)) dX12_goMinute_80 ?_
              have hv_137 := vb_at (im_a53 hI) (x := i1) rfl (by omega) (by omega)
              refine lv_iload_n hx hb dX12_goMinute_81 rfl (lv_at hl 0 rfl) ?_
              have hFc := tw_free hF hS hA
              refine va_calli (va_runS (As := [.int (y_134 (a 53) i1.toNatClampNeg), .int x_130]) (rest := [.int 1, .int i1, .ref (a 50)]) ⟨hx, hb, hml, hown, hts⟩ (m_rate l dC dI ad av H.size a k τ ln y_134 g_123 u (y_134 (a 53) i1.toNatClampNeg) x_130  (by omega) (by omega)) (va_cwS 2 hts (gi_3 (List.mem_cons_of_mem _ (List.mem_append_left _ (List.mem_of_getElem? (i := 31) rfl))) (List.mem_cons_of_mem _ (List.mem_append_left _ (List.mem_of_getElem? (i := 32) rfl))) (List.mem_cons_of_mem _ (List.mem_append_left _ (List.mem_of_getElem? (i := 5) rfl))) (fun _ hh => (List.mem_cons_of_mem _ (List.mem_append_right _ (List.mem_append_right _ (List.mem_append_right _ (List.mem_append_right _ (List.mem_append_right _ (List.mem_append_right _ (List.mem_append_right _ (List.mem_append_right _ (List.mem_append_right _ (List.mem_append_left _ hh)))))))))))) gd_m_rate) rfl rfl rfl (by decide +kernel) ⟨Nat.le_of_ble_eq_true rfl, Nat.le_of_ble_eq_true rfl⟩) ⟨pw_blind, pw_use hT hK hFc hS hM⟩ rfl rfl hl.1 rfl (lv_room (Nat.le_of_ble_eq_true rfl)) dX12_goMinute_82 ⟨Nat.le_of_ble_eq_true rfl, Nat.le_of_ble_eq_true rfl⟩) hS (fun q _ h => hFc q h) hFc (fun r0 r_138 t H locs ht hvm hw hB hz1 hk1 hS => ?_)
              refine W.widen (k := 0) (n := 0) (Nat.le_of_ble_eq_true rfl) (Nat.le_of_ble_eq_true rfl) ?_
              clear hvm hz1 hk1
              subst hw
              obtain ⟨hf_139, hf_140, hT⟩ := hB
              rw [ht] at hT
              have hFc := tw_free hF hS hA
              have hp_141 : (1 : Int32).toInt = 1 := (zk (x := 1) 1 rfl)
              refine va_callv (va_runV (As := [.int i1, .int 1, .int r_138]) (rest := []) ⟨hx, hb, hml, hown, hts⟩ (m_putW l dC dI ad av H.size a k τ ln y_134 g_123 u i1 (1 : Int32) r_138 hI (by omega) (by omega) (by decide) (by decide)) (cwV 3 hts (gi_4 (List.mem_cons_of_mem _ (List.mem_append_left _ (List.mem_of_getElem? (i := 12) rfl))) (List.mem_cons_of_mem _ (List.mem_append_left _ (List.mem_of_getElem? (i := 13) rfl))) (List.mem_cons_of_mem _ (List.mem_append_left _ (List.mem_of_getElem? (i := 14) rfl))) (List.mem_cons_of_mem _ (List.mem_append_left _ (List.mem_of_getElem? (i := 5) rfl))) (fun _ hh => (List.mem_cons_of_mem _ (List.mem_append_right _ (List.mem_append_right _ (List.mem_append_right _ (List.mem_append_right _ (List.mem_append_right _ (List.mem_append_left _ hh)))))))) gd_m_putW) rfl rfl rfl (by decide +kernel) ⟨Nat.le_of_ble_eq_true rfl, Nat.le_of_ble_eq_true rfl⟩) ⟨pw_blind, tw_recv hK hT (fx_50 hX) (by decide) cl_e60 rfl, pw_use hT hK hFc hS hM⟩ rfl rfl hl.1 rfl (lv_room (Nat.le_of_ble_eq_true rfl)) dX12_goMinute_85 ⟨Nat.le_of_ble_eq_true rfl, Nat.le_of_ble_eq_true rfl⟩) hS (fun q _ h => hFc q h) hFc (fun u0 t H locs ht hvm hw hB hz1 hk1 hS => ?_)
              refine W.widen (k := 0) (n := 0) (Nat.le_of_ble_eq_true rfl) (Nat.le_of_ble_eq_true rfl) ?_
              clear hvm hz1 hk1
              obtain ⟨i_143, hii_143, hT⟩ := hB
              rw [ht] at hT
              clear hp_141
              obtain ⟨y_144, hy_144, hT⟩ : ∃ z : Nat → Nat → Int32, z = up2 y_134 (a 89) i_143.toNatClampNeg r_138 ∧ tw (dC, dI) a k τ ln z g_123 H := ⟨_, rfl, hT⟩
              have hG : ag τ [60, 99, 102] y y_144 := by rw [hy_144]; exact hG.up (fx_89 hX) (by decide)
              have hI := hI.ag (S := [99]) (y' := y_144) (by rw [hy_144]; exact ag.one (fx_89 hX)) (by decide)
              have hb_145 : i_143.toInt = 1 + 6 * (i1.toInt) + 1 := ec_h hii_143 rfl rfl
              clear hii_143
              have hxv_146 : r_138.toInt = r_138.toInt := rfl
              have := rd_hh (v := 0) hy_144 hb_145 (by omega) (by decide)
              have hW : IW (u 1) (u 2) (u 9) (y_144 (a 89)) := by rw [hy_144, up2_q, hy_134, up2_q]; exact iw_2 hWd hR.2.1.2 hb_135 hb_145 (by omega) (by omega) hxv_136 hxv_146 (by omega)
              refine lv_aload_n hx hb dX12_goMinute_88 rfl (lv_at hl 2 rfl) ?_
              refine lv_iload_n hx hb dX12_goMinute_89 rfl (lv_at hl 1 rfl) ?_
              refine lv_iconst (v := 0) hx hb dX12_goMinute_90 (by decide) ?_
              refine lv_iload_n hx hb dX12_goMinute_91 rfl (lv_at hl 3 rfl) ?_
              have hFc := tw_free hF hS hA
              have hp_147 : (0 : Int32).toInt = 0 := (zk (x := 0) 0 rfl)
              refine va_callv (va_runV (As := [.int r_121, .int 0, .int i1]) (rest := []) ⟨hx, hb, hml, hown, hts⟩ (m_pieceP l dC dI ad av H.size a k τ ln y_144 g_123 u r_121 (0 : Int32) i1 hI (by omega) (by omega) (by decide) (by decide) hW) (cwV 3 hts (gi_4 (List.mem_cons_of_mem _ (List.mem_append_left _ (List.mem_of_getElem? (i := 22) rfl))) (List.mem_cons_of_mem _ (List.mem_append_left _ (List.mem_of_getElem? (i := 23) rfl))) (List.mem_cons_of_mem _ (List.mem_append_left _ (List.mem_of_getElem? (i := 24) rfl))) (List.mem_cons_of_mem _ (List.mem_append_left _ (List.mem_of_getElem? (i := 5) rfl))) (fun _ hh => (List.mem_cons_of_mem _ (List.mem_append_right _ (List.mem_append_right _ (List.mem_append_right _ (List.mem_append_right _ (List.mem_append_right _ (List.mem_append_right _ (List.mem_append_right _ (List.mem_append_left _ hh)))))))))) gd_m_pieceP) rfl rfl rfl (by decide +kernel) ⟨Nat.le_of_ble_eq_true rfl, Nat.le_of_ble_eq_true rfl⟩) ⟨pw_blind, tw_recv hK hT (fx_50 hX) (by decide) cl_e60 rfl, pw_use hT hK hFc hS hM⟩ rfl rfl hl.1 rfl (lv_room (Nat.le_of_ble_eq_true rfl)) dX12_goMinute_92 ⟨Nat.le_of_ble_eq_true rfl, Nat.le_of_ble_eq_true rfl⟩) hS (fun q _ h => hFc q h) hFc (fun u0 t H locs ht hvm hw hB hz1 hk1 hS => ?_)
              refine W.widen (k := 0) (n := 0) (Nat.le_of_ble_eq_true rfl) (Nat.le_of_ble_eq_true rfl) ?_
              clear hvm hz1 hk1
              obtain ⟨i_149, hii_149, hT⟩ := hB
              rw [ht] at hT
              clear hp_147
              obtain ⟨y_150, hy_150, hT⟩ : ∃ z : Nat → Nat → Int32, z = up2 y_144 (a 89) i_149.toNatClampNeg i1 ∧ tw (dC, dI) a k τ ln z g_123 H := ⟨_, rfl, hT⟩
              have hG : ag τ [60, 99, 102] y y_150 := by rw [hy_150]; exact hG.up (fx_89 hX) (by decide)
              have hI := hI.ag (S := [99]) (y' := y_150) (by rw [hy_150]; exact ag.one (fx_89 hX)) (by decide)
              have hb_151 : i_149.toInt = 49 + 5 * (r_121.toInt) + 0 := ec_p hii_149 rfl rfl
              clear hii_149
              have hxv_152 : i1.toInt = i1.toInt := rfl
              have := rd_o (m := 1 + 6 * (i1.toInt) + 0) hy_150 hb_151 (by omega) (by omega) (by omega)
              have hW : IW (u 1) (u 2) (u 9) (y_150 (a 89)) := by rw [hy_150, up2_q]; exact iw_p hW hR.2.1.2 hb_151 (by omega) (by decide)
              refine lv_aload_n hx hb dX12_goMinute_95 rfl (lv_at hl 2 rfl) ?_
              refine lv_iload_n hx hb dX12_goMinute_96 rfl (lv_at hl 1 rfl) ?_
              refine lv_iconst (v := 1) hx hb dX12_goMinute_97 (by decide) ?_
              refine lv_aload_n hx hb dX12_goMinute_98 rfl (lv_at hl 2 rfl) ?_
              have hFc := tw_free hF hS hA
              refine va_calli (va_runV (As := []) (rest := [.int 1, .int r_121, .ref (a 50)]) ⟨hx, hb, hml, hown, hts⟩ (m_now l dC dI ad av H.size a k τ ln y_150 g_123 u  hI hW) (cwV 0 hts (gi_4 (List.mem_cons_of_mem _ (List.mem_append_left _ (List.mem_of_getElem? (i := 6) rfl))) (List.mem_cons_of_mem _ (List.mem_append_left _ (List.mem_of_getElem? (i := 7) rfl))) (List.mem_cons_of_mem _ (List.mem_append_left _ (List.mem_of_getElem? (i := 8) rfl))) (List.mem_cons_of_mem _ (List.mem_append_left _ (List.mem_of_getElem? (i := 5) rfl))) (fun _ hh => (List.mem_cons_of_mem _ (List.mem_append_right _ (List.mem_append_right _ (List.mem_append_right _ (List.mem_append_left _ hh)))))) gd_m_now) rfl rfl rfl (by decide +kernel) ⟨Nat.le_of_ble_eq_true rfl, Nat.le_of_ble_eq_true rfl⟩) ⟨pw_blind, tw_recv hK hT (fx_50 hX) (by decide) cl_e60 rfl, pw_use hT hK hFc hS hM⟩ rfl rfl hl.1 rfl (lv_room (Nat.le_of_ble_eq_true rfl)) dX12_goMinute_99 ⟨Nat.le_of_ble_eq_true rfl, Nat.le_of_ble_eq_true rfl⟩) hS (fun q _ h => hFc q h) hFc (fun r0 r_153 t H locs ht hvm hw hB hz1 hk1 hS => ?_)
              refine W.widen (k := 0) (n := 0) (Nat.le_of_ble_eq_true rfl) (Nat.le_of_ble_eq_true rfl) ?_
              clear hvm hz1 hk1
              subst hw
              obtain ⟨hf_154, hT⟩ := hB
              rw [ht] at hT
              have hFc := tw_free hF hS hA
              have hp_155 : (1 : Int32).toInt = 1 := (zk (x := 1) 1 rfl)
              refine va_callv (va_runV (As := [.int r_121, .int 1, .int r_153]) (rest := []) ⟨hx, hb, hml, hown, hts⟩ (m_pieceP l dC dI ad av H.size a k τ ln y_150 g_123 u r_121 (1 : Int32) r_153 hI (by omega) (by omega) (by decide) (by decide) hW) (cwV 3 hts (gi_4 (List.mem_cons_of_mem _ (List.mem_append_left _ (List.mem_of_getElem? (i := 22) rfl))) (List.mem_cons_of_mem _ (List.mem_append_left _ (List.mem_of_getElem? (i := 23) rfl))) (List.mem_cons_of_mem _ (List.mem_append_left _ (List.mem_of_getElem? (i := 24) rfl))) (List.mem_cons_of_mem _ (List.mem_append_left _ (List.mem_of_getElem? (i := 5) rfl))) (fun _ hh => (List.mem_cons_of_mem _ (List.mem_append_right _ (List.mem_append_right _ (List.mem_append_right _ (List.mem_append_right _ (List.mem_append_right _ (List.mem_append_right _ (List.mem_append_right _ (List.mem_append_left _ hh)))))))))) gd_m_pieceP) rfl rfl rfl (by decide +kernel) ⟨Nat.le_of_ble_eq_true rfl, Nat.le_of_ble_eq_true rfl⟩) ⟨pw_blind, tw_recv hK hT (fx_50 hX) (by decide) cl_e60 rfl, pw_use hT hK hFc hS hM⟩ rfl rfl hl.1 rfl (lv_room (Nat.le_of_ble_eq_true rfl)) dX12_goMinute_102 ⟨Nat.le_of_ble_eq_true rfl, Nat.le_of_ble_eq_true rfl⟩) hS (fun q _ h => hFc q h) hFc (fun u0 t H locs ht hvm hw hB hz1 hk1 hS => ?_)
              refine W.widen (k := 0) (n := 0) (Nat.le_of_ble_eq_true rfl) (Nat.le_of_ble_eq_true rfl) ?_
              clear hvm hz1 hk1
              obtain ⟨i_157, hii_157, hT⟩ := hB
              rw [ht] at hT
              clear hp_155
              obtain ⟨y_158, hy_158, hT⟩ : ∃ z : Nat → Nat → Int32, z = up2 y_150 (a 89) i_157.toNatClampNeg r_153 ∧ tw (dC, dI) a k τ ln z g_123 H := ⟨_, rfl, hT⟩
              have hG : ag τ [60, 99, 102] y y_158 := by rw [hy_158]; exact hG.up (fx_89 hX) (by decide)
              have hI := hI.ag (S := [99]) (y' := y_158) (by rw [hy_158]; exact ag.one (fx_89 hX)) (by decide)
              have hb_159 : i_157.toInt = 49 + 5 * (r_121.toInt) + 1 := ec_p hii_157 rfl rfl
              clear hii_157
              have hxv_160 : r_153.toInt = r_153.toInt := rfl
              have := rd_o (m := 1 + 6 * (i1.toInt) + 0) hy_158 hb_159 (by omega) (by omega) (by omega)
              have hW : IW (u 1) (u 2) (u 9) (y_158 (a 89)) := by rw [hy_158, up2_q]; exact iw_p hW hR.2.1.2 hb_159 (by omega) (by decide)
              refine lv_aload_n hx hb dX12_goMinute_105 rfl (lv_at hl 2 rfl) ?_
              refine lv_iload_n hx hb dX12_goMinute_106 rfl (lv_at hl 1 rfl) ?_
              refine lv_iconst (v := 4) hx hb dX12_goMinute_107 (by decide) ?_
              refine lv_iload_n hx hb dX12_goMinute_108 rfl (lv_at hl 0 rfl) ?_
              refine lv_if_ne (tgt := 116) hx hb dX12_goMinute_109 (by decide) (fun c_161 => ?_) (fun c_161 => ?_)
              · have nc_161 := z_ne rfl (zk (x := 0) 0 rfl) c_161
                refine lv_iconst (v := 0) hx hb dX12_goMinute_116 (by decide) ?_
                have hFc := tw_free hF hS hA
                have hp_162 : (4 : Int32).toInt = 4 := (zk (x := 4) 4 rfl)
                have hp_163 : (0 : Int32).toInt = 0 := (zk (x := 0) 0 rfl)
                refine va_callv (va_runV (As := [.int r_121, .int 4, .int 0]) (rest := []) ⟨hx, hb, hml, hown, hts⟩ (m_pieceP l dC dI ad av H.size a k τ ln y_158 g_123 u r_121 (4 : Int32) (0 : Int32) hI (by omega) (by omega) (by decide) (by decide) hW) (cwV 3 hts (gi_4 (List.mem_cons_of_mem _ (List.mem_append_left _ (List.mem_of_getElem? (i := 22) rfl))) (List.mem_cons_of_mem _ (List.mem_append_left _ (List.mem_of_getElem? (i := 23) rfl))) (List.mem_cons_of_mem _ (List.mem_append_left _ (List.mem_of_getElem? (i := 24) rfl))) (List.mem_cons_of_mem _ (List.mem_append_left _ (List.mem_of_getElem? (i := 5) rfl))) (fun _ hh => (List.mem_cons_of_mem _ (List.mem_append_right _ (List.mem_append_right _ (List.mem_append_right _ (List.mem_append_right _ (List.mem_append_right _ (List.mem_append_right _ (List.mem_append_right _ (List.mem_append_left _ hh)))))))))) gd_m_pieceP) rfl rfl rfl (by decide +kernel) ⟨Nat.le_of_ble_eq_true rfl, Nat.le_of_ble_eq_true rfl⟩) ⟨pw_blind, tw_recv hK hT (fx_50 hX) (by decide) cl_e60 rfl, pw_use hT hK hFc hS hM⟩ rfl rfl hl.1 rfl (lv_room (Nat.le_of_ble_eq_true rfl)) dX12_goMinute_117 ⟨Nat.le_of_ble_eq_true rfl, Nat.le_of_ble_eq_true rfl⟩) hS (fun q _ h => hFc q h) hFc (fun u0 t H locs ht hvm hw hB hz1 hk1 hS => ?_)
                refine W.widen (k := 0) (n := 0) (Nat.le_of_ble_eq_true rfl) (Nat.le_of_ble_eq_true rfl) ?_
                clear hvm hz1 hk1
                obtain ⟨i_165, hii_165, hT⟩ := hB
                rw [ht] at hT
                clear hp_162 hp_163
                obtain ⟨y_166, hy_166, hT⟩ : ∃ z : Nat → Nat → Int32, z = up2 y_158 (a 89) i_165.toNatClampNeg (0 : Int32) ∧ tw (dC, dI) a k τ ln z g_123 H := ⟨_, rfl, hT⟩
                have hG : ag τ [60, 99, 102] y y_166 := by rw [hy_166]; exact hG.up (fx_89 hX) (by decide)
                have hI := hI.ag (S := [99]) (y' := y_166) (by rw [hy_166]; exact ag.one (fx_89 hX)) (by decide)
                have hb_167 : i_165.toInt = 49 + 5 * (r_121.toInt) + 4 := ec_p hii_165 rfl rfl
                clear hii_165
                have hxv_168 : (0 : Int32).toInt = 0 := (zk (x := 0) 0 rfl)
                have := rd_o (m := 1 + 6 * (i1.toInt) + 0) hy_166 hb_167 (by omega) (by omega) (by omega)
                have hW : IW (u 1) (u 2) (u 9) (y_166 (a 89)) := by rw [hy_166, up2_q]; exact iw_p hW hR.2.1.2 hb_167 (by omega) (by decide)
                obtain ⟨x_169, ex_169⟩ : ∃ y : Int32, y = i1 + Int32.ofInt 1 := ⟨_, rfl⟩
                have hx_169 := z_add ex_169 rfl (zk (x := Int32.ofInt 1) 1 rfl) (by omega) (by omega)
                refine lv_iinc (v := x_169) (lv' := [(1, .int x_169), (3, .int x_130), (2, .int r_121), (0, .ref (a 50))]) hx hb dX12_goMinute_120 hl (k := 3) rfl ex_169.symm (by decide) rfl (fun ls hl => ?_)
                refine lv_goto (tgt := 2) hx hb dX12_goMinute_123 (by decide) ?_
                exact ih_2  x_169 y_166 g_123 H _ ls (by omega) hG hI hGg hW (by omega) (by omega) hT hS (lv_sub hl [3, 0] rfl)
              · have nc_161 := z_eq rfl (zk (x := 0) 0 rfl) c_161
                refine lv_iconst (v := 1) hx hb dX12_goMinute_112 (by decide) ?_
                refine lv_goto (tgt := 117) hx hb dX12_goMinute_113 (by decide) ?_
                have hFc := tw_free hF hS hA
                have hp_170 : (4 : Int32).toInt = 4 := (zk (x := 4) 4 rfl)
                have hp_171 : (1 : Int32).toInt = 1 := (zk (x := 1) 1 rfl)
                refine va_callv (va_runV (As := [.int r_121, .int 4, .int 1]) (rest := []) ⟨hx, hb, hml, hown, hts⟩ (m_pieceP l dC dI ad av H.size a k τ ln y_158 g_123 u r_121 (4 : Int32) (1 : Int32) hI (by omega) (by omega) (by decide) (by decide) hW) (cwV 3 hts (gi_4 (List.mem_cons_of_mem _ (List.mem_append_left _ (List.mem_of_getElem? (i := 22) rfl))) (List.mem_cons_of_mem _ (List.mem_append_left _ (List.mem_of_getElem? (i := 23) rfl))) (List.mem_cons_of_mem _ (List.mem_append_left _ (List.mem_of_getElem? (i := 24) rfl))) (List.mem_cons_of_mem _ (List.mem_append_left _ (List.mem_of_getElem? (i := 5) rfl))) (fun _ hh => (List.mem_cons_of_mem _ (List.mem_append_right _ (List.mem_append_right _ (List.mem_append_right _ (List.mem_append_right _ (List.mem_append_right _ (List.mem_append_right _ (List.mem_append_right _ (List.mem_append_left _ hh)))))))))) gd_m_pieceP) rfl rfl rfl (by decide +kernel) ⟨Nat.le_of_ble_eq_true rfl, Nat.le_of_ble_eq_true rfl⟩) ⟨pw_blind, tw_recv hK hT (fx_50 hX) (by decide) cl_e60 rfl, pw_use hT hK hFc hS hM⟩ rfl rfl hl.1 rfl (lv_room (Nat.le_of_ble_eq_true rfl)) dX12_goMinute_117 ⟨Nat.le_of_ble_eq_true rfl, Nat.le_of_ble_eq_true rfl⟩) hS (fun q _ h => hFc q h) hFc (fun u0 t H locs ht hvm hw hB hz1 hk1 hS => ?_)
                refine W.widen (k := 0) (n := 0) (Nat.le_of_ble_eq_true rfl) (Nat.le_of_ble_eq_true rfl) ?_
                clear hvm hz1 hk1
                obtain ⟨i_173, hii_173, hT⟩ := hB
                rw [ht] at hT
                clear hp_170 hp_171
                obtain ⟨y_174, hy_174, hT⟩ : ∃ z : Nat → Nat → Int32, z = up2 y_158 (a 89) i_173.toNatClampNeg (1 : Int32) ∧ tw (dC, dI) a k τ ln z g_123 H := ⟨_, rfl, hT⟩
                have hG : ag τ [60, 99, 102] y y_174 := by rw [hy_174]; exact hG.up (fx_89 hX) (by decide)
                have hI := hI.ag (S := [99]) (y' := y_174) (by rw [hy_174]; exact ag.one (fx_89 hX)) (by decide)
                have hb_175 : i_173.toInt = 49 + 5 * (r_121.toInt) + 4 := ec_p hii_173 rfl rfl
                clear hii_173
                have hxv_176 : (1 : Int32).toInt = 1 := (zk (x := 1) 1 rfl)
                have := rd_o (m := 1 + 6 * (i1.toInt) + 0) hy_174 hb_175 (by omega) (by omega) (by omega)
                have hW : IW (u 1) (u 2) (u 9) (y_174 (a 89)) := by rw [hy_174, up2_q]; exact iw_p hW hR.2.1.2 hb_175 (by omega) (by decide)
                obtain ⟨x_177, ex_177⟩ : ∃ y : Int32, y = i1 + Int32.ofInt 1 := ⟨_, rfl⟩
                have hx_177 := z_add ex_177 rfl (zk (x := Int32.ofInt 1) 1 rfl) (by omega) (by omega)
                refine lv_iinc (v := x_177) (lv' := [(1, .int x_177), (3, .int x_130), (2, .int r_121), (0, .ref (a 50))]) hx hb dX12_goMinute_120 hl (k := 3) rfl ex_177.symm (by decide) rfl (fun ls hl => ?_)
                refine lv_goto (tgt := 2) hx hb dX12_goMinute_123 (by decide) ?_
                exact ih_2  x_177 y_174 g_123 H _ ls (by omega) hG hI hGg hW (by omega) (by omega) hT hS (lv_sub hl [3, 0] rfl)
            · have nc_125 := z_eq rfl (zk (x := (-1)) (-1) rfl) c_125
              refine lv_goto (tgt := 120) hx hb dX12_goMinute_46 (by decide) ?_
              obtain ⟨x_178, ex_178⟩ : ∃ y : Int32, y = i1 + Int32.ofInt 1 := ⟨_, rfl⟩
              have hx_178 := z_add ex_178 rfl (zk (x := Int32.ofInt 1) 1 rfl) (by omega) (by omega)
              refine lv_iinc (v := x_178) (lv' := [(1, .int x_178), (2, .int r_121), (0, .ref (a 50))]) hx hb dX12_goMinute_120 hl (k := 2) rfl ex_178.symm (by decide) rfl (fun ls hl => ?_)
              refine lv_goto (tgt := 2) hx hb dX12_goMinute_123 (by decide) ?_
              exact ih_2  x_178 y_122 g_123 H _ ls (by omega) hG hI hGg hW (by omega) (by omega) hT hS (lv_sub hl [2, 0] rfl)
  have hp_179 : (0 : Int32).toInt = 0 := (zk (x := 0) 0 rfl)
  exact loop_2 _ (0 : Int32) y g s.heap _ ls (Nat.lt_succ_self _) hG hI hGg hW (by omega) (by omega) hT hS (lv_sub hl [1, 0] rfl)
def wo_m_go : List Cond := [.methodLink RX12 302 yX12_goMinute, .instanceMethod yX12_goMinute, .selects RX12 yX12_goMinute yX12_goMinute, .initialized RX12]
def wm_m_go : List Cond := .code yX12_go cX12_go 3 none :: (wo_m_go ++ (wm_m_goMinute ++ ([] : List Cond)))
theorem gd_m_go : ∀ w ∈ wm_m_go, goodWord w = true := gd_c rfl (gd_a (by decide) (gd_a gd_m_goMinute gd_nil))
set_option maxRecDepth 20000 in
theorem im_m_go : ∀ w ∈ wm_m_go, w ∈ lw_tbl := im_c (in_r [.code yX12_go cX12_go 3 none] [1535] (by decide +kernel)) (in_app (in_r wo_m_go [1536, 1538, 45, 86] (by decide +kernel)) (in_app im_m_goMinute im_nil))
set_option maxHeartbeats 4000000 in
set_option maxRecDepth 100000 in
theorem m_go (l : Launch) (dC : Nat → ClassId) (dI : Nat → Nat → Nat) (ad av : Nat → Nat) (sz : Nat) (a : Nat → Nat) (k : Nat → ClassId) (τ ln : Nat → Nat) (y : Nat → Nat → Int32) (g : Nat → Nat → Option Nat) (u : Nat → Int) (p0 : Int32) (hI : IM a u τ y) (hl0 : 0 ≤ p0.toInt) (hn : u 9 + p0.toInt ≤ 4800) (hW : IW (u 1) (u 2) (u 9) (y (a 89))) : Met l yX12_go wm_m_go ({ frames := 388, cells := 0, slots := 0, locals := 25400 }) (pw_ ad av (dC, dI) sz [.ref (a 50), .int p0] a k τ ln y g) (va_Qv (fun (_ : Unit) => True) (fun (_ : Unit) (t : State) => (∃ (u' : Nat → Int) (y' : Nat → Nat → Int32) (g' : Nat → Nat → Option Nat), (∀ i, i ∉ ([9] : List Nat) → u' i = u i) ∧ ag τ [60, 99, 102] y y' ∧ agg τ g g' ∧ IM a u' τ y' ∧ IW (u' 1) (u' 2) (u' 9) (y' (a 89)) ∧ u' 9 = u 9 + p0.toInt ∧ tw (dC, dI) a k τ ln y' g' t.heap)) (fr τ sz)) 0 0 (fr τ sz) := by
  refine Met.ofW (cc := cX12_go) (maxL := 3) (ret := none) (by decide) rfl ?_
  intro p e s m args below meth c s₁ B hml hv
  obtain ⟨rfl, hsz, hT, hK, hM⟩ := hv
  have hx := B.exec
  have hb := B.bytes
  have hr := B.returns
  have hts := atoms_spec (ws := wm_m_go) B.pre
  have hown : s.vm.findClass RX12 = some m.cls := findClass_of_methodNamed B.named
  have hlocks := B.notSynchronized
  subst hsz
  generalize hAe : fr τ s.heap.size = A at hM ⊢
  have hA : ∀ q : Nat, s.heap.size ≤ q → A q := fun q h => by rw [← hAe]; exact Or.inr h
  have hF : ∀ q, τ q ≠ 0 → A q := fun q h => by rw [← hAe]; exact Or.inl h
  have hS : va_S A s.heap s.heap [] := va_S.rf
  have hX := hI.1
  have hR := im_r hI
  have hG : ag τ [60, 99, 102] y y := ag.rf
  have hGg : agg τ g g := agg.rf
  have hl := lv_entry ([.ref (a 50), .int p0]) (n := 3) (Nat.le_of_ble_eq_true rfl)
  rw [lg_entry_eq]
  generalize (lg_sl ([.ref (a 50), .int p0]) ++ List.replicate (3 - (lg_sl ([.ref (a 50), .int p0])).length) Slot.unset).toArray = ls at hl ⊢
  have hl : lv_has ls 3 [(0, .ref (a 50)), (1, .int p0)] := hl
  refine lv_iconst (v := 0) hx hb dX12_go_0 (by decide) ?_
  refine lv_istore_n (lv' := [(2, .int 0), (0, .ref (a 50)), (1, .int p0)]) hx hb dX12_go_1 rfl hl (by decide) rfl (fun ls hl => ?_)
  have loop_2 : ∀ (n : Nat) (i2 : Int32) (y_L2 : Nat → Nat → Int32) (g_L2 : Nat → Nat → Option Nat) (u_L2 : Nat → Int) (H : Heap) (locs : List Loc) (ls : Array Slot), (p0.toInt - i2.toInt).toNat < n → ag τ [60, 99, 102] y y_L2 → IM a u_L2 τ y_L2 → agg τ g g_L2 → (∀ i, i ∉ ([9] : List Nat) → u_L2 i = u i) → IW (u_L2 1) (u_L2 2) (u_L2 9) (y_L2 (a 89)) → 0 ≤ i2.toInt → i2.toInt ≤ p0.toInt → u_L2 9 = u 9 + i2.toInt → tw (dC, dI) a k τ ln y_L2 g_L2 H → va_S A s.heap H locs → lv_has ls 3 [(0, .ref (a 50)), (1, .int p0), (2, .int i2)] → W p l e (headSpec wm_m_go ({ frames := 388, cells := 0, slots := 0, locals := 25400 })).room s m ([.ref (a 50), .int p0] : List Value).toArray below meth c H locs 0 0 (MQ below (va_Qv (fun (_ : Unit) => True) (fun (_ : Unit) (t : State) => (∃ (u' : Nat → Int) (y' : Nat → Nat → Int32) (g' : Nat → Nat → Option Nat), (∀ i, i ∉ ([9] : List Nat) → u' i = u i) ∧ ag τ [60, 99, 102] y y' ∧ agg τ g g' ∧ IM a u' τ y' ∧ IW (u' 1) (u' 2) (u' 9) (y' (a 89)) ∧ u' 9 = u 9 + p0.toInt ∧ tw (dC, dI) a k τ ln y' g' t.heap)) A) ([.ref (a 50), .int p0] : List Value).toArray s 0 0 A) (F0 m 2 ls []) := by
    intro n
    induction n with
    | zero => intro i2 y_L2 g_L2 u_L2 H locs ls hlt; exact absurd hlt (Nat.not_lt_zero _)
    | succ n ih_2 =>
      intro i2 y_L2 g_L2 u_L2 H locs ls hlt hG hI hGg hu_L2 hW hi2_0 hi2_1 hi2_2 hT hS hl
      refine lv_iload_n hx hb dX12_go_2 rfl (lv_at hl 2 rfl) ?_
      refine lv_iload_n hx hb dX12_go_3 rfl (lv_at hl 1 rfl) ?_
      refine lv_icmp_ge (tgt := 17) hx hb dX12_go_4 (by decide) (fun c_1 => ?_) (fun c_1 => ?_)
      · have nc_1 := z_le rfl rfl c_1
        exact W.vret hx hb hr (fun t ht hW9 => ⟨⟨(), rfl, trivial, ⟨u_L2, y_L2, g_L2, (by intro i hi; simp only [List.mem_cons, List.not_mem_nil, or_false, not_or] at hi; rw [hu_L2 i (by simp <;> omega)]), hG, hGg, hI, hW, by omega, tw_at ht hT⟩⟩, hS.F ht⟩) hS.2.2 dX12_go_17
      · have nc_1 := z_nle rfl rfl c_1
        refine lv_aload_n hx hb dX12_go_7 rfl (lv_at hl 0 rfl) ?_
        have hFc := tw_free hF hS hA
        refine va_callv (va_runV (As := []) (rest := []) ⟨hx, hb, hml, hown, hts⟩ (m_goMinute l dC dI ad av H.size a k τ ln y_L2 g_L2 u_L2  hI (by omega) hW) (cwV 0 hts (gi_4 (List.mem_cons_of_mem _ (List.mem_append_left _ (List.mem_of_getElem? (i := 0) rfl))) (List.mem_cons_of_mem _ (List.mem_append_left _ (List.mem_of_getElem? (i := 1) rfl))) (List.mem_cons_of_mem _ (List.mem_append_left _ (List.mem_of_getElem? (i := 2) rfl))) (List.mem_cons_of_mem _ (List.mem_append_left _ (List.mem_of_getElem? (i := 3) rfl))) (fun _ hh => (List.mem_cons_of_mem _ (List.mem_append_right _ (List.mem_append_left _ hh)))) gd_m_goMinute) rfl rfl rfl (by decide +kernel) ⟨Nat.le_of_ble_eq_true rfl, Nat.le_of_ble_eq_true rfl⟩) ⟨pw_blind, tw_recv hK hT (fx_50 hX) (by decide) cl_e60 rfl, pw_use hT hK hFc hS hM⟩ rfl rfl hl.1 rfl (lv_room (Nat.le_of_ble_eq_true rfl)) dX12_go_8 ⟨Nat.le_of_ble_eq_true rfl, Nat.le_of_ble_eq_true rfl⟩) hS (fun q _ h => hFc q h) hFc (fun u0 t H locs ht hvm hw hB hz1 hk1 hS => ?_)
        refine W.widen (k := 0) (n := 0) (Nat.le_of_ble_eq_true rfl) (Nat.le_of_ble_eq_true rfl) ?_
        clear hvm hz1 hk1
        obtain ⟨u_3, y_4, g_5, huu_3, hgy_4, hggg_5, hI, hW, hf_6, hT⟩ := hB
        rw [ht] at hT
        have hG := hG.tr hgy_4 (by decide)
        have hGg := hGg.tr hggg_5
        have hR := im_r hI
        have : u_3 0 = u_L2 0 := huu_3 0 (by decide)
        have : u_3 1 = u_L2 1 := huu_3 1 (by decide)
        have : u_3 2 = u_L2 2 := huu_3 2 (by decide)
        have : u_3 3 = u_L2 3 := huu_3 3 (by decide)
        have : u_3 4 = u_L2 4 := huu_3 4 (by decide)
        have : u_3 5 = u_L2 5 := huu_3 5 (by decide)
        have : u_3 6 = u_L2 6 := huu_3 6 (by decide)
        have : u_3 7 = u_L2 7 := huu_3 7 (by decide)
        have : u_3 8 = u_L2 8 := huu_3 8 (by decide)
        have : u_3 10 = u_L2 10 := huu_3 10 (by decide)
        obtain ⟨x_7, ex_7⟩ : ∃ y : Int32, y = i2 + Int32.ofInt 1 := ⟨_, rfl⟩
        have hx_7 := z_add ex_7 rfl (zk (x := Int32.ofInt 1) 1 rfl) (by omega) (by omega)
        refine lv_iinc (v := x_7) (lv' := [(2, .int x_7), (0, .ref (a 50)), (1, .int p0)]) hx hb dX12_go_11 hl (k := 2) rfl ex_7.symm (by decide) rfl (fun ls hl => ?_)
        refine lv_goto (tgt := 2) hx hb dX12_go_14 (by decide) ?_
        exact ih_2  x_7 y_4 g_5 u_3 H _ ls (by omega) hG hI hGg (by intro i hi; simp only [List.mem_cons, List.not_mem_nil, or_false, not_or] at hi; rw [huu_3 i (by simp <;> omega)]; rw [hu_L2 i (by simp <;> omega)]) hW (by omega) (by omega) (by omega) hT hS (lv_sub hl [1, 2, 0] rfl)
  have hp_8 : (0 : Int32).toInt = 0 := (zk (x := 0) 0 rfl)
  exact loop_2 _ (0 : Int32) y g u s.heap _ ls (Nat.lt_succ_self _) hG hI hGg (fun _ _ => rfl) hW (by omega) (by omega) (by omega) hT hS (lv_sub hl [1, 2, 0] rfl)
def wo_m_canGoX : List Cond := [.methodLink RX12 145 yX12_in, .static yX12_in, .initialized RX12, .methodLink RX12 164 yX12_now, .instanceMethod yX12_now, .selects RX12 yX12_now yX12_now]
def wm_m_canGoX : List Cond := .code yX12_canGo cX12_canGo 3 (some .boolean) :: (wo_m_canGoX ++ (wm_m_in ++ (wm_m_now ++ ([] : List Cond))))
theorem gd_m_canGoX : ∀ w ∈ wm_m_canGoX, goodWord w = true := gd_c rfl (gd_a (by decide) (gd_a gd_m_in (gd_a gd_m_now gd_nil)))
set_option maxRecDepth 20000 in
theorem im_m_canGoX : ∀ w ∈ wm_m_canGoX, w ∈ lw_tbl := im_c (in_r [.code yX12_canGo cX12_canGo 3 (some .boolean)] [1531] (by decide +kernel)) (in_app (in_r wo_m_canGoX [1420, 1421, 86, 1440, 1442, 28] (by decide +kernel)) (in_app im_m_in (in_app im_m_now im_nil)))
set_option maxHeartbeats 4000000 in
set_option maxRecDepth 100000 in
theorem m_canGoX (l : Launch) (dC : Nat → ClassId) (dI : Nat → Nat → Nat) (ad av : Nat → Nat) (sz : Nat) (a : Nat → Nat) (k : Nat → ClassId) (τ ln : Nat → Nat) (y : Nat → Nat → Int32) (g : Nat → Nat → Option Nat) (u : Nat → Int) (p0 : Int32) (p1 : Int32) (hI : IM a u τ y) (hl1 : 0 ≤ p1.toInt) (hW : IW (u 1) (u 2) (u 9) (y (a 89))) : Met l yX12_canGo wm_m_canGoX ({ frames := 1, cells := 0, slots := 0, locals := 60 }) (pw_ ad av (dC, dI) sz [.ref (a 50), .int p0, .int p1] a k τ ln y g) (va_Qi (fun (r u : Int32) => u = r) (fun (r : Int32) (t : State) => (r = 1 ∧ p1.toInt ≤ p0.toInt ∧ p0.toInt ≤ 960 ∧ u 9 + p0.toInt ≤ 4800 ∧ tw (dC, dI) a k τ ln y g t.heap) ∨ (r = 0 ∧ (p0.toInt < p1.toInt ∨ 960 < p0.toInt ∨ 4800 < u 9 + p0.toInt) ∧ tw (dC, dI) a k τ ln y g t.heap)) (fr τ sz)) 0 0 (fr τ sz) := by
  refine Met.ofW (cc := cX12_canGo) (maxL := 3) (ret := (some .boolean)) (by decide) rfl ?_
  intro p e s m args below meth c s₁ B hml hv
  obtain ⟨rfl, hsz, hT, hK, hM⟩ := hv
  have hx := B.exec
  have hb := B.bytes
  have hr := B.returns
  have hts := atoms_spec (ws := wm_m_canGoX) B.pre
  have hown : s.vm.findClass RX12 = some m.cls := findClass_of_methodNamed B.named
  have hlocks := B.notSynchronized
  subst hsz
  generalize hAe : fr τ s.heap.size = A at hM ⊢
  have hA : ∀ q : Nat, s.heap.size ≤ q → A q := fun q h => by rw [← hAe]; exact Or.inr h
  have hF : ∀ q, τ q ≠ 0 → A q := fun q h => by rw [← hAe]; exact Or.inl h
  have hS : va_S A s.heap s.heap [] := va_S.rf
  have hX := hI.1
  have hR := im_r hI
  have hl := lv_entry ([.ref (a 50), .int p0, .int p1]) (n := 3) (Nat.le_of_ble_eq_true rfl)
  rw [lg_entry_eq]
  generalize (lg_sl ([.ref (a 50), .int p0, .int p1]) ++ List.replicate (3 - (lg_sl ([.ref (a 50), .int p0, .int p1])).length) Slot.unset).toArray = ls at hl ⊢
  have hl : lv_has ls 3 [(0, .ref (a 50)), (1, .int p0), (2, .int p1)] := hl
  refine lv_iload_n hx hb dX12_canGo_0 rfl (lv_at hl 1 rfl) ?_
  refine lv_iload_n hx hb dX12_canGo_1 rfl (lv_at hl 2 rfl) ?_
  refine lv_sipush (v := 960) hx hb dX12_canGo_2 (by decide) ?_
  have hFc := tw_free hF hS hA
  have hp_1 : (960 : Int32).toInt = 960 := (zk (x := 960) 960 rfl)
  refine va_calli (va_runS (As := [.int p0, .int p1, .int 960]) (rest := []) ⟨hx, hb, hml, hown, hts⟩ (m_in l dC dI ad av s.heap.size a k τ ln y g u p0 p1 (960 : Int32)  ) (va_cwS 3 hts (gi_3 (List.mem_cons_of_mem _ (List.mem_append_left _ (List.mem_of_getElem? (i := 0) rfl))) (List.mem_cons_of_mem _ (List.mem_append_left _ (List.mem_of_getElem? (i := 1) rfl))) (List.mem_cons_of_mem _ (List.mem_append_left _ (List.mem_of_getElem? (i := 2) rfl))) (fun _ hh => (List.mem_cons_of_mem _ (List.mem_append_right _ (List.mem_append_left _ hh)))) gd_m_in) rfl rfl rfl (by decide +kernel) ⟨Nat.le_of_ble_eq_true rfl, Nat.le_of_ble_eq_true rfl⟩) ⟨pw_blind, pw_use hT hK hFc hS hM⟩ rfl rfl hl.1 rfl (lv_room (Nat.le_of_ble_eq_true rfl)) dX12_canGo_5 ⟨Nat.le_of_ble_eq_true rfl, Nat.le_of_ble_eq_true rfl⟩) hS (fun q _ h => hFc q h) hFc (fun r0 r_2 t H locs ht hvm hw hB hz1 hk1 hS => ?_)
  refine W.widen (k := 0) (n := 0) (Nat.le_of_ble_eq_true rfl) (Nat.le_of_ble_eq_true rfl) ?_
  clear hvm hz1 hk1
  subst hw
  rcases hB with ⟨hre, hf_3, hf_4, hT⟩ | ⟨hre, hf_5, hT⟩
  · refine lq_top (v := 1) hre ?_
    rw [ht] at hT
    try simp only [hp_1] at hf_3 hf_4
    clear hp_1
    refine lv_if_eq (tgt := 27) hx hb dX12_canGo_8 (by decide) (fun c_6 => absurd c_6 (by decide)) (fun c_6 => ?_)
    refine lv_aload_n hx hb dX12_canGo_11 rfl (lv_at hl 0 rfl) ?_
    have hFc := tw_free hF hS hA
    refine va_calli (va_runV (As := []) (rest := []) ⟨hx, hb, hml, hown, hts⟩ (m_now l dC dI ad av H.size a k τ ln y g u  hI hW) (cwV 0 hts (gi_4 (List.mem_cons_of_mem _ (List.mem_append_left _ (List.mem_of_getElem? (i := 3) rfl))) (List.mem_cons_of_mem _ (List.mem_append_left _ (List.mem_of_getElem? (i := 4) rfl))) (List.mem_cons_of_mem _ (List.mem_append_left _ (List.mem_of_getElem? (i := 5) rfl))) (List.mem_cons_of_mem _ (List.mem_append_left _ (List.mem_of_getElem? (i := 2) rfl))) (fun _ hh => (List.mem_cons_of_mem _ (List.mem_append_right _ (List.mem_append_right _ (List.mem_append_left _ hh))))) gd_m_now) rfl rfl rfl (by decide +kernel) ⟨Nat.le_of_ble_eq_true rfl, Nat.le_of_ble_eq_true rfl⟩) ⟨pw_blind, tw_recv hK hT (fx_50 hX) (by decide) cl_e60 rfl, pw_use hT hK hFc hS hM⟩ rfl rfl hl.1 rfl (lv_room (Nat.le_of_ble_eq_true rfl)) dX12_canGo_12 ⟨Nat.le_of_ble_eq_true rfl, Nat.le_of_ble_eq_true rfl⟩) hS (fun q _ h => hFc q h) hFc (fun r0 r_7 t H locs ht hvm hw hB hz1 hk1 hS => ?_)
    refine W.widen (k := 0) (n := 0) (Nat.le_of_ble_eq_true rfl) (Nat.le_of_ble_eq_true rfl) ?_
    clear hvm hz1 hk1
    subst hw
    obtain ⟨hf_8, hT⟩ := hB
    rw [ht] at hT
    refine lv_iload_n hx hb dX12_canGo_15 rfl (lv_at hl 1 rfl) ?_
    refine lv_iadd hx hb dX12_canGo_16 ?_
    refine lv_topi (fun x_9 ex_9 => ?_)
    have hx_9 := z_add ex_9 rfl rfl (by omega) (by omega)
    refine lv_sipush (v := 4800) hx hb dX12_canGo_17 (by decide) ?_
    refine lv_icmp_gt (tgt := 27) hx hb dX12_canGo_20 (by decide) (fun c_10 => ?_) (fun c_10 => ?_)
    · have nc_10 := z_lt (zk (x := 4800) 4800 rfl) rfl c_10
      refine lv_iconst (v := 0) hx hb dX12_canGo_27 (by decide) ?_
      have hrv : (0 : Int32).toInt = 0 := (zk (x := 0) 0 rfl)
      exact W.zret (v := 0) hx hb hr (by decide) (fun t ht hW9 => ⟨⟨0, 0, rfl, rfl, Or.inr (⟨rfl, by omega, tw_at ht hT⟩)⟩, hS.F ht⟩) hS.2.2 dX12_canGo_28
    · have nc_10 := z_nlt (zk (x := 4800) 4800 rfl) rfl c_10
      refine lv_iconst (v := 1) hx hb dX12_canGo_23 (by decide) ?_
      refine lv_goto (tgt := 28) hx hb dX12_canGo_24 (by decide) ?_
      have hrv : (1 : Int32).toInt = 1 := (zk (x := 1) 1 rfl)
      exact W.zret (v := 1) hx hb hr (by decide) (fun t ht hW9 => ⟨⟨1, 1, rfl, rfl, Or.inl ⟨rfl, by omega, by omega, by omega, tw_at ht hT⟩⟩, hS.F ht⟩) hS.2.2 dX12_canGo_28
  · refine lq_top (v := 0) hre ?_
    rw [ht] at hT
    try simp only [hp_1] at hf_5
    clear hp_1
    refine lv_if_eq (tgt := 27) hx hb dX12_canGo_8 (by decide) (fun c_11 => ?_) (fun c_11 => absurd c_11 (by decide))
    refine lv_iconst (v := 0) hx hb dX12_canGo_27 (by decide) ?_
    have hrv : (0 : Int32).toInt = 0 := (zk (x := 0) 0 rfl)
    exact W.zret (v := 0) hx hb hr (by decide) (fun t ht hW9 => ⟨⟨0, 0, rfl, rfl, Or.inr (⟨rfl, by omega, tw_at ht hT⟩)⟩, hS.F ht⟩) hS.2.2 dX12_canGo_28
def wo_m_step : List Cond := [.fieldLink RX12 139 "TypingPoolModel" "thrown" "I", .methodLink RX12 305 yX12_canGo, .instanceMethod yX12_canGo, .selects RX12 yX12_canGo yX12_canGo, .initialized RX12, .methodLink RX12 308 yX12_go, .instanceMethod yX12_go, .selects RX12 yX12_go yX12_go, .methodLink RX12 164 yX12_now, .instanceMethod yX12_now, .selects RX12 yX12_now yX12_now]
def wm_m_step : List Cond := .code yX12_step cX12_step 2 (some .int) :: (wo_m_step ++ (wsX120 ++ (wm_m_canGoX ++ (wm_m_go ++ (wm_m_now ++ ([] : List Cond))))))
theorem gd_m_step : ∀ w ∈ wm_m_step, goodWord w = true := gd_c rfl (gd_a (by decide) (gd_a gd_wsX120 (gd_a gd_m_canGoX (gd_a gd_m_go (gd_a gd_m_now gd_nil)))))
set_option maxRecDepth 20000 in
theorem im_m_step : ∀ w ∈ wm_m_step, w ∈ lw_tbl := im_c (in_r [.code yX12_step cX12_step 2 (some .int)] [1527] (by decide +kernel)) (in_app (in_r wo_m_step [1278, 1528, 1530, 43, 86, 1532, 1534, 44, 1440, 1442, 28] (by decide +kernel)) (in_app im_wsX120 (in_app im_m_canGoX (in_app im_m_go (in_app im_m_now im_nil)))))
set_option maxHeartbeats 4000000 in
set_option maxRecDepth 100000 in
theorem m_step (l : Launch) (dC : Nat → ClassId) (dI : Nat → Nat → Nat) (ad av : Nat → Nat) (sz : Nat) (a : Nat → Nat) (k : Nat → ClassId) (τ ln : Nat → Nat) (y : Nat → Nat → Int32) (g : Nat → Nat → Option Nat) (u : Nat → Int) (p0 : Int32) (hI : IM a u τ y) (hW : IW (u 1) (u 2) (u 9) (y (a 89))) : Met l yX12_step wm_m_step ({ frames := 389, cells := 0, slots := 0, locals := 25460 }) (pw_ ad av (dC, dI) sz [.ref (a 50), .int p0] a k τ ln y g) (va_Qi (fun (r u : Int32) => u = r) (fun (r : Int32) (t : State) => (∃ (u' : Nat → Int) (y' : Nat → Nat → Int32) (g' : Nat → Nat → Option Nat), r = (-1) ∧ (∀ i, i ∉ ([9] : List Nat) → u' i = u i) ∧ ag τ [60, 99, 102] y y' ∧ agg τ g g' ∧ IM a u' τ y' ∧ IW (u' 1) (u' 2) (u' 9) (y' (a 89)) ∧ (p0.toInt < 0 ∨ 960 < p0.toInt ∨ 4800 < u 9 + p0.toInt) ∧ u' 9 = u 9 ∧ tw (dC, dI) a k τ ln y' g' t.heap) ∨ (∃ (u' : Nat → Int) (y' : Nat → Nat → Int32) (g' : Nat → Nat → Option Nat), (∀ i, i ∉ ([9] : List Nat) → u' i = u i) ∧ ag τ [60, 99, 102] y y' ∧ agg τ g g' ∧ IM a u' τ y' ∧ IW (u' 1) (u' 2) (u' 9) (y' (a 89)) ∧ (0 ≤ p0.toInt ∧ p0.toInt ≤ 960 ∧ u 9 + p0.toInt ≤ 4800) ∧ r.toInt = u 9 + p0.toInt ∧ u' 9 = u 9 + p0.toInt ∧ tw (dC, dI) a k τ ln y' g' t.heap)) (fr τ sz)) 0 0 (fr τ sz) := by
  refine Met.ofW (cc := cX12_step) (maxL := 2) (ret := (some .int)) (by decide) rfl ?_
  intro p e s m args below meth c s₁ B hml hv
  obtain ⟨rfl, hsz, hT, hK, hM⟩ := hv
  have hx := B.exec
  have hb := B.bytes
  have hr := B.returns
  have hts := atoms_spec (ws := wm_m_step) B.pre
  have hown : s.vm.findClass RX12 = some m.cls := findClass_of_methodNamed B.named
  have hlocks := B.notSynchronized
  subst hsz
  generalize hAe : fr τ s.heap.size = A at hM ⊢
  have hA : ∀ q : Nat, s.heap.size ≤ q → A q := fun q h => by rw [← hAe]; exact Or.inr h
  have hF : ∀ q, τ q ≠ 0 → A q := fun q h => by rw [← hAe]; exact Or.inl h
  have hS : va_S A s.heap s.heap [] := va_S.rf
  have hX := hI.1
  have hR := im_r hI
  have hG : ag τ [60, 99, 102] y y := ag.rf
  have hGg : agg τ g g := agg.rf
  have hl := lv_entry ([.ref (a 50), .int p0]) (n := 2) (Nat.le_of_ble_eq_true rfl)
  rw [lg_entry_eq]
  generalize (lg_sl ([.ref (a 50), .int p0]) ++ List.replicate (2 - (lg_sl ([.ref (a 50), .int p0])).length) Slot.unset).toArray = ls at hl ⊢
  have hl : lv_has ls 2 [(0, .ref (a 50)), (1, .int p0)] := hl
  refine lv_aload_n hx hb dX12_step_0 rfl (lv_at hl 0 rfl) ?_
  refine lv_iconst (v := 0) hx hb dX12_step_1 (by decide) ?_
  refine tw_put (D := (dC, dI)) (x := 0) (ty := .int) (C := RX12) (T := TX12) (N := 58) hx hb hts (fun _ hh => (List.mem_cons_of_mem _ (List.mem_append_right _ (List.mem_append_left _ hh)))) tyX12 tyX12_ok nmX12 hown hK hT hF hS (fx_50 hX) (by decide) cl_e60 rfl 37 (by decide) (hts (.fieldLink RX12 139 "TypingPoolModel" "thrown" "I") (List.mem_cons_of_mem _ (List.mem_append_left _ (List.mem_of_getElem? (i := 0) rfl)))) (fun _ h9 => h9) rfl (tyX12_ok 37 (by decide)) rfl rfl (Nat.le_of_ble_eq_true rfl) rfl dX12_step_2 (fun H locs hT hS => ?_)
  obtain ⟨y_1, hy_1, hT⟩ : ∃ z : Nat → Nat → Int32, z = up2 y (a 50) 37 (0 : Int32) ∧ tw (dC, dI) a k τ ln z g H := ⟨_, rfl, hT⟩
  have hG : ag τ [60, 99, 102] y y_1 := by rw [hy_1]; exact hG.up (fx_50 hX) (by decide)
  have hW : IW (u 1) (u 2) (u 9) (y_1 (a 89)) := by rw [hy_1, up2_o (kd_ne (fx_89 hX) (fx_50 hX) (by decide))]; exact hW
  have hI := hI.put (f := 37) (x := (0 : Int32)) (by decide)
  rw [← hy_1] at hI
  refine lv_aload_n hx hb dX12_step_5 rfl (lv_at hl 0 rfl) ?_
  refine lv_iload_n hx hb dX12_step_6 rfl (lv_at hl 1 rfl) ?_
  refine lv_iconst (v := 0) hx hb dX12_step_7 (by decide) ?_
  have hFc := tw_free hF hS hA
  have hp_2 : (0 : Int32).toInt = 0 := (zk (x := 0) 0 rfl)
  refine va_calli (va_runV (As := [.int p0, .int 0]) (rest := []) ⟨hx, hb, hml, hown, hts⟩ (m_canGoX l dC dI ad av H.size a k τ ln y_1 g u p0 (0 : Int32) hI (by decide) hW) (cwV 2 hts (gi_4 (List.mem_cons_of_mem _ (List.mem_append_left _ (List.mem_of_getElem? (i := 1) rfl))) (List.mem_cons_of_mem _ (List.mem_append_left _ (List.mem_of_getElem? (i := 2) rfl))) (List.mem_cons_of_mem _ (List.mem_append_left _ (List.mem_of_getElem? (i := 3) rfl))) (List.mem_cons_of_mem _ (List.mem_append_left _ (List.mem_of_getElem? (i := 4) rfl))) (fun _ hh => (List.mem_cons_of_mem _ (List.mem_append_right _ (List.mem_append_right _ (List.mem_append_left _ hh))))) gd_m_canGoX) rfl rfl rfl (by decide +kernel) ⟨Nat.le_of_ble_eq_true rfl, Nat.le_of_ble_eq_true rfl⟩) ⟨pw_blind, tw_recv hK hT (fx_50 hX) (by decide) cl_e60 rfl, pw_use hT hK hFc hS hM⟩ rfl rfl hl.1 rfl (lv_room (Nat.le_of_ble_eq_true rfl)) dX12_step_8 ⟨Nat.le_of_ble_eq_true rfl, Nat.le_of_ble_eq_true rfl⟩) hS (fun q _ h => hFc q h) hFc (fun r0 r_3 t H locs ht hvm hw hB hz1 hk1 hS => ?_)
  refine W.widen (k := 0) (n := 0) (Nat.le_of_ble_eq_true rfl) (Nat.le_of_ble_eq_true rfl) ?_
  clear hvm hz1 hk1
  subst hw
  rcases hB with ⟨hre, hf_4, hf_5, hf_6, hT⟩ | ⟨hre, hf_7, hT⟩
  · refine lq_top (v := 1) hre ?_
    rw [ht] at hT
    try simp only [hp_2] at hf_4 hf_5 hf_6
    clear hp_2
    refine lv_if_ne (tgt := 16) hx hb dX12_step_11 (by decide) (fun c_8 => ?_) (fun c_8 => absurd c_8 (by decide))
    refine lv_aload_n hx hb dX12_step_16 rfl (lv_at hl 0 rfl) ?_
    refine lv_iload_n hx hb dX12_step_17 rfl (lv_at hl 1 rfl) ?_
    have hFc := tw_free hF hS hA
    refine va_callv (va_runV (As := [.int p0]) (rest := []) ⟨hx, hb, hml, hown, hts⟩ (m_go l dC dI ad av H.size a k τ ln y_1 g u p0 hI (by omega) (by omega) hW) (cwV 1 hts (gi_4 (List.mem_cons_of_mem _ (List.mem_append_left _ (List.mem_of_getElem? (i := 5) rfl))) (List.mem_cons_of_mem _ (List.mem_append_left _ (List.mem_of_getElem? (i := 6) rfl))) (List.mem_cons_of_mem _ (List.mem_append_left _ (List.mem_of_getElem? (i := 7) rfl))) (List.mem_cons_of_mem _ (List.mem_append_left _ (List.mem_of_getElem? (i := 4) rfl))) (fun _ hh => (List.mem_cons_of_mem _ (List.mem_append_right _ (List.mem_append_right _ (List.mem_append_right _ (List.mem_append_left _ hh)))))) gd_m_go) rfl rfl rfl (by decide +kernel) ⟨Nat.le_of_ble_eq_true rfl, Nat.le_of_ble_eq_true rfl⟩) ⟨pw_blind, tw_recv hK hT (fx_50 hX) (by decide) cl_e60 rfl, pw_use hT hK hFc hS hM⟩ rfl rfl hl.1 rfl (lv_room (Nat.le_of_ble_eq_true rfl)) dX12_step_18 ⟨Nat.le_of_ble_eq_true rfl, Nat.le_of_ble_eq_true rfl⟩) hS (fun q _ h => hFc q h) hFc (fun u0 t H locs ht hvm hw hB hz1 hk1 hS => ?_)
    refine W.widen (k := 0) (n := 0) (Nat.le_of_ble_eq_true rfl) (Nat.le_of_ble_eq_true rfl) ?_
    clear hvm hz1 hk1
    obtain ⟨u_10, y_11, g_12, huu_10, hgy_11, hggg_12, hI, hW, hf_13, hT⟩ := hB
    rw [ht] at hT
    have hG := hG.tr hgy_11 (by decide)
    have hGg := hGg.tr hggg_12
    have hR := im_r hI
    have : u_10 0 = u 0 := huu_10 0 (by decide)
    have : u_10 1 = u 1 := huu_10 1 (by decide)
    have : u_10 2 = u 2 := huu_10 2 (by decide)
    have : u_10 3 = u 3 := huu_10 3 (by decide)
    have : u_10 4 = u 4 := huu_10 4 (by decide)
    have : u_10 5 = u 5 := huu_10 5 (by decide)
    have : u_10 6 = u 6 := huu_10 6 (by decide)
    have : u_10 7 = u 7 := huu_10 7 (by decide)
    have : u_10 8 = u 8 := huu_10 8 (by decide)
    have : u_10 10 = u 10 := huu_10 10 (by decide)
    refine lv_aload_n hx hb dX12_step_21 rfl (lv_at hl 0 rfl) ?_
    have hFc := tw_free hF hS hA
    refine va_calli (va_runV (As := []) (rest := []) ⟨hx, hb, hml, hown, hts⟩ (m_now l dC dI ad av H.size a k τ ln y_11 g_12 u_10  hI hW) (cwV 0 hts (gi_4 (List.mem_cons_of_mem _ (List.mem_append_left _ (List.mem_of_getElem? (i := 8) rfl))) (List.mem_cons_of_mem _ (List.mem_append_left _ (List.mem_of_getElem? (i := 9) rfl))) (List.mem_cons_of_mem _ (List.mem_append_left _ (List.mem_of_getElem? (i := 10) rfl))) (List.mem_cons_of_mem _ (List.mem_append_left _ (List.mem_of_getElem? (i := 4) rfl))) (fun _ hh => (List.mem_cons_of_mem _ (List.mem_append_right _ (List.mem_append_right _ (List.mem_append_right _ (List.mem_append_right _ (List.mem_append_left _ hh))))))) gd_m_now) rfl rfl rfl (by decide +kernel) ⟨Nat.le_of_ble_eq_true rfl, Nat.le_of_ble_eq_true rfl⟩) ⟨pw_blind, tw_recv hK hT (fx_50 hX) (by decide) cl_e60 rfl, pw_use hT hK hFc hS hM⟩ rfl rfl hl.1 rfl (lv_room (Nat.le_of_ble_eq_true rfl)) dX12_step_22 ⟨Nat.le_of_ble_eq_true rfl, Nat.le_of_ble_eq_true rfl⟩) hS (fun q _ h => hFc q h) hFc (fun r0 r_14 t H locs ht hvm hw hB hz1 hk1 hS => ?_)
    refine W.widen (k := 0) (n := 0) (Nat.le_of_ble_eq_true rfl) (Nat.le_of_ble_eq_true rfl) ?_
    clear hvm hz1 hk1
    subst hw
    obtain ⟨hf_15, hT⟩ := hB
    rw [ht] at hT
    have hrv : r_14.toInt = r_14.toInt := rfl
    exact W.iret (v := r_14) hx hb hr (fun t ht hW9 => ⟨⟨r_14, r_14, rfl, rfl, Or.inr (⟨u_10, y_11, g_12, (by intro i hi; simp only [List.mem_cons, List.not_mem_nil, or_false, not_or] at hi; rw [huu_10 i (by simp <;> omega)]), hG, hGg, hI, hW, by omega, by omega, by omega, tw_at ht hT⟩)⟩, hS.F ht⟩) hS.2.2 dX12_step_25
  · refine lq_top (v := 0) hre ?_
    rw [ht] at hT
    try simp only [hp_2] at hf_7
    clear hp_2
    refine lv_if_ne (tgt := 16) hx hb dX12_step_11 (by decide) (fun c_16 => absurd c_16 (by decide)) (fun c_16 => ?_)
    refine lv_iconst (v := (-1)) hx hb dX12_step_14 (by decide) ?_
    have hrv : (-1 : Int32).toInt = (-1) := (zk (x := (-1)) (-1) rfl)
    exact W.iret (v := (-1)) hx hb hr (fun t ht hW9 => ⟨⟨(-1), (-1), rfl, rfl, Or.inl ⟨u, y_1, g, rfl, (fun _ _ => rfl), hG, hGg, hI, hW, by omega, by omega, tw_at ht hT⟩⟩, hS.F ht⟩) hS.2.2 dX12_step_15
def wo_m_putAside : List Cond := [.fieldLink RX12 110 "TypingPoolModel" "aside" "[I", .fieldLink RX12 107 "TypingPoolModel" "w" "[I"]
def wm_m_putAside : List Cond := .code yX12_putAside cX12_putAside 2 none :: (wo_m_putAside ++ (wsX120 ++ ([] : List Cond)))
theorem gd_m_putAside : ∀ w ∈ wm_m_putAside, goodWord w = true := gd_c rfl (gd_a (by decide) (gd_a gd_wsX120 gd_nil))
set_option maxRecDepth 20000 in
theorem im_m_putAside : ∀ w ∈ wm_m_putAside, w ∈ lw_tbl := im_c (in_r [.code yX12_putAside cX12_putAside 2 none] [1722] (by decide +kernel)) (in_app (in_r wo_m_putAside [1280, 1279] (by decide +kernel)) (in_app im_wsX120 im_nil))
set_option maxHeartbeats 4000000 in
set_option maxRecDepth 100000 in
theorem m_putAside (l : Launch) (dC : Nat → ClassId) (dI : Nat → Nat → Nat) (ad av : Nat → Nat) (sz : Nat) (a : Nat → Nat) (k : Nat → ClassId) (τ ln : Nat → Nat) (y : Nat → Nat → Int32) (g : Nat → Nat → Option Nat) (u : Nat → Int) (hI : IM a u τ y) (hW : IW (u 1) (u 2) (u 9) (y (a 89))) : Met l yX12_putAside wm_m_putAside ({ frames := 0, cells := 0, slots := 0, locals := 0 }) (pw_ ad av (dC, dI) sz [.ref (a 50)] a k τ ln y g) (va_Qv (fun (_ : Unit) => True) (fun (_ : Unit) (t : State) => (∃ (y' : Nat → Nat → Int32), ag τ [100] y y' ∧ IM a u τ y' ∧ IW (u 1) (u 2) (u 9) (y' (a 90)) ∧ tw (dC, dI) a k τ ln y' g t.heap)) (fr τ sz)) 0 0 (fr τ sz) := by
  refine Met.ofW (cc := cX12_putAside) (maxL := 2) (ret := none) (by decide) rfl ?_
  intro p e s m args below meth c s₁ B hml hv
  obtain ⟨rfl, hsz, hT, hK, hM⟩ := hv
  have hx := B.exec
  have hb := B.bytes
  have hr := B.returns
  have hts := atoms_spec (ws := wm_m_putAside) B.pre
  have hown : s.vm.findClass RX12 = some m.cls := findClass_of_methodNamed B.named
  have hlocks := B.notSynchronized
  subst hsz
  generalize hAe : fr τ s.heap.size = A at hM ⊢
  have hA : ∀ q : Nat, s.heap.size ≤ q → A q := fun q h => by rw [← hAe]; exact Or.inr h
  have hF : ∀ q, τ q ≠ 0 → A q := fun q h => by rw [← hAe]; exact Or.inl h
  have hS : va_S A s.heap s.heap [] := va_S.rf
  have hX := hI.1
  have hR := im_r hI
  have hG : ag τ [100] y y := ag.rf
  have hl := lv_entry ([.ref (a 50)]) (n := 2) (Nat.le_of_ble_eq_true rfl)
  rw [lg_entry_eq]
  generalize (lg_sl ([.ref (a 50)]) ++ List.replicate (2 - (lg_sl ([.ref (a 50)])).length) Slot.unset).toArray = ls at hl ⊢
  have hl : lv_has ls 2 [(0, .ref (a 50))] := hl
  have hW0 := hW
  refine lv_iconst (v := 0) hx hb dX12_putAside_0 (by decide) ?_
  refine lv_istore_n (lv' := [(1, .int 0), (0, .ref (a 50))]) hx hb dX12_putAside_1 rfl hl (by decide) rfl (fun ls hl => ?_)
  have loop_2 : ∀ (n : Nat) (i1 : Int32) (y_L2 : Nat → Nat → Int32) (H : Heap) (locs : List Loc) (ls : Array Slot), (199 - i1.toInt).toNat < n → ag τ [100] y y_L2 → IM a u τ y_L2 → IW (u 1) (u 2) (u 9) (y_L2 (a 89)) → 0 ≤ i1.toInt → i1.toInt ≤ 199 → cpd i1.toInt (y_L2 (a 90)) (y (a 89)) → tw (dC, dI) a k τ ln y_L2 g H → va_S A s.heap H locs → lv_has ls 2 [(0, .ref (a 50)), (1, .int i1)] → W p l e (headSpec wm_m_putAside ({ frames := 0, cells := 0, slots := 0, locals := 0 })).room s m ([.ref (a 50)] : List Value).toArray below meth c H locs 0 0 (MQ below (va_Qv (fun (_ : Unit) => True) (fun (_ : Unit) (t : State) => (∃ (y' : Nat → Nat → Int32), ag τ [100] y y' ∧ IM a u τ y' ∧ IW (u 1) (u 2) (u 9) (y' (a 90)) ∧ tw (dC, dI) a k τ ln y' g t.heap)) A) ([.ref (a 50)] : List Value).toArray s 0 0 A) (F0 m 2 ls []) := by
    intro n
    induction n with
    | zero => intro i1 y_L2 H locs ls hlt; exact absurd hlt (Nat.not_lt_zero _)
    | succ n ih_2 =>
      intro i1 y_L2 H locs ls hlt hG hI hW hi2_0 hi2_1 hi2_2 hT hS hl
      have hG0 := hG
      refine lv_iload_n hx hb dX12_putAside_2 rfl (lv_at hl 1 rfl) ?_
      refine lv_sipush (v := 199) hx hb dX12_putAside_3 (by decide) ?_
      refine lv_icmp_ge (tgt := 27) hx hb dX12_putAside_6 (by decide) (fun c_1 => ?_) (fun c_1 => ?_)
      · have nc_1 := z_le (zk (x := 199) 199 rfl) rfl c_1
        exact W.vret hx hb hr (fun t ht hW9 => ⟨⟨(), rfl, trivial, ⟨y_L2, hG, hI, (iw_same hW0 (fun j hj => hi2_2 j (by omega)) hR.2.1.2 hR.2.2.1.2), tw_at ht hT⟩⟩, hS.F ht⟩) hS.2.2 dX12_putAside_27
      · have nc_1 := z_nle (zk (x := 199) 199 rfl) rfl c_1
        refine lv_aload_n hx hb dX12_putAside_9 rfl (lv_at hl 0 rfl) ?_
        refine tw_get (D := (dC, dI)) (v := .ref (a 90)) (C := RX12) (T := TX12) (N := 58) hx hb hts (fun _ hh => (List.mem_cons_of_mem _ (List.mem_append_right _ (List.mem_append_left _ hh)))) hown hK hT (fx_50 hX) (by decide) cl_e60 rfl 39 (by decide) (hts (.fieldLink RX12 110 "TypingPoolModel" "aside" "[I") (List.mem_cons_of_mem _ (List.mem_append_left _ (List.mem_of_getElem? (i := 0) rfl)))) (fun _ h9 => h9) rfl dX12_putAside_10 ?_
        refine lv_iload_n hx hb dX12_putAside_13 rfl (lv_at hl 1 rfl) ?_
        refine lv_aload_n hx hb dX12_putAside_14 rfl (lv_at hl 0 rfl) ?_
        refine tw_get (D := (dC, dI)) (v := .ref (a 89)) (C := RX12) (T := TX12) (N := 58) hx hb hts (fun _ hh => (List.mem_cons_of_mem _ (List.mem_append_right _ (List.mem_append_left _ hh)))) hown hK hT (fx_50 hX) (by decide) cl_e60 rfl 38 (by decide) (hts (.fieldLink RX12 107 "TypingPoolModel" "w" "[I") (List.mem_cons_of_mem _ (List.mem_append_left _ (List.mem_of_getElem? (i := 1) rfl)))) (fun _ h9 => h9) rfl dX12_putAside_15 ?_
        refine lv_iload_n hx hb dX12_putAside_18 rfl (lv_at hl 1 rfl) ?_
        refine tw_iald hx hb hK hT 0 (fx_89 hX) (by decide) cl_e99 rfl (z_in rfl (by omega) (by omega)) dX12_putAside_19 ?_
        refine tw_iast hx hb hK hT hF hS 0 (fx_90 hX) (by decide) (fun _ => cl_e100) rfl (z_in rfl (by omega) (by omega)) dX12_putAside_20 (fun H locs hT hS => ?_)
        obtain ⟨y_2, hy_2, hT⟩ : ∃ z : Nat → Nat → Int32, z = up2 y_L2 (a 90) i1.toNatClampNeg (y_L2 (a 89) i1.toNatClampNeg) ∧ tw (dC, dI) a k τ ln z g H := ⟨_, rfl, hT⟩
        have hG : ag τ [100] y y_2 := by rw [hy_2]; exact hG.up (fx_90 hX) (by decide)
        have hW : IW (u 1) (u 2) (u 9) (y_2 (a 89)) := by rw [hy_2, up2_o (kd_ne (fx_89 hX) (fx_90 hX) (by decide))]; exact hW
        have hI := hI.ag (S := [100]) (y' := y_2) (by rw [hy_2]; exact ag.one (fx_90 hX)) (by decide)
        obtain ⟨x_3, ex_3⟩ : ∃ y : Int32, y = i1 + Int32.ofInt 1 := ⟨_, rfl⟩
        have hx_3 := z_add ex_3 rfl (zk (x := Int32.ofInt 1) 1 rfl) (by omega) (by omega)
        refine lv_iinc (v := x_3) (lv' := [(1, .int x_3), (0, .ref (a 50))]) hx hb dX12_putAside_21 hl (k := 1) rfl ex_3.symm (by decide) rfl (fun ls hl => ?_)
        refine lv_goto (tgt := 2) hx hb dX12_putAside_24 (by decide) ?_
        exact ih_2  x_3 y_2 H _ ls (by omega) hG hI hW (by omega) (by omega) (cpd_step hi2_2 (show y_2 = up2 y_L2 (a 90) i1.toNatClampNeg (y (a 89) i1.toNatClampNeg) from by rw [hy_2, hG0.at (fx_89 hX) (by decide)]) rfl (by omega) rfl (by omega)) hT hS (lv_sub hl [1, 0] rfl)
  have hp_4 : (0 : Int32).toInt = 0 := (zk (x := 0) 0 rfl)
  exact loop_2 _ (0 : Int32) y s.heap _ ls (Nat.lt_succ_self _) hG hI hW (by omega) (by omega) (cpd_0 (by omega)) hT hS (lv_sub hl [1, 0] rfl)
def wo_m_putBack : List Cond := [.fieldLink RX12 107 "TypingPoolModel" "w" "[I", .fieldLink RX12 110 "TypingPoolModel" "aside" "[I"]
def wm_m_putBack : List Cond := .code yX12_putBack cX12_putBack 2 none :: (wo_m_putBack ++ (wsX120 ++ ([] : List Cond)))
theorem gd_m_putBack : ∀ w ∈ wm_m_putBack, goodWord w = true := gd_c rfl (gd_a (by decide) (gd_a gd_wsX120 gd_nil))
set_option maxRecDepth 20000 in
theorem im_m_putBack : ∀ w ∈ wm_m_putBack, w ∈ lw_tbl := im_c (in_r [.code yX12_putBack cX12_putBack 2 none] [1726] (by decide +kernel)) (in_app (in_r wo_m_putBack [1279, 1280] (by decide +kernel)) (in_app im_wsX120 im_nil))
set_option maxHeartbeats 4000000 in
set_option maxRecDepth 100000 in
theorem m_putBack (l : Launch) (dC : Nat → ClassId) (dI : Nat → Nat → Nat) (ad av : Nat → Nat) (sz : Nat) (a : Nat → Nat) (k : Nat → ClassId) (τ ln : Nat → Nat) (y : Nat → Nat → Int32) (g : Nat → Nat → Option Nat) (u : Nat → Int) (nw : Int) (hI : IM a u τ y) (hwa : IW (u 1) (u 2) nw (y (a 90))) (hnw : 0 ≤ nw ∧ nw ≤ 4800) : Met l yX12_putBack wm_m_putBack ({ frames := 0, cells := 0, slots := 0, locals := 0 }) (pw_ ad av (dC, dI) sz [.ref (a 50)] a k τ ln y g) (va_Qv (fun (_ : Unit) => True) (fun (_ : Unit) (t : State) => (∃ (u' : Nat → Int) (y' : Nat → Nat → Int32), (∀ i, i ∉ ([9] : List Nat) → u' i = u i) ∧ ag τ [99] y y' ∧ IM a u' τ y' ∧ IW (u' 1) (u' 2) (u' 9) (y' (a 89)) ∧ u' 9 = nw ∧ tw (dC, dI) a k τ ln y' g t.heap)) (fr τ sz)) 0 0 (fr τ sz) := by
  refine Met.ofW (cc := cX12_putBack) (maxL := 2) (ret := none) (by decide) rfl ?_
  intro p e s m args below meth c s₁ B hml hv
  obtain ⟨rfl, hsz, hT, hK, hM⟩ := hv
  have hx := B.exec
  have hb := B.bytes
  have hr := B.returns
  have hts := atoms_spec (ws := wm_m_putBack) B.pre
  have hown : s.vm.findClass RX12 = some m.cls := findClass_of_methodNamed B.named
  have hlocks := B.notSynchronized
  subst hsz
  generalize hAe : fr τ s.heap.size = A at hM ⊢
  have hA : ∀ q : Nat, s.heap.size ≤ q → A q := fun q h => by rw [← hAe]; exact Or.inr h
  have hF : ∀ q, τ q ≠ 0 → A q := fun q h => by rw [← hAe]; exact Or.inl h
  have hS : va_S A s.heap s.heap [] := va_S.rf
  have hX := hI.1
  have hR := im_r hI
  have hG : ag τ [99] y y := ag.rf
  have hl := lv_entry ([.ref (a 50)]) (n := 2) (Nat.le_of_ble_eq_true rfl)
  rw [lg_entry_eq]
  generalize (lg_sl ([.ref (a 50)]) ++ List.replicate (2 - (lg_sl ([.ref (a 50)])).length) Slot.unset).toArray = ls at hl ⊢
  have hl : lv_has ls 2 [(0, .ref (a 50))] := hl
  refine lv_iconst (v := 0) hx hb dX12_putBack_0 (by decide) ?_
  refine lv_istore_n (lv' := [(1, .int 0), (0, .ref (a 50))]) hx hb dX12_putBack_1 rfl hl (by decide) rfl (fun ls hl => ?_)
  have loop_2 : ∀ (n : Nat) (i1 : Int32) (y_L2 : Nat → Nat → Int32) (H : Heap) (locs : List Loc) (ls : Array Slot), (199 - i1.toInt).toNat < n → ag τ [99] y y_L2 → IM a u τ y_L2 → 0 ≤ i1.toInt → i1.toInt ≤ 199 → cpd i1.toInt (y_L2 (a 89)) (y (a 90)) → tw (dC, dI) a k τ ln y_L2 g H → va_S A s.heap H locs → lv_has ls 2 [(0, .ref (a 50)), (1, .int i1)] → W p l e (headSpec wm_m_putBack ({ frames := 0, cells := 0, slots := 0, locals := 0 })).room s m ([.ref (a 50)] : List Value).toArray below meth c H locs 0 0 (MQ below (va_Qv (fun (_ : Unit) => True) (fun (_ : Unit) (t : State) => (∃ (u' : Nat → Int) (y' : Nat → Nat → Int32), (∀ i, i ∉ ([9] : List Nat) → u' i = u i) ∧ ag τ [99] y y' ∧ IM a u' τ y' ∧ IW (u' 1) (u' 2) (u' 9) (y' (a 89)) ∧ u' 9 = nw ∧ tw (dC, dI) a k τ ln y' g t.heap)) A) ([.ref (a 50)] : List Value).toArray s 0 0 A) (F0 m 2 ls []) := by
    intro n
    induction n with
    | zero => intro i1 y_L2 H locs ls hlt; exact absurd hlt (Nat.not_lt_zero _)
    | succ n ih_2 =>
      intro i1 y_L2 H locs ls hlt hG hI hi2_0 hi2_1 hi2_2 hT hS hl
      have hG0 := hG
      refine lv_iload_n hx hb dX12_putBack_2 rfl (lv_at hl 1 rfl) ?_
      refine lv_sipush (v := 199) hx hb dX12_putBack_3 (by decide) ?_
      refine lv_icmp_ge (tgt := 27) hx hb dX12_putBack_6 (by decide) (fun c_1 => ?_) (fun c_1 => ?_)
      · have nc_1 := z_le (zk (x := 199) 199 rfl) rfl c_1
        have hI := hI.now (v := nw) hnw.1 hnw.2
        have hW : IW ((upc u 9 nw) 1) ((upc u 9 nw) 2) ((upc u 9 nw) 9) (y_L2 (a 89)) := iw_same hwa (fun j hj => hi2_2 j (by omega)) hR.2.1.2 hR.2.2.1.2
        exact W.vret hx hb hr (fun t ht hW9 => ⟨⟨(), rfl, trivial, ⟨(upc u 9 nw), y_L2, (by intro i hi; simp only [List.mem_cons, List.not_mem_nil, or_false, not_or] at hi; rw [upc_o (by omega)]), hG, hI, hW, upc_i, tw_at ht hT⟩⟩, hS.F ht⟩) hS.2.2 dX12_putBack_27
      · have nc_1 := z_nle (zk (x := 199) 199 rfl) rfl c_1
        refine lv_aload_n hx hb dX12_putBack_9 rfl (lv_at hl 0 rfl) ?_
        refine tw_get (D := (dC, dI)) (v := .ref (a 89)) (C := RX12) (T := TX12) (N := 58) hx hb hts (fun _ hh => (List.mem_cons_of_mem _ (List.mem_append_right _ (List.mem_append_left _ hh)))) hown hK hT (fx_50 hX) (by decide) cl_e60 rfl 38 (by decide) (hts (.fieldLink RX12 107 "TypingPoolModel" "w" "[I") (List.mem_cons_of_mem _ (List.mem_append_left _ (List.mem_of_getElem? (i := 0) rfl)))) (fun _ h9 => h9) rfl dX12_putBack_10 ?_
        refine lv_iload_n hx hb dX12_putBack_13 rfl (lv_at hl 1 rfl) ?_
        refine lv_aload_n hx hb dX12_putBack_14 rfl (lv_at hl 0 rfl) ?_
        refine tw_get (D := (dC, dI)) (v := .ref (a 90)) (C := RX12) (T := TX12) (N := 58) hx hb hts (fun _ hh => (List.mem_cons_of_mem _ (List.mem_append_right _ (List.mem_append_left _ hh)))) hown hK hT (fx_50 hX) (by decide) cl_e60 rfl 39 (by decide) (hts (.fieldLink RX12 110 "TypingPoolModel" "aside" "[I") (List.mem_cons_of_mem _ (List.mem_append_left _ (List.mem_of_getElem? (i := 1) rfl)))) (fun _ h9 => h9) rfl dX12_putBack_15 ?_
        refine lv_iload_n hx hb dX12_putBack_18 rfl (lv_at hl 1 rfl) ?_
        refine tw_iald hx hb hK hT 0 (fx_90 hX) (by decide) cl_e100 rfl (z_in rfl (by omega) (by omega)) dX12_putBack_19 ?_
        refine tw_iast hx hb hK hT hF hS 0 (fx_89 hX) (by decide) (fun _ => cl_e99) rfl (z_in rfl (by omega) (by omega)) dX12_putBack_20 (fun H locs hT hS => ?_)
        obtain ⟨y_2, hy_2, hT⟩ : ∃ z : Nat → Nat → Int32, z = up2 y_L2 (a 89) i1.toNatClampNeg (y_L2 (a 90) i1.toNatClampNeg) ∧ tw (dC, dI) a k τ ln z g H := ⟨_, rfl, hT⟩
        have hG : ag τ [99] y y_2 := by rw [hy_2]; exact hG.up (fx_89 hX) (by decide)
        have hI := hI.ag (S := [99]) (y' := y_2) (by rw [hy_2]; exact ag.one (fx_89 hX)) (by decide)
        obtain ⟨x_3, ex_3⟩ : ∃ y : Int32, y = i1 + Int32.ofInt 1 := ⟨_, rfl⟩
        have hx_3 := z_add ex_3 rfl (zk (x := Int32.ofInt 1) 1 rfl) (by omega) (by omega)
        refine lv_iinc (v := x_3) (lv' := [(1, .int x_3), (0, .ref (a 50))]) hx hb dX12_putBack_21 hl (k := 1) rfl ex_3.symm (by decide) rfl (fun ls hl => ?_)
        refine lv_goto (tgt := 2) hx hb dX12_putBack_24 (by decide) ?_
        exact ih_2  x_3 y_2 H _ ls (by omega) hG hI (by omega) (by omega) (cpd_step hi2_2 (show y_2 = up2 y_L2 (a 89) i1.toNatClampNeg (y (a 90) i1.toNatClampNeg) from by rw [hy_2, hG0.at (fx_90 hX) (by decide)]) rfl (by omega) rfl (by omega)) hT hS (lv_sub hl [1, 0] rfl)
  have hp_4 : (0 : Int32).toInt = 0 := (zk (x := 0) 0 rfl)
  exact loop_2 _ (0 : Int32) y s.heap _ ls (Nat.lt_succ_self _) hG hI (by omega) (by omega) (cpd_0 (by omega)) hT hS (lv_sub hl [1, 0] rfl)
def wo_m_tried : List Cond := [.fieldLink RX12 139 "TypingPoolModel" "thrown" "I", .methodLink RX12 305 yX12_canGo, .instanceMethod yX12_canGo, .selects RX12 yX12_canGo yX12_canGo, .initialized RX12, .methodLink RX12 379 yX12_putAside, .instanceMethod yX12_putAside, .selects RX12 yX12_putAside yX12_putAside, .fieldLink RX12 113 "TypingPoolModel" "forced" "I", .methodLink RX12 308 yX12_go, .instanceMethod yX12_go, .selects RX12 yX12_go yX12_go, .methodLink RX12 324 yX12_lates, .instanceMethod yX12_lates, .selects RX12 yX12_lates yX12_lates, .fieldLink RX12 327 "TypingPoolModel" "rowMany" "I", .methodLink RX12 382 yX12_putBack, .instanceMethod yX12_putBack, .selects RX12 yX12_putBack yX12_putBack, .fieldLink RX12 104 "TypingPoolModel" "row" "[I", .methodLink RX12 339 yX12_waited, .instanceMethod yX12_waited, .selects RX12 yX12_waited yX12_waited, .fieldLink RX12 248 "TypingPoolModel" "rules" "I", .methodLink RX12 145 yX12_in, .static yX12_in, .fieldLink RX12 65 "TypingPoolModel" "textKind" "[I"]
def wm_m_tried : List Cond := .code yX12_tried cX12_tried 5 (some .int) :: (wo_m_tried ++ (wsX120 ++ (wm_m_canGoX ++ (wm_m_putAside ++ (wm_m_go ++ (wm_m_lates ++ (wm_m_putBack ++ (wm_m_waited ++ (wm_m_in ++ ([] : List Cond))))))))))
theorem gd_m_tried : ∀ w ∈ wm_m_tried, goodWord w = true := gd_c rfl (gd_a (by decide) (gd_a gd_wsX120 (gd_a gd_m_canGoX (gd_a gd_m_putAside (gd_a gd_m_go (gd_a gd_m_lates (gd_a gd_m_putBack (gd_a gd_m_waited (gd_a gd_m_in gd_nil)))))))))
set_option maxRecDepth 20000 in
theorem im_m_tried : ∀ w ∈ wm_m_tried, w ∈ lw_tbl := im_c (in_r [.code yX12_tried cX12_tried 5 (some .int)] [1718] (by decide +kernel)) (in_app (in_r wo_m_tried [1278, 1528, 1530, 43, 86, 1719, 1721, 67, 1281, 1532, 1534, 44, 1620, 1622, 57, 1277, 1723, 1725, 68, 1276, 1680, 1682, 61, 1265, 1420, 1421, 1263] (by decide +kernel)) (in_app im_wsX120 (in_app im_m_canGoX (in_app im_m_putAside (in_app im_m_go (in_app im_m_lates (in_app im_m_putBack (in_app im_m_waited (in_app im_m_in im_nil)))))))))
set_option maxHeartbeats 4000000 in
set_option maxRecDepth 100000 in
theorem m_tried (l : Launch) (dC : Nat → ClassId) (dI : Nat → Nat → Nat) (ad av : Nat → Nat) (sz : Nat) (a : Nat → Nat) (k : Nat → ClassId) (τ ln : Nat → Nat) (y : Nat → Nat → Int32) (g : Nat → Nat → Option Nat) (u : Nat → Int) (p0 : Int32) (p1 : Int32) (hI : IM a u τ y) (hf0 : u 10 = -1) (hW : IW (u 1) (u 2) (u 9) (y (a 89))) : Met l yX12_tried wm_m_tried ({ frames := 389, cells := 0, slots := 0, locals := 25460 }) (pw_ ad av (dC, dI) sz [.ref (a 50), .int p0, .int p1] a k τ ln y g) (va_Qi (fun (r u : Int32) => u = r) (fun (r : Int32) (t : State) => (∃ (u' : Nat → Int) (y' : Nat → Nat → Int32) (g' : Nat → Nat → Option Nat), (∀ i, i ∉ ([7, 9, 10] : List Nat) → u' i = u i) ∧ ag τ [60, 96, 99, 100, 102] y y' ∧ agg τ g g' ∧ IM a u' τ y' ∧ IW (u' 1) (u' 2) (u' 9) (y' (a 89)) ∧ u' 9 = u 9 ∧ u' 10 = u 10 ∧ tw (dC, dI) a k τ ln y' g' t.heap)) (fr τ sz)) 0 0 (fr τ sz) := by
  refine Met.ofW (cc := cX12_tried) (maxL := 5) (ret := (some .int)) (by decide) rfl ?_
  intro p e s m args below meth c s₁ B hml hv
  obtain ⟨rfl, hsz, hT, hK, hM⟩ := hv
  have hx := B.exec
  have hb := B.bytes
  have hr := B.returns
  have hts := atoms_spec (ws := wm_m_tried) B.pre
  have hown : s.vm.findClass RX12 = some m.cls := findClass_of_methodNamed B.named
  have hlocks := B.notSynchronized
  subst hsz
  generalize hAe : fr τ s.heap.size = A at hM ⊢
  have hA : ∀ q : Nat, s.heap.size ≤ q → A q := fun q h => by rw [← hAe]; exact Or.inr h
  have hF : ∀ q, τ q ≠ 0 → A q := fun q h => by rw [← hAe]; exact Or.inl h
  have hS : va_S A s.heap s.heap [] := va_S.rf
  have hX := hI.1
  have hR := im_r hI
  have hG : ag τ [60, 96, 99, 100, 102] y y := ag.rf
  have hGg : agg τ g g := agg.rf
  have hl := lv_entry ([.ref (a 50), .int p0, .int p1]) (n := 5) (Nat.le_of_ble_eq_true rfl)
  rw [lg_entry_eq]
  generalize (lg_sl ([.ref (a 50), .int p0, .int p1]) ++ List.replicate (5 - (lg_sl ([.ref (a 50), .int p0, .int p1])).length) Slot.unset).toArray = ls at hl ⊢
  have hl : lv_has ls 5 [(0, .ref (a 50)), (1, .int p0), (2, .int p1)] := hl
  have hR0 := hR
  refine lv_aload_n hx hb dX12_tried_0 rfl (lv_at hl 0 rfl) ?_
  refine lv_iconst (v := 0) hx hb dX12_tried_1 (by decide) ?_
  refine tw_put (D := (dC, dI)) (x := 0) (ty := .int) (C := RX12) (T := TX12) (N := 58) hx hb hts (fun _ hh => (List.mem_cons_of_mem _ (List.mem_append_right _ (List.mem_append_left _ hh)))) tyX12 tyX12_ok nmX12 hown hK hT hF hS (fx_50 hX) (by decide) cl_e60 rfl 37 (by decide) (hts (.fieldLink RX12 139 "TypingPoolModel" "thrown" "I") (List.mem_cons_of_mem _ (List.mem_append_left _ (List.mem_of_getElem? (i := 0) rfl)))) (fun _ h9 => h9) rfl (tyX12_ok 37 (by decide)) rfl rfl (Nat.le_of_ble_eq_true rfl) rfl dX12_tried_2 (fun H locs hT hS => ?_)
  obtain ⟨y_1, hy_1, hT⟩ : ∃ z : Nat → Nat → Int32, z = up2 y (a 50) 37 (0 : Int32) ∧ tw (dC, dI) a k τ ln z g H := ⟨_, rfl, hT⟩
  have hG : ag τ [60, 96, 99, 100, 102] y y_1 := by rw [hy_1]; exact hG.up (fx_50 hX) (by decide)
  have hW : IW (u 1) (u 2) (u 9) (y_1 (a 89)) := by rw [hy_1, up2_o (kd_ne (fx_89 hX) (fx_50 hX) (by decide))]; exact hW
  have hI := hI.put (f := 37) (x := (0 : Int32)) (by decide)
  rw [← hy_1] at hI
  refine lv_iload_n hx hb dX12_tried_5 rfl (lv_at hl 1 rfl) ?_
  refine lv_iconst (v := (-1)) hx hb dX12_tried_6 (by decide) ?_
  refine lv_icmp_eq (tgt := 34) hx hb dX12_tried_7 (by decide) (fun c_2 => ?_) (fun c_2 => ?_)
  · have nc_2 := z_eq rfl (zk (x := (-1)) (-1) rfl) c_2
    refine lv_aload_n hx hb dX12_tried_34 rfl (lv_at hl 0 rfl) ?_
    refine lv_iload_n hx hb dX12_tried_35 rfl (lv_at hl 2 rfl) ?_
    refine lv_iconst (v := 0) hx hb dX12_tried_36 (by decide) ?_
    have hFc := tw_free hF hS hA
    have hp_3 : (0 : Int32).toInt = 0 := (zk (x := 0) 0 rfl)
    refine va_calli (va_runV (As := [.int p1, .int 0]) (rest := []) ⟨hx, hb, hml, hown, hts⟩ (m_canGoX l dC dI ad av H.size a k τ ln y_1 g u p1 (0 : Int32) hI (by decide) hW) (cwV 2 hts (gi_4 (List.mem_cons_of_mem _ (List.mem_append_left _ (List.mem_of_getElem? (i := 1) rfl))) (List.mem_cons_of_mem _ (List.mem_append_left _ (List.mem_of_getElem? (i := 2) rfl))) (List.mem_cons_of_mem _ (List.mem_append_left _ (List.mem_of_getElem? (i := 3) rfl))) (List.mem_cons_of_mem _ (List.mem_append_left _ (List.mem_of_getElem? (i := 4) rfl))) (fun _ hh => (List.mem_cons_of_mem _ (List.mem_append_right _ (List.mem_append_right _ (List.mem_append_left _ hh))))) gd_m_canGoX) rfl rfl rfl (by decide +kernel) ⟨Nat.le_of_ble_eq_true rfl, Nat.le_of_ble_eq_true rfl⟩) ⟨pw_blind, tw_recv hK hT (fx_50 hX) (by decide) cl_e60 rfl, pw_use hT hK hFc hS hM⟩ rfl rfl hl.1 rfl (lv_room (Nat.le_of_ble_eq_true rfl)) dX12_tried_37 ⟨Nat.le_of_ble_eq_true rfl, Nat.le_of_ble_eq_true rfl⟩) hS (fun q _ h => hFc q h) hFc (fun r0 r_4 t H locs ht hvm hw hB hz1 hk1 hS => ?_)
    refine W.widen (k := 0) (n := 0) (Nat.le_of_ble_eq_true rfl) (Nat.le_of_ble_eq_true rfl) ?_
    clear hvm hz1 hk1
    subst hw
    rcases hB with ⟨hre, hf_5, hf_6, hf_7, hT⟩ | ⟨hre, hf_8, hT⟩
    · refine lq_top (v := 1) hre ?_
      rw [ht] at hT
      try simp only [hp_3] at hf_5 hf_6 hf_7
      clear hp_3
      refine lv_if_ne (tgt := 45) hx hb dX12_tried_40 (by decide) (fun c_9 => ?_) (fun c_9 => absurd c_9 (by decide))
      refine lv_aload_n hx hb dX12_tried_45 rfl (lv_at hl 0 rfl) ?_
      have hFc := tw_free hF hS hA
      refine va_callv (va_runV (As := []) (rest := []) ⟨hx, hb, hml, hown, hts⟩ (m_putAside l dC dI ad av H.size a k τ ln y_1 g u  hI hW) (cwV 0 hts (gi_4 (List.mem_cons_of_mem _ (List.mem_append_left _ (List.mem_of_getElem? (i := 5) rfl))) (List.mem_cons_of_mem _ (List.mem_append_left _ (List.mem_of_getElem? (i := 6) rfl))) (List.mem_cons_of_mem _ (List.mem_append_left _ (List.mem_of_getElem? (i := 7) rfl))) (List.mem_cons_of_mem _ (List.mem_append_left _ (List.mem_of_getElem? (i := 4) rfl))) (fun _ hh => (List.mem_cons_of_mem _ (List.mem_append_right _ (List.mem_append_right _ (List.mem_append_right _ (List.mem_append_left _ hh)))))) gd_m_putAside) rfl rfl rfl (by decide +kernel) ⟨Nat.le_of_ble_eq_true rfl, Nat.le_of_ble_eq_true rfl⟩) ⟨pw_blind, tw_recv hK hT (fx_50 hX) (by decide) cl_e60 rfl, pw_use hT hK hFc hS hM⟩ rfl rfl hl.1 rfl (lv_room (Nat.le_of_ble_eq_true rfl)) dX12_tried_46 ⟨Nat.le_of_ble_eq_true rfl, Nat.le_of_ble_eq_true rfl⟩) hS (fun q _ h => hFc q h) hFc (fun u0 t H locs ht hvm hw hB hz1 hk1 hS => ?_)
      refine W.widen (k := 0) (n := 0) (Nat.le_of_ble_eq_true rfl) (Nat.le_of_ble_eq_true rfl) ?_
      clear hvm hz1 hk1
      obtain ⟨y_11, hgy_11, hI, hf_12, hT⟩ := hB
      rw [ht] at hT
      have hG := hG.tr hgy_11 (by decide)
      have hW : IW (u 1) (u 2) (u 9) (y_11 (a 89)) := by rw [hgy_11.at (fx_89 hX) (by decide)]; exact hW
      have hWA := hf_12
      refine lv_aload_n hx hb dX12_tried_49 rfl (lv_at hl 0 rfl) ?_
      refine lv_iload_n hx hb dX12_tried_50 rfl (lv_at hl 1 rfl) ?_
      refine tw_put (D := (dC, dI)) (x := p0) (ty := .int) (C := RX12) (T := TX12) (N := 58) hx hb hts (fun _ hh => (List.mem_cons_of_mem _ (List.mem_append_right _ (List.mem_append_left _ hh)))) tyX12 tyX12_ok nmX12 hown hK hT hF hS (fx_50 hX) (by decide) cl_e60 rfl 40 (by decide) (hts (.fieldLink RX12 113 "TypingPoolModel" "forced" "I") (List.mem_cons_of_mem _ (List.mem_append_left _ (List.mem_of_getElem? (i := 8) rfl)))) (fun _ h9 => h9) rfl (tyX12_ok 40 (by decide)) rfl rfl (Nat.le_of_ble_eq_true rfl) rfl dX12_tried_51 (fun H locs hT hS => ?_)
      obtain ⟨y_13, hy_13, hT⟩ : ∃ z : Nat → Nat → Int32, z = up2 y_11 (a 50) 40 p0 ∧ tw (dC, dI) a k τ ln z g H := ⟨_, rfl, hT⟩
      have hG : ag τ [60, 96, 99, 100, 102] y y_13 := by rw [hy_13]; exact hG.up (fx_50 hX) (by decide)
      have hW : IW (u 1) (u 2) (u 9) (y_13 (a 89)) := by rw [hy_13, up2_o (kd_ne (fx_89 hX) (fx_50 hX) (by decide))]; exact hW
      have hWA : IW (u 1) (u 2) (u 9) (y_13 (a 90)) := by rw [hy_13, up2_o (kd_ne (fx_90 hX) (fx_50 hX) (by decide))]; exact hWA
      have hp_14 : p0.toInt = p0.toInt := rfl
      have hI := hI.set10 hp_14 (by omega) (by omega)
      rw [← hy_13] at hI
      have hW : IW ((upc u 10 p0.toInt) 1) ((upc u 10 p0.toInt) 2) ((upc u 10 p0.toInt) 9) (y_13 (a 89)) := iw_u hW (by simp [upc]) (by simp [upc]) (by simp [upc])
      refine lv_aload_n hx hb dX12_tried_54 rfl (lv_at hl 0 rfl) ?_
      refine lv_iload_n hx hb dX12_tried_55 rfl (lv_at hl 2 rfl) ?_
      have hFc := tw_free hF hS hA
      refine va_callv (va_runV (As := [.int p1]) (rest := []) ⟨hx, hb, hml, hown, hts⟩ (m_go l dC dI ad av H.size a k τ ln y_13 g (upc u 10 p0.toInt) p1 hI (by omega) (show u 9 + p1.toInt ≤ 4800 from by omega) hW) (cwV 1 hts (gi_4 (List.mem_cons_of_mem _ (List.mem_append_left _ (List.mem_of_getElem? (i := 9) rfl))) (List.mem_cons_of_mem _ (List.mem_append_left _ (List.mem_of_getElem? (i := 10) rfl))) (List.mem_cons_of_mem _ (List.mem_append_left _ (List.mem_of_getElem? (i := 11) rfl))) (List.mem_cons_of_mem _ (List.mem_append_left _ (List.mem_of_getElem? (i := 4) rfl))) (fun _ hh => (List.mem_cons_of_mem _ (List.mem_append_right _ (List.mem_append_right _ (List.mem_append_right _ (List.mem_append_right _ (List.mem_append_left _ hh))))))) gd_m_go) rfl rfl rfl (by decide +kernel) ⟨Nat.le_of_ble_eq_true rfl, Nat.le_of_ble_eq_true rfl⟩) ⟨pw_blind, tw_recv hK hT (fx_50 hX) (by decide) cl_e60 rfl, pw_use hT hK hFc hS hM⟩ rfl rfl hl.1 rfl (lv_room (Nat.le_of_ble_eq_true rfl)) dX12_tried_56 ⟨Nat.le_of_ble_eq_true rfl, Nat.le_of_ble_eq_true rfl⟩) hS (fun q _ h => hFc q h) hFc (fun u0 t H locs ht hvm hw hB hz1 hk1 hS => ?_)
      refine W.widen (k := 0) (n := 0) (Nat.le_of_ble_eq_true rfl) (Nat.le_of_ble_eq_true rfl) ?_
      clear hvm hz1 hk1
      obtain ⟨u_16, y_17, g_18, huu_16, hgy_17, hggg_18, hI, hW, hf_19, hT⟩ := hB
      rw [ht] at hT
      have hG := hG.tr hgy_17 (by decide)
      have hGg := hGg.tr hggg_18
      have hR := im_r hI
      have : u_16 0 = u 0 := (huu_16 0 (by decide)).trans (by simp [upc])
      have : u_16 1 = u 1 := (huu_16 1 (by decide)).trans (by simp [upc])
      have : u_16 2 = u 2 := (huu_16 2 (by decide)).trans (by simp [upc])
      have : u_16 3 = u 3 := (huu_16 3 (by decide)).trans (by simp [upc])
      have : u_16 4 = u 4 := (huu_16 4 (by decide)).trans (by simp [upc])
      have : u_16 5 = u 5 := (huu_16 5 (by decide)).trans (by simp [upc])
      have : u_16 6 = u 6 := (huu_16 6 (by decide)).trans (by simp [upc])
      have : u_16 7 = u 7 := (huu_16 7 (by decide)).trans (by simp [upc])
      have : u_16 8 = u 8 := (huu_16 8 (by decide)).trans (by simp [upc])
      have : u_16 10 = p0.toInt := (huu_16 10 (by decide)).trans (by simp [upc])
      have hWA : IW (u 1) (u 2) (u 9) (y_17 (a 90)) := by rw [hgy_17.at (fx_90 hX) (by decide)]; exact hWA
      refine lv_aload_n hx hb dX12_tried_59 rfl (lv_at hl 0 rfl) ?_
      refine lv_iconst (v := (-1)) hx hb dX12_tried_60 (by decide) ?_
      refine tw_put (D := (dC, dI)) (x := (-1)) (ty := .int) (C := RX12) (T := TX12) (N := 58) hx hb hts (fun _ hh => (List.mem_cons_of_mem _ (List.mem_append_right _ (List.mem_append_left _ hh)))) tyX12 tyX12_ok nmX12 hown hK hT hF hS (fx_50 hX) (by decide) cl_e60 rfl 40 (by decide) (hts (.fieldLink RX12 113 "TypingPoolModel" "forced" "I") (List.mem_cons_of_mem _ (List.mem_append_left _ (List.mem_of_getElem? (i := 8) rfl)))) (fun _ h9 => h9) rfl (tyX12_ok 40 (by decide)) rfl rfl (Nat.le_of_ble_eq_true rfl) rfl dX12_tried_61 (fun H locs hT hS => ?_)
      obtain ⟨y_20, hy_20, hT⟩ : ∃ z : Nat → Nat → Int32, z = up2 y_17 (a 50) 40 (-1 : Int32) ∧ tw (dC, dI) a k τ ln z g_18 H := ⟨_, rfl, hT⟩
      have hG : ag τ [60, 96, 99, 100, 102] y y_20 := by rw [hy_20]; exact hG.up (fx_50 hX) (by decide)
      have hW : IW (u_16 1) (u_16 2) (u_16 9) (y_20 (a 89)) := by rw [hy_20, up2_o (kd_ne (fx_89 hX) (fx_50 hX) (by decide))]; exact hW
      have hWA : IW (u 1) (u 2) (u 9) (y_20 (a 90)) := by rw [hy_20, up2_o (kd_ne (fx_90 hX) (fx_50 hX) (by decide))]; exact hWA
      have hp_21 : (-1 : Int32).toInt = (-1) := (zk (x := (-1)) (-1) rfl)
      have hI := hI.set10 hp_21 (by omega) (by omega)
      rw [← hy_20] at hI
      have hW : IW ((upc u_16 10 (-1)) 1) ((upc u_16 10 (-1)) 2) ((upc u_16 10 (-1)) 9) (y_20 (a 89)) := iw_u hW (by simp [upc]) (by simp [upc]) (by simp [upc])
      refine lv_aload_n hx hb dX12_tried_64 rfl (lv_at hl 0 rfl) ?_
      have hFc := tw_free hF hS hA
      refine va_calli (va_runV (As := []) (rest := []) ⟨hx, hb, hml, hown, hts⟩ (m_lates l dC dI ad av H.size a k τ ln y_20 g_18 (upc u_16 10 (-1))  hI hW) (cwV 0 hts (gi_4 (List.mem_cons_of_mem _ (List.mem_append_left _ (List.mem_of_getElem? (i := 12) rfl))) (List.mem_cons_of_mem _ (List.mem_append_left _ (List.mem_of_getElem? (i := 13) rfl))) (List.mem_cons_of_mem _ (List.mem_append_left _ (List.mem_of_getElem? (i := 14) rfl))) (List.mem_cons_of_mem _ (List.mem_append_left _ (List.mem_of_getElem? (i := 4) rfl))) (fun _ hh => (List.mem_cons_of_mem _ (List.mem_append_right _ (List.mem_append_right _ (List.mem_append_right _ (List.mem_append_right _ (List.mem_append_right _ (List.mem_append_left _ hh)))))))) gd_m_lates) rfl rfl rfl (by decide +kernel) ⟨Nat.le_of_ble_eq_true rfl, Nat.le_of_ble_eq_true rfl⟩) ⟨pw_blind, tw_recv hK hT (fx_50 hX) (by decide) cl_e60 rfl, pw_use hT hK hFc hS hM⟩ rfl rfl hl.1 rfl (lv_room (Nat.le_of_ble_eq_true rfl)) dX12_tried_65 ⟨Nat.le_of_ble_eq_true rfl, Nat.le_of_ble_eq_true rfl⟩) hS (fun q _ h => hFc q h) hFc (fun r0 r_22 t H locs ht hvm hw hB hz1 hk1 hS => ?_)
      refine W.widen (k := 0) (n := 0) (Nat.le_of_ble_eq_true rfl) (Nat.le_of_ble_eq_true rfl) ?_
      clear hvm hz1 hk1
      subst hw
      have hT := hB
      rw [ht] at hT
      refine lv_istore_n (lv' := [(3, .int r_22), (0, .ref (a 50)), (1, .int p0), (2, .int p1)]) hx hb dX12_tried_68 rfl hl (by decide) rfl (fun ls hl => ?_)
      refine lv_iconst (v := 0) hx hb dX12_tried_69 (by decide) ?_
      refine lv_istore (lv' := [(4, .int 0), (3, .int r_22), (0, .ref (a 50)), (1, .int p0), (2, .int p1)]) hx hb dX12_tried_70 hl (by decide) rfl (fun ls hl => ?_)
      have loop_72 : ∀ (n : Nat) (i4 : Int32) (y_L72 : Nat → Nat → Int32) (g_L72 : Nat → Nat → Option Nat) (H : Heap) (locs : List Loc) (ls : Array Slot), (8 - i4.toInt).toNat < n → ag τ [60, 96, 99, 100, 102] y y_L72 → IM a (upc u_16 10 (-1)) τ y_L72 → agg τ g g_L72 → IW ((upc u_16 10 (-1)) 1) ((upc u_16 10 (-1)) 2) ((upc u_16 10 (-1)) 9) (y_L72 (a 89)) → IW (u 1) (u 2) (u 9) (y_L72 (a 90)) → 0 ≤ i4.toInt → i4.toInt ≤ 8 → tw (dC, dI) a k τ ln y_L72 g_L72 H → va_S A s.heap H locs → lv_has ls 5 [(0, .ref (a 50)), (1, .int p0), (2, .int p1), (3, .int r_22), (4, .int i4)] → W p l e (headSpec wm_m_tried ({ frames := 389, cells := 0, slots := 0, locals := 25460 })).room s m ([.ref (a 50), .int p0, .int p1] : List Value).toArray below meth c H locs 0 0 (MQ below (va_Qi (fun (r u : Int32) => u = r) (fun (r : Int32) (t : State) => (∃ (u' : Nat → Int) (y' : Nat → Nat → Int32) (g' : Nat → Nat → Option Nat), (∀ i, i ∉ ([7, 9, 10] : List Nat) → u' i = u i) ∧ ag τ [60, 96, 99, 100, 102] y y' ∧ agg τ g g' ∧ IM a u' τ y' ∧ IW (u' 1) (u' 2) (u' 9) (y' (a 89)) ∧ u' 9 = u 9 ∧ u' 10 = u 10 ∧ tw (dC, dI) a k τ ln y' g' t.heap)) A) ([.ref (a 50), .int p0, .int p1] : List Value).toArray s 0 0 A) (F0 m 72 ls []) := by
        intro n
        induction n with
        | zero => intro i4 y_L72 g_L72 H locs ls hlt; exact absurd hlt (Nat.not_lt_zero _)
        | succ n ih_72 =>
          intro i4 y_L72 g_L72 H locs ls hlt hG hI hGg hW hWA hi72_0 hi72_1 hT hS hl
          refine lv_iload hx hb dX12_tried_72 (lv_at hl 4 rfl) ?_
          refine lv_bipush (v := 8) hx hb dX12_tried_74 (by decide) ?_
          refine lv_icmp_ge (tgt := 98) hx hb dX12_tried_76 (by decide) (fun c_23 => ?_) (fun c_23 => ?_)
          · have nc_23 := z_le (zk (x := 8) 8 rfl) rfl c_23
            refine lv_aload_n hx hb dX12_tried_98 rfl (lv_at hl 0 rfl) ?_
            refine lv_bipush (v := 8) hx hb dX12_tried_99 (by decide) ?_
            refine tw_put (D := (dC, dI)) (x := 8) (ty := .int) (C := RX12) (T := TX12) (N := 58) hx hb hts (fun _ hh => (List.mem_cons_of_mem _ (List.mem_append_right _ (List.mem_append_left _ hh)))) tyX12 tyX12_ok nmX12 hown hK hT hF hS (fx_50 hX) (by decide) cl_e60 rfl 36 (by decide) (hts (.fieldLink RX12 327 "TypingPoolModel" "rowMany" "I") (List.mem_cons_of_mem _ (List.mem_append_left _ (List.mem_of_getElem? (i := 15) rfl)))) (fun _ h9 => h9) rfl (tyX12_ok 36 (by decide)) rfl rfl (Nat.le_of_ble_eq_true rfl) rfl dX12_tried_101 (fun H locs hT hS => ?_)
            obtain ⟨y_24, hy_24, hT⟩ : ∃ z : Nat → Nat → Int32, z = up2 y_L72 (a 50) 36 (8 : Int32) ∧ tw (dC, dI) a k τ ln z g_L72 H := ⟨_, rfl, hT⟩
            have hG : ag τ [60, 96, 99, 100, 102] y y_24 := by rw [hy_24]; exact hG.up (fx_50 hX) (by decide)
            have hW : IW ((upc u_16 10 (-1)) 1) ((upc u_16 10 (-1)) 2) ((upc u_16 10 (-1)) 9) (y_24 (a 89)) := by rw [hy_24, up2_o (kd_ne (fx_89 hX) (fx_50 hX) (by decide))]; exact hW
            have hWA : IW (u 1) (u 2) (u 9) (y_24 (a 90)) := by rw [hy_24, up2_o (kd_ne (fx_90 hX) (fx_50 hX) (by decide))]; exact hWA
            have hp_25 : (8 : Int32).toInt = 8 := (zk (x := 8) 8 rfl)
            have hI := hI.set7 hp_25 (by omega) (by omega)
            rw [← hy_24] at hI
            have hW : IW ((upc (upc u_16 10 (-1)) 7 8) 1) ((upc (upc u_16 10 (-1)) 7 8) 2) ((upc (upc u_16 10 (-1)) 7 8) 9) (y_24 (a 89)) := iw_u hW (by simp [upc]) (by simp [upc]) (by simp [upc])
            refine lv_aload_n hx hb dX12_tried_104 rfl (lv_at hl 0 rfl) ?_
            have hFc := tw_free hF hS hA
            refine va_callv (va_runV (As := []) (rest := []) ⟨hx, hb, hml, hown, hts⟩ (m_putBack l dC dI ad av H.size a k τ ln y_24 g_L72 (upc (upc u_16 10 (-1)) 7 8) (u 9) hI (iw_u hWA (by first | omega | (simp [upc]; omega) | simp [upc]) (by first | omega | (simp [upc]; omega) | simp [upc]) rfl) ⟨hR0.2.2.2.2.2.2.2.2.1.1, hR0.2.2.2.2.2.2.2.2.1.2⟩) (cwV 0 hts (gi_4 (List.mem_cons_of_mem _ (List.mem_append_left _ (List.mem_of_getElem? (i := 16) rfl))) (List.mem_cons_of_mem _ (List.mem_append_left _ (List.mem_of_getElem? (i := 17) rfl))) (List.mem_cons_of_mem _ (List.mem_append_left _ (List.mem_of_getElem? (i := 18) rfl))) (List.mem_cons_of_mem _ (List.mem_append_left _ (List.mem_of_getElem? (i := 4) rfl))) (fun _ hh => (List.mem_cons_of_mem _ (List.mem_append_right _ (List.mem_append_right _ (List.mem_append_right _ (List.mem_append_right _ (List.mem_append_right _ (List.mem_append_right _ (List.mem_append_left _ hh))))))))) gd_m_putBack) rfl rfl rfl (by decide +kernel) ⟨Nat.le_of_ble_eq_true rfl, Nat.le_of_ble_eq_true rfl⟩) ⟨pw_blind, tw_recv hK hT (fx_50 hX) (by decide) cl_e60 rfl, pw_use hT hK hFc hS hM⟩ rfl rfl hl.1 rfl (lv_room (Nat.le_of_ble_eq_true rfl)) dX12_tried_105 ⟨Nat.le_of_ble_eq_true rfl, Nat.le_of_ble_eq_true rfl⟩) hS (fun q _ h => hFc q h) hFc (fun u0 t H locs ht hvm hw hB hz1 hk1 hS => ?_)
            refine W.widen (k := 0) (n := 0) (Nat.le_of_ble_eq_true rfl) (Nat.le_of_ble_eq_true rfl) ?_
            clear hvm hz1 hk1
            obtain ⟨u_27, y_28, huu_27, hgy_28, hI, hW, hf_29, hT⟩ := hB
            rw [ht] at hT
            have hG := hG.tr hgy_28 (by decide)
            have hR := im_r hI
            have : u_27 0 = u_16 0 := (huu_27 0 (by decide)).trans (by simp [upc])
            have : u_27 1 = u_16 1 := (huu_27 1 (by decide)).trans (by simp [upc])
            have : u_27 2 = u_16 2 := (huu_27 2 (by decide)).trans (by simp [upc])
            have : u_27 3 = u_16 3 := (huu_27 3 (by decide)).trans (by simp [upc])
            have : u_27 4 = u_16 4 := (huu_27 4 (by decide)).trans (by simp [upc])
            have : u_27 5 = u_16 5 := (huu_27 5 (by decide)).trans (by simp [upc])
            have : u_27 6 = u_16 6 := (huu_27 6 (by decide)).trans (by simp [upc])
            have : u_27 7 = 8 := (huu_27 7 (by decide)).trans (by simp [upc])
            have : u_27 8 = u_16 8 := (huu_27 8 (by decide)).trans (by simp [upc])
            have : u_27 10 = (-1) := (huu_27 10 (by decide)).trans (by simp [upc])
            have hWA : IW (u 1) (u 2) (u 9) (y_28 (a 90)) := by rw [hgy_28.at (fx_90 hX) (by decide)]; exact hWA
            refine lv_iload_n hx hb dX12_tried_108 rfl (lv_at hl 3 rfl) ?_
            have hrv : r_22.toInt = r_22.toInt := rfl
            exact W.iret (v := r_22) hx hb hr (fun t ht hW9 => ⟨⟨r_22, r_22, rfl, rfl, ⟨u_27, y_28, g_L72, (by intro i hi; simp only [List.mem_cons, List.not_mem_nil, or_false, not_or] at hi; rw [huu_27 i (by simp <;> omega)]; rw [upc_o (by omega)]; rw [upc_o (by omega)]; rw [huu_16 i (by simp <;> omega)]; rw [upc_o (by omega)]), hG, hGg, hI, hW, by omega, (by have h9 := huu_27 10 (by decide); simp [upc] at h9; omega), tw_at ht hT⟩⟩, hS.F ht⟩) hS.2.2 dX12_tried_109
          · have nc_23 := z_nle (zk (x := 8) 8 rfl) rfl c_23
            refine lv_aload_n hx hb dX12_tried_79 rfl (lv_at hl 0 rfl) ?_
            refine tw_get (D := (dC, dI)) (v := .ref (a 86)) (C := RX12) (T := TX12) (N := 58) hx hb hts (fun _ hh => (List.mem_cons_of_mem _ (List.mem_append_right _ (List.mem_append_left _ hh)))) hown hK hT (fx_50 hX) (by decide) cl_e60 rfl 35 (by decide) (hts (.fieldLink RX12 104 "TypingPoolModel" "row" "[I") (List.mem_cons_of_mem _ (List.mem_append_left _ (List.mem_of_getElem? (i := 19) rfl)))) (fun _ h9 => h9) rfl dX12_tried_80 ?_
            refine lv_iload hx hb dX12_tried_83 (lv_at hl 4 rfl) ?_
            refine lv_aload_n hx hb dX12_tried_85 rfl (lv_at hl 0 rfl) ?_
            refine lv_iload hx hb dX12_tried_86 (lv_at hl 4 rfl) ?_
            have hFc := tw_free hF hS hA
            refine va_calli (va_runV (As := [.int i4]) (rest := [.int i4, .ref (a 86)]) ⟨hx, hb, hml, hown, hts⟩ (m_waited l dC dI ad av H.size a k τ ln y_L72 g_L72 (upc u_16 10 (-1)) i4 hI hW) (cwV 1 hts (gi_4 (List.mem_cons_of_mem _ (List.mem_append_left _ (List.mem_of_getElem? (i := 20) rfl))) (List.mem_cons_of_mem _ (List.mem_append_left _ (List.mem_of_getElem? (i := 21) rfl))) (List.mem_cons_of_mem _ (List.mem_append_left _ (List.mem_of_getElem? (i := 22) rfl))) (List.mem_cons_of_mem _ (List.mem_append_left _ (List.mem_of_getElem? (i := 4) rfl))) (fun _ hh => (List.mem_cons_of_mem _ (List.mem_append_right _ (List.mem_append_right _ (List.mem_append_right _ (List.mem_append_right _ (List.mem_append_right _ (List.mem_append_right _ (List.mem_append_right _ (List.mem_append_left _ hh)))))))))) gd_m_waited) rfl rfl rfl (by decide +kernel) ⟨Nat.le_of_ble_eq_true rfl, Nat.le_of_ble_eq_true rfl⟩) ⟨pw_blind, tw_recv hK hT (fx_50 hX) (by decide) cl_e60 rfl, pw_use hT hK hFc hS hM⟩ rfl rfl hl.1 rfl (lv_room (Nat.le_of_ble_eq_true rfl)) dX12_tried_88 ⟨Nat.le_of_ble_eq_true rfl, Nat.le_of_ble_eq_true rfl⟩) hS (fun q _ h => hFc q h) hFc (fun r0 r_30 t H locs ht hvm hw hB hz1 hk1 hS => ?_)
            refine W.widen (k := 0) (n := 0) (Nat.le_of_ble_eq_true rfl) (Nat.le_of_ble_eq_true rfl) ?_
            clear hvm hz1 hk1
            subst hw
            have hT := hB
            rw [ht] at hT
            refine tw_iast hx hb hK hT hF hS 0 (fx_86 hX) (by decide) (fun _ => cl_e96) rfl (z_in rfl (by omega) (by omega)) dX12_tried_91 (fun H locs hT hS => ?_)
            obtain ⟨y_31, hy_31, hT⟩ : ∃ z : Nat → Nat → Int32, z = up2 y_L72 (a 86) i4.toNatClampNeg r_30 ∧ tw (dC, dI) a k τ ln z g_L72 H := ⟨_, rfl, hT⟩
            have hG : ag τ [60, 96, 99, 100, 102] y y_31 := by rw [hy_31]; exact hG.up (fx_86 hX) (by decide)
            have hW : IW ((upc u_16 10 (-1)) 1) ((upc u_16 10 (-1)) 2) ((upc u_16 10 (-1)) 9) (y_31 (a 89)) := by rw [hy_31, up2_o (kd_ne (fx_89 hX) (fx_86 hX) (by decide))]; exact hW
            have hWA : IW (u 1) (u 2) (u 9) (y_31 (a 90)) := by rw [hy_31, up2_o (kd_ne (fx_90 hX) (fx_86 hX) (by decide))]; exact hWA
            have hI := hI.ag (S := [96]) (y' := y_31) (by rw [hy_31]; exact ag.one (fx_86 hX)) (by decide)
            obtain ⟨x_32, ex_32⟩ : ∃ y : Int32, y = i4 + Int32.ofInt 1 := ⟨_, rfl⟩
            have hx_32 := z_add ex_32 rfl (zk (x := Int32.ofInt 1) 1 rfl) (by omega) (by omega)
            refine lv_iinc (v := x_32) (lv' := [(4, .int x_32), (0, .ref (a 50)), (1, .int p0), (2, .int p1), (3, .int r_22)]) hx hb dX12_tried_92 hl (k := 4) rfl ex_32.symm (by decide) rfl (fun ls hl => ?_)
            refine lv_goto (tgt := 72) hx hb dX12_tried_95 (by decide) ?_
            exact ih_72  x_32 y_31 g_L72 H _ ls (by omega) hG hI hGg hW hWA (by omega) (by omega) hT hS (lv_sub hl [1, 2, 3, 4, 0] rfl)
      have hp_33 : (0 : Int32).toInt = 0 := (zk (x := 0) 0 rfl)
      exact loop_72 _ (0 : Int32) y_20 g_18 H _ ls (Nat.lt_succ_self _) hG hI hGg hW hWA (by omega) (by omega) hT hS (lv_sub hl [2, 3, 4, 1, 0] rfl)
    · refine lq_top (v := 0) hre ?_
      rw [ht] at hT
      try simp only [hp_3] at hf_8
      clear hp_3
      refine lv_if_ne (tgt := 45) hx hb dX12_tried_40 (by decide) (fun c_34 => absurd c_34 (by decide)) (fun c_34 => ?_)
      refine lv_iconst (v := (-1)) hx hb dX12_tried_43 (by decide) ?_
      have hrv : (-1 : Int32).toInt = (-1) := (zk (x := (-1)) (-1) rfl)
      exact W.iret (v := (-1)) hx hb hr (fun t ht hW9 => ⟨⟨(-1), (-1), rfl, rfl, ⟨u, y_1, g, (fun _ _ => rfl), hG, hGg, hI, hW, rfl, rfl, tw_at ht hT⟩⟩, hS.F ht⟩) hS.2.2 dX12_tried_44
  · have nc_2 := z_ne rfl (zk (x := (-1)) (-1) rfl) c_2
    refine lv_iload_n hx hb dX12_tried_10 rfl (lv_at hl 1 rfl) ?_
    refine lv_iconst (v := 0) hx hb dX12_tried_11 (by decide) ?_
    refine lv_aload_n hx hb dX12_tried_12 rfl (lv_at hl 0 rfl) ?_
    refine tw_get (D := (dC, dI)) (v := .int (y_1 (a 50) 24)) (C := RX12) (T := TX12) (N := 58) hx hb hts (fun _ hh => (List.mem_cons_of_mem _ (List.mem_append_right _ (List.mem_append_left _ hh)))) hown hK hT (fx_50 hX) (by decide) cl_e60 rfl 24 (by decide) (hts (.fieldLink RX12 248 "TypingPoolModel" "rules" "I") (List.mem_cons_of_mem _ (List.mem_append_left _ (List.mem_of_getElem? (i := 23) rfl)))) (fun _ h9 => h9) rfl dX12_tried_13 ?_
    have hc_35 := im_4 hI
    refine lv_iconst (v := 1) hx hb dX12_tried_16 (by decide) ?_
    refine lv_isub hx hb dX12_tried_17 ?_
    refine lv_topi (fun x_36 ex_36 => ?_)
    have hx_36 := z_sub ex_36 hc_35 (zk (x := 1) 1 rfl) (by omega) (by omega)
    have hFc := tw_free hF hS hA
    have hp_37 : (0 : Int32).toInt = 0 := (zk (x := 0) 0 rfl)
    refine va_calli (va_runS (As := [.int p0, .int 0, .int x_36]) (rest := []) ⟨hx, hb, hml, hown, hts⟩ (m_in l dC dI ad av H.size a k τ ln y_1 g u p0 (0 : Int32) x_36  ) (va_cwS 3 hts (gi_3 (List.mem_cons_of_mem _ (List.mem_append_left _ (List.mem_of_getElem? (i := 24) rfl))) (List.mem_cons_of_mem _ (List.mem_append_left _ (List.mem_of_getElem? (i := 25) rfl))) (List.mem_cons_of_mem _ (List.mem_append_left _ (List.mem_of_getElem? (i := 4) rfl))) (fun _ hh => (List.mem_cons_of_mem _ (List.mem_append_right _ (List.mem_append_right _ (List.mem_append_right _ (List.mem_append_right _ (List.mem_append_right _ (List.mem_append_right _ (List.mem_append_right _ (List.mem_append_right _ (List.mem_append_left _ hh))))))))))) gd_m_in) rfl rfl rfl (by decide +kernel) ⟨Nat.le_of_ble_eq_true rfl, Nat.le_of_ble_eq_true rfl⟩) ⟨pw_blind, pw_use hT hK hFc hS hM⟩ rfl rfl hl.1 rfl (lv_room (Nat.le_of_ble_eq_true rfl)) dX12_tried_18 ⟨Nat.le_of_ble_eq_true rfl, Nat.le_of_ble_eq_true rfl⟩) hS (fun q _ h => hFc q h) hFc (fun r0 r_38 t H locs ht hvm hw hB hz1 hk1 hS => ?_)
    refine W.widen (k := 0) (n := 0) (Nat.le_of_ble_eq_true rfl) (Nat.le_of_ble_eq_true rfl) ?_
    clear hvm hz1 hk1
    subst hw
    rcases hB with ⟨hre, hf_39, hf_40, hT⟩ | ⟨hre, hf_41, hT⟩
    · refine lq_top (v := 1) hre ?_
      rw [ht] at hT
      try simp only [hp_37] at hf_39 hf_40
      clear hp_37
      refine lv_if_eq (tgt := 43) hx hb dX12_tried_21 (by decide) (fun c_42 => absurd c_42 (by decide)) (fun c_42 => ?_)
      refine lv_aload_n hx hb dX12_tried_24 rfl (lv_at hl 0 rfl) ?_
      refine tw_get (D := (dC, dI)) (v := .ref (a 73)) (C := RX12) (T := TX12) (N := 58) hx hb hts (fun _ hh => (List.mem_cons_of_mem _ (List.mem_append_right _ (List.mem_append_left _ hh)))) hown hK hT (fx_50 hX) (by decide) cl_e60 rfl 22 (by decide) (hts (.fieldLink RX12 65 "TypingPoolModel" "textKind" "[I") (List.mem_cons_of_mem _ (List.mem_append_left _ (List.mem_of_getElem? (i := 26) rfl)))) (fun _ h9 => h9) rfl dX12_tried_25 ?_
      refine lv_iload_n hx hb dX12_tried_28 rfl (lv_at hl 1 rfl) ?_
      refine tw_iald hx hb hK hT 0 (fx_73 hX) (by decide) cl_e83 rfl (z_in rfl (by omega) (by omega)) dX12_tried_29 ?_
      refine lv_iconst (v := 1) hx hb dX12_tried_30 (by decide) ?_
      refine lv_icmp_gt (tgt := 43) hx hb dX12_tried_31 (by decide) (fun c_43 => ?_) (fun c_43 => ?_)
      · have nc_43 := z_lt (zk (x := 1) 1 rfl) rfl c_43
        refine lv_iconst (v := (-1)) hx hb dX12_tried_43 (by decide) ?_
        have hrv : (-1 : Int32).toInt = (-1) := (zk (x := (-1)) (-1) rfl)
        exact W.iret (v := (-1)) hx hb hr (fun t ht hW9 => ⟨⟨(-1), (-1), rfl, rfl, ⟨u, y_1, g, (fun _ _ => rfl), hG, hGg, hI, hW, rfl, rfl, tw_at ht hT⟩⟩, hS.F ht⟩) hS.2.2 dX12_tried_44
      · have nc_43 := z_nlt (zk (x := 1) 1 rfl) rfl c_43
        refine lv_aload_n hx hb dX12_tried_34 rfl (lv_at hl 0 rfl) ?_
        refine lv_iload_n hx hb dX12_tried_35 rfl (lv_at hl 2 rfl) ?_
        refine lv_iconst (v := 0) hx hb dX12_tried_36 (by decide) ?_
        have hFc := tw_free hF hS hA
        have hp_44 : (0 : Int32).toInt = 0 := (zk (x := 0) 0 rfl)
        refine va_calli (va_runV (As := [.int p1, .int 0]) (rest := []) ⟨hx, hb, hml, hown, hts⟩ (m_canGoX l dC dI ad av H.size a k τ ln y_1 g u p1 (0 : Int32) hI (by decide) hW) (cwV 2 hts (gi_4 (List.mem_cons_of_mem _ (List.mem_append_left _ (List.mem_of_getElem? (i := 1) rfl))) (List.mem_cons_of_mem _ (List.mem_append_left _ (List.mem_of_getElem? (i := 2) rfl))) (List.mem_cons_of_mem _ (List.mem_append_left _ (List.mem_of_getElem? (i := 3) rfl))) (List.mem_cons_of_mem _ (List.mem_append_left _ (List.mem_of_getElem? (i := 4) rfl))) (fun _ hh => (List.mem_cons_of_mem _ (List.mem_append_right _ (List.mem_append_right _ (List.mem_append_left _ hh))))) gd_m_canGoX) rfl rfl rfl (by decide +kernel) ⟨Nat.le_of_ble_eq_true rfl, Nat.le_of_ble_eq_true rfl⟩) ⟨pw_blind, tw_recv hK hT (fx_50 hX) (by decide) cl_e60 rfl, pw_use hT hK hFc hS hM⟩ rfl rfl hl.1 rfl (lv_room (Nat.le_of_ble_eq_true rfl)) dX12_tried_37 ⟨Nat.le_of_ble_eq_true rfl, Nat.le_of_ble_eq_true rfl⟩) hS (fun q _ h => hFc q h) hFc (fun r0 r_45 t H locs ht hvm hw hB hz1 hk1 hS => ?_)
        refine W.widen (k := 0) (n := 0) (Nat.le_of_ble_eq_true rfl) (Nat.le_of_ble_eq_true rfl) ?_
        clear hvm hz1 hk1
        subst hw
        rcases hB with ⟨hre, hf_46, hf_47, hf_48, hT⟩ | ⟨hre, hf_49, hT⟩
        · refine lq_top (v := 1) hre ?_
          rw [ht] at hT
          try simp only [hp_44] at hf_46 hf_47 hf_48
          clear hp_44
          refine lv_if_ne (tgt := 45) hx hb dX12_tried_40 (by decide) (fun c_50 => ?_) (fun c_50 => absurd c_50 (by decide))
          refine lv_aload_n hx hb dX12_tried_45 rfl (lv_at hl 0 rfl) ?_
          have hFc := tw_free hF hS hA
          refine va_callv (va_runV (As := []) (rest := []) ⟨hx, hb, hml, hown, hts⟩ (m_putAside l dC dI ad av H.size a k τ ln y_1 g u  hI hW) (cwV 0 hts (gi_4 (List.mem_cons_of_mem _ (List.mem_append_left _ (List.mem_of_getElem? (i := 5) rfl))) (List.mem_cons_of_mem _ (List.mem_append_left _ (List.mem_of_getElem? (i := 6) rfl))) (List.mem_cons_of_mem _ (List.mem_append_left _ (List.mem_of_getElem? (i := 7) rfl))) (List.mem_cons_of_mem _ (List.mem_append_left _ (List.mem_of_getElem? (i := 4) rfl))) (fun _ hh => (List.mem_cons_of_mem _ (List.mem_append_right _ (List.mem_append_right _ (List.mem_append_right _ (List.mem_append_left _ hh)))))) gd_m_putAside) rfl rfl rfl (by decide +kernel) ⟨Nat.le_of_ble_eq_true rfl, Nat.le_of_ble_eq_true rfl⟩) ⟨pw_blind, tw_recv hK hT (fx_50 hX) (by decide) cl_e60 rfl, pw_use hT hK hFc hS hM⟩ rfl rfl hl.1 rfl (lv_room (Nat.le_of_ble_eq_true rfl)) dX12_tried_46 ⟨Nat.le_of_ble_eq_true rfl, Nat.le_of_ble_eq_true rfl⟩) hS (fun q _ h => hFc q h) hFc (fun u0 t H locs ht hvm hw hB hz1 hk1 hS => ?_)
          refine W.widen (k := 0) (n := 0) (Nat.le_of_ble_eq_true rfl) (Nat.le_of_ble_eq_true rfl) ?_
          clear hvm hz1 hk1
          obtain ⟨y_52, hgy_52, hI, hf_53, hT⟩ := hB
          rw [ht] at hT
          have hG := hG.tr hgy_52 (by decide)
          have hW : IW (u 1) (u 2) (u 9) (y_52 (a 89)) := by rw [hgy_52.at (fx_89 hX) (by decide)]; exact hW
          have hWA := hf_53
          clear hc_35
          refine lv_aload_n hx hb dX12_tried_49 rfl (lv_at hl 0 rfl) ?_
          refine lv_iload_n hx hb dX12_tried_50 rfl (lv_at hl 1 rfl) ?_
          refine tw_put (D := (dC, dI)) (x := p0) (ty := .int) (C := RX12) (T := TX12) (N := 58) hx hb hts (fun _ hh => (List.mem_cons_of_mem _ (List.mem_append_right _ (List.mem_append_left _ hh)))) tyX12 tyX12_ok nmX12 hown hK hT hF hS (fx_50 hX) (by decide) cl_e60 rfl 40 (by decide) (hts (.fieldLink RX12 113 "TypingPoolModel" "forced" "I") (List.mem_cons_of_mem _ (List.mem_append_left _ (List.mem_of_getElem? (i := 8) rfl)))) (fun _ h9 => h9) rfl (tyX12_ok 40 (by decide)) rfl rfl (Nat.le_of_ble_eq_true rfl) rfl dX12_tried_51 (fun H locs hT hS => ?_)
          obtain ⟨y_54, hy_54, hT⟩ : ∃ z : Nat → Nat → Int32, z = up2 y_52 (a 50) 40 p0 ∧ tw (dC, dI) a k τ ln z g H := ⟨_, rfl, hT⟩
          have hG : ag τ [60, 96, 99, 100, 102] y y_54 := by rw [hy_54]; exact hG.up (fx_50 hX) (by decide)
          have hW : IW (u 1) (u 2) (u 9) (y_54 (a 89)) := by rw [hy_54, up2_o (kd_ne (fx_89 hX) (fx_50 hX) (by decide))]; exact hW
          have hWA : IW (u 1) (u 2) (u 9) (y_54 (a 90)) := by rw [hy_54, up2_o (kd_ne (fx_90 hX) (fx_50 hX) (by decide))]; exact hWA
          have hp_55 : p0.toInt = p0.toInt := rfl
          have hI := hI.set10 hp_55 (by omega) (by omega)
          rw [← hy_54] at hI
          have hW : IW ((upc u 10 p0.toInt) 1) ((upc u 10 p0.toInt) 2) ((upc u 10 p0.toInt) 9) (y_54 (a 89)) := iw_u hW (by simp [upc]) (by simp [upc]) (by simp [upc])
          refine lv_aload_n hx hb dX12_tried_54 rfl (lv_at hl 0 rfl) ?_
          refine lv_iload_n hx hb dX12_tried_55 rfl (lv_at hl 2 rfl) ?_
          have hFc := tw_free hF hS hA
          refine va_callv (va_runV (As := [.int p1]) (rest := []) ⟨hx, hb, hml, hown, hts⟩ (m_go l dC dI ad av H.size a k τ ln y_54 g (upc u 10 p0.toInt) p1 hI (by omega) (show u 9 + p1.toInt ≤ 4800 from by omega) hW) (cwV 1 hts (gi_4 (List.mem_cons_of_mem _ (List.mem_append_left _ (List.mem_of_getElem? (i := 9) rfl))) (List.mem_cons_of_mem _ (List.mem_append_left _ (List.mem_of_getElem? (i := 10) rfl))) (List.mem_cons_of_mem _ (List.mem_append_left _ (List.mem_of_getElem? (i := 11) rfl))) (List.mem_cons_of_mem _ (List.mem_append_left _ (List.mem_of_getElem? (i := 4) rfl))) (fun _ hh => (List.mem_cons_of_mem _ (List.mem_append_right _ (List.mem_append_right _ (List.mem_append_right _ (List.mem_append_right _ (List.mem_append_left _ hh))))))) gd_m_go) rfl rfl rfl (by decide +kernel) ⟨Nat.le_of_ble_eq_true rfl, Nat.le_of_ble_eq_true rfl⟩) ⟨pw_blind, tw_recv hK hT (fx_50 hX) (by decide) cl_e60 rfl, pw_use hT hK hFc hS hM⟩ rfl rfl hl.1 rfl (lv_room (Nat.le_of_ble_eq_true rfl)) dX12_tried_56 ⟨Nat.le_of_ble_eq_true rfl, Nat.le_of_ble_eq_true rfl⟩) hS (fun q _ h => hFc q h) hFc (fun u0 t H locs ht hvm hw hB hz1 hk1 hS => ?_)
          refine W.widen (k := 0) (n := 0) (Nat.le_of_ble_eq_true rfl) (Nat.le_of_ble_eq_true rfl) ?_
          clear hvm hz1 hk1
          obtain ⟨u_57, y_58, g_59, huu_57, hgy_58, hggg_59, hI, hW, hf_60, hT⟩ := hB
          rw [ht] at hT
          have hG := hG.tr hgy_58 (by decide)
          have hGg := hGg.tr hggg_59
          have hR := im_r hI
          have : u_57 0 = u 0 := (huu_57 0 (by decide)).trans (by simp [upc])
          have : u_57 1 = u 1 := (huu_57 1 (by decide)).trans (by simp [upc])
          have : u_57 2 = u 2 := (huu_57 2 (by decide)).trans (by simp [upc])
          have : u_57 3 = u 3 := (huu_57 3 (by decide)).trans (by simp [upc])
          have : u_57 4 = u 4 := (huu_57 4 (by decide)).trans (by simp [upc])
          have : u_57 5 = u 5 := (huu_57 5 (by decide)).trans (by simp [upc])
          have : u_57 6 = u 6 := (huu_57 6 (by decide)).trans (by simp [upc])
          have : u_57 7 = u 7 := (huu_57 7 (by decide)).trans (by simp [upc])
          have : u_57 8 = u 8 := (huu_57 8 (by decide)).trans (by simp [upc])
          have : u_57 10 = p0.toInt := (huu_57 10 (by decide)).trans (by simp [upc])
          have hWA : IW (u 1) (u 2) (u 9) (y_58 (a 90)) := by rw [hgy_58.at (fx_90 hX) (by decide)]; exact hWA
          refine lv_aload_n hx hb dX12_tried_59 rfl (lv_at hl 0 rfl) ?_
          refine lv_iconst (v := (-1)) hx hb dX12_tried_60 (by decide) ?_
          refine tw_put (D := (dC, dI)) (x := (-1)) (ty := .int) (C := RX12) (T := TX12) (N := 58) hx hb hts (fun _ hh => (List.mem_cons_of_mem _ (List.mem_append_right _ (List.mem_append_left _ hh)))) tyX12 tyX12_ok nmX12 hown hK hT hF hS (fx_50 hX) (by decide) cl_e60 rfl 40 (by decide) (hts (.fieldLink RX12 113 "TypingPoolModel" "forced" "I") (List.mem_cons_of_mem _ (List.mem_append_left _ (List.mem_of_getElem? (i := 8) rfl)))) (fun _ h9 => h9) rfl (tyX12_ok 40 (by decide)) rfl rfl (Nat.le_of_ble_eq_true rfl) rfl dX12_tried_61 (fun H locs hT hS => ?_)
          obtain ⟨y_61, hy_61, hT⟩ : ∃ z : Nat → Nat → Int32, z = up2 y_58 (a 50) 40 (-1 : Int32) ∧ tw (dC, dI) a k τ ln z g_59 H := ⟨_, rfl, hT⟩
          have hG : ag τ [60, 96, 99, 100, 102] y y_61 := by rw [hy_61]; exact hG.up (fx_50 hX) (by decide)
          have hW : IW (u_57 1) (u_57 2) (u_57 9) (y_61 (a 89)) := by rw [hy_61, up2_o (kd_ne (fx_89 hX) (fx_50 hX) (by decide))]; exact hW
          have hWA : IW (u 1) (u 2) (u 9) (y_61 (a 90)) := by rw [hy_61, up2_o (kd_ne (fx_90 hX) (fx_50 hX) (by decide))]; exact hWA
          have hp_62 : (-1 : Int32).toInt = (-1) := (zk (x := (-1)) (-1) rfl)
          have hI := hI.set10 hp_62 (by omega) (by omega)
          rw [← hy_61] at hI
          have hW : IW ((upc u_57 10 (-1)) 1) ((upc u_57 10 (-1)) 2) ((upc u_57 10 (-1)) 9) (y_61 (a 89)) := iw_u hW (by simp [upc]) (by simp [upc]) (by simp [upc])
          refine lv_aload_n hx hb dX12_tried_64 rfl (lv_at hl 0 rfl) ?_
          have hFc := tw_free hF hS hA
          refine va_calli (va_runV (As := []) (rest := []) ⟨hx, hb, hml, hown, hts⟩ (m_lates l dC dI ad av H.size a k τ ln y_61 g_59 (upc u_57 10 (-1))  hI hW) (cwV 0 hts (gi_4 (List.mem_cons_of_mem _ (List.mem_append_left _ (List.mem_of_getElem? (i := 12) rfl))) (List.mem_cons_of_mem _ (List.mem_append_left _ (List.mem_of_getElem? (i := 13) rfl))) (List.mem_cons_of_mem _ (List.mem_append_left _ (List.mem_of_getElem? (i := 14) rfl))) (List.mem_cons_of_mem _ (List.mem_append_left _ (List.mem_of_getElem? (i := 4) rfl))) (fun _ hh => (List.mem_cons_of_mem _ (List.mem_append_right _ (List.mem_append_right _ (List.mem_append_right _ (List.mem_append_right _ (List.mem_append_right _ (List.mem_append_left _ hh)))))))) gd_m_lates) rfl rfl rfl (by decide +kernel) ⟨Nat.le_of_ble_eq_true rfl, Nat.le_of_ble_eq_true rfl⟩) ⟨pw_blind, tw_recv hK hT (fx_50 hX) (by decide) cl_e60 rfl, pw_use hT hK hFc hS hM⟩ rfl rfl hl.1 rfl (lv_room (Nat.le_of_ble_eq_true rfl)) dX12_tried_65 ⟨Nat.le_of_ble_eq_true rfl, Nat.le_of_ble_eq_true rfl⟩) hS (fun q _ h => hFc q h) hFc (fun r0 r_63 t H locs ht hvm hw hB hz1 hk1 hS => ?_)
          refine W.widen (k := 0) (n := 0) (Nat.le_of_ble_eq_true rfl) (Nat.le_of_ble_eq_true rfl) ?_
          clear hvm hz1 hk1
          subst hw
          have hT := hB
          rw [ht] at hT
          refine lv_istore_n (lv' := [(3, .int r_63), (0, .ref (a 50)), (1, .int p0), (2, .int p1)]) hx hb dX12_tried_68 rfl hl (by decide) rfl (fun ls hl => ?_)
          refine lv_iconst (v := 0) hx hb dX12_tried_69 (by decide) ?_
          refine lv_istore (lv' := [(4, .int 0), (3, .int r_63), (0, .ref (a 50)), (1, .int p0), (2, .int p1)]) hx hb dX12_tried_70 hl (by decide) rfl (fun ls hl => ?_)
          have loop_72 : ∀ (n : Nat) (i4 : Int32) (y_L72 : Nat → Nat → Int32) (g_L72 : Nat → Nat → Option Nat) (H : Heap) (locs : List Loc) (ls : Array Slot), (8 - i4.toInt).toNat < n → ag τ [60, 96, 99, 100, 102] y y_L72 → IM a (upc u_57 10 (-1)) τ y_L72 → agg τ g g_L72 → IW ((upc u_57 10 (-1)) 1) ((upc u_57 10 (-1)) 2) ((upc u_57 10 (-1)) 9) (y_L72 (a 89)) → IW (u 1) (u 2) (u 9) (y_L72 (a 90)) → 0 ≤ i4.toInt → i4.toInt ≤ 8 → tw (dC, dI) a k τ ln y_L72 g_L72 H → va_S A s.heap H locs → lv_has ls 5 [(0, .ref (a 50)), (1, .int p0), (2, .int p1), (3, .int r_63), (4, .int i4)] → W p l e (headSpec wm_m_tried ({ frames := 389, cells := 0, slots := 0, locals := 25460 })).room s m ([.ref (a 50), .int p0, .int p1] : List Value).toArray below meth c H locs 0 0 (MQ below (va_Qi (fun (r u : Int32) => u = r) (fun (r : Int32) (t : State) => (∃ (u' : Nat → Int) (y' : Nat → Nat → Int32) (g' : Nat → Nat → Option Nat), (∀ i, i ∉ ([7, 9, 10] : List Nat) → u' i = u i) ∧ ag τ [60, 96, 99, 100, 102] y y' ∧ agg τ g g' ∧ IM a u' τ y' ∧ IW (u' 1) (u' 2) (u' 9) (y' (a 89)) ∧ u' 9 = u 9 ∧ u' 10 = u 10 ∧ tw (dC, dI) a k τ ln y' g' t.heap)) A) ([.ref (a 50), .int p0, .int p1] : List Value).toArray s 0 0 A) (F0 m 72 ls []) := by
            intro n
            induction n with
            | zero => intro i4 y_L72 g_L72 H locs ls hlt; exact absurd hlt (Nat.not_lt_zero _)
            | succ n ih_72 =>
              intro i4 y_L72 g_L72 H locs ls hlt hG hI hGg hW hWA hi72_0 hi72_1 hT hS hl
              refine lv_iload hx hb dX12_tried_72 (lv_at hl 4 rfl) ?_
              refine lv_bipush (v := 8) hx hb dX12_tried_74 (by decide) ?_
              refine lv_icmp_ge (tgt := 98) hx hb dX12_tried_76 (by decide) (fun c_64 => ?_) (fun c_64 => ?_)
              · have nc_64 := z_le (zk (x := 8) 8 rfl) rfl c_64
                refine lv_aload_n hx hb dX12_tried_98 rfl (lv_at hl 0 rfl) ?_
                refine lv_bipush (v := 8) hx hb dX12_tried_99 (by decide) ?_
                refine tw_put (D := (dC, dI)) (x := 8) (ty := .int) (C := RX12) (T := TX12) (N := 58) hx hb hts (fun _ hh => (List.mem_cons_of_mem _ (List.mem_append_right _ (List.mem_append_left _ hh)))) tyX12 tyX12_ok nmX12 hown hK hT hF hS (fx_50 hX) (by decide) cl_e60 rfl 36 (by decide) (hts (.fieldLink RX12 327 "TypingPoolModel" "rowMany" "I") (List.mem_cons_of_mem _ (List.mem_append_left _ (List.mem_of_getElem? (i := 15) rfl)))) (fun _ h9 => h9) rfl (tyX12_ok 36 (by decide)) rfl rfl (Nat.le_of_ble_eq_true rfl) rfl dX12_tried_101 (fun H locs hT hS => ?_)
                obtain ⟨y_65, hy_65, hT⟩ : ∃ z : Nat → Nat → Int32, z = up2 y_L72 (a 50) 36 (8 : Int32) ∧ tw (dC, dI) a k τ ln z g_L72 H := ⟨_, rfl, hT⟩
                have hG : ag τ [60, 96, 99, 100, 102] y y_65 := by rw [hy_65]; exact hG.up (fx_50 hX) (by decide)
                have hW : IW ((upc u_57 10 (-1)) 1) ((upc u_57 10 (-1)) 2) ((upc u_57 10 (-1)) 9) (y_65 (a 89)) := by rw [hy_65, up2_o (kd_ne (fx_89 hX) (fx_50 hX) (by decide))]; exact hW
                have hWA : IW (u 1) (u 2) (u 9) (y_65 (a 90)) := by rw [hy_65, up2_o (kd_ne (fx_90 hX) (fx_50 hX) (by decide))]; exact hWA
                have hp_66 : (8 : Int32).toInt = 8 := (zk (x := 8) 8 rfl)
                have hI := hI.set7 hp_66 (by omega) (by omega)
                rw [← hy_65] at hI
                have hW : IW ((upc (upc u_57 10 (-1)) 7 8) 1) ((upc (upc u_57 10 (-1)) 7 8) 2) ((upc (upc u_57 10 (-1)) 7 8) 9) (y_65 (a 89)) := iw_u hW (by simp [upc]) (by simp [upc]) (by simp [upc])
                refine lv_aload_n hx hb dX12_tried_104 rfl (lv_at hl 0 rfl) ?_
                have hFc := tw_free hF hS hA
                refine va_callv (va_runV (As := []) (rest := []) ⟨hx, hb, hml, hown, hts⟩ (m_putBack l dC dI ad av H.size a k τ ln y_65 g_L72 (upc (upc u_57 10 (-1)) 7 8) (u 9) hI (iw_u hWA (by first | omega | (simp [upc]; omega) | simp [upc]) (by first | omega | (simp [upc]; omega) | simp [upc]) rfl) ⟨hR0.2.2.2.2.2.2.2.2.1.1, hR0.2.2.2.2.2.2.2.2.1.2⟩) (cwV 0 hts (gi_4 (List.mem_cons_of_mem _ (List.mem_append_left _ (List.mem_of_getElem? (i := 16) rfl))) (List.mem_cons_of_mem _ (List.mem_append_left _ (List.mem_of_getElem? (i := 17) rfl))) (List.mem_cons_of_mem _ (List.mem_append_left _ (List.mem_of_getElem? (i := 18) rfl))) (List.mem_cons_of_mem _ (List.mem_append_left _ (List.mem_of_getElem? (i := 4) rfl))) (fun _ hh => (List.mem_cons_of_mem _ (List.mem_append_right _ (List.mem_append_right _ (List.mem_append_right _ (List.mem_append_right _ (List.mem_append_right _ (List.mem_append_right _ (List.mem_append_left _ hh))))))))) gd_m_putBack) rfl rfl rfl (by decide +kernel) ⟨Nat.le_of_ble_eq_true rfl, Nat.le_of_ble_eq_true rfl⟩) ⟨pw_blind, tw_recv hK hT (fx_50 hX) (by decide) cl_e60 rfl, pw_use hT hK hFc hS hM⟩ rfl rfl hl.1 rfl (lv_room (Nat.le_of_ble_eq_true rfl)) dX12_tried_105 ⟨Nat.le_of_ble_eq_true rfl, Nat.le_of_ble_eq_true rfl⟩) hS (fun q _ h => hFc q h) hFc (fun u0 t H locs ht hvm hw hB hz1 hk1 hS => ?_)
                refine W.widen (k := 0) (n := 0) (Nat.le_of_ble_eq_true rfl) (Nat.le_of_ble_eq_true rfl) ?_
                clear hvm hz1 hk1
                obtain ⟨u_68, y_69, huu_68, hgy_69, hI, hW, hf_70, hT⟩ := hB
                rw [ht] at hT
                have hG := hG.tr hgy_69 (by decide)
                have hR := im_r hI
                have : u_68 0 = u_57 0 := (huu_68 0 (by decide)).trans (by simp [upc])
                have : u_68 1 = u_57 1 := (huu_68 1 (by decide)).trans (by simp [upc])
                have : u_68 2 = u_57 2 := (huu_68 2 (by decide)).trans (by simp [upc])
                have : u_68 3 = u_57 3 := (huu_68 3 (by decide)).trans (by simp [upc])
                have : u_68 4 = u_57 4 := (huu_68 4 (by decide)).trans (by simp [upc])
                have : u_68 5 = u_57 5 := (huu_68 5 (by decide)).trans (by simp [upc])
                have : u_68 6 = u_57 6 := (huu_68 6 (by decide)).trans (by simp [upc])
                have : u_68 7 = 8 := (huu_68 7 (by decide)).trans (by simp [upc])
                have : u_68 8 = u_57 8 := (huu_68 8 (by decide)).trans (by simp [upc])
                have : u_68 10 = (-1) := (huu_68 10 (by decide)).trans (by simp [upc])
                have hWA : IW (u 1) (u 2) (u 9) (y_69 (a 90)) := by rw [hgy_69.at (fx_90 hX) (by decide)]; exact hWA
                refine lv_iload_n hx hb dX12_tried_108 rfl (lv_at hl 3 rfl) ?_
                have hrv : r_63.toInt = r_63.toInt := rfl
                exact W.iret (v := r_63) hx hb hr (fun t ht hW9 => ⟨⟨r_63, r_63, rfl, rfl, ⟨u_68, y_69, g_L72, (by intro i hi; simp only [List.mem_cons, List.not_mem_nil, or_false, not_or] at hi; rw [huu_68 i (by simp <;> omega)]; rw [upc_o (by omega)]; rw [upc_o (by omega)]; rw [huu_57 i (by simp <;> omega)]; rw [upc_o (by omega)]), hG, hGg, hI, hW, by omega, (by have h9 := huu_68 10 (by decide); simp [upc] at h9; omega), tw_at ht hT⟩⟩, hS.F ht⟩) hS.2.2 dX12_tried_109
              · have nc_64 := z_nle (zk (x := 8) 8 rfl) rfl c_64
                refine lv_aload_n hx hb dX12_tried_79 rfl (lv_at hl 0 rfl) ?_
                refine tw_get (D := (dC, dI)) (v := .ref (a 86)) (C := RX12) (T := TX12) (N := 58) hx hb hts (fun _ hh => (List.mem_cons_of_mem _ (List.mem_append_right _ (List.mem_append_left _ hh)))) hown hK hT (fx_50 hX) (by decide) cl_e60 rfl 35 (by decide) (hts (.fieldLink RX12 104 "TypingPoolModel" "row" "[I") (List.mem_cons_of_mem _ (List.mem_append_left _ (List.mem_of_getElem? (i := 19) rfl)))) (fun _ h9 => h9) rfl dX12_tried_80 ?_
                refine lv_iload hx hb dX12_tried_83 (lv_at hl 4 rfl) ?_
                refine lv_aload_n hx hb dX12_tried_85 rfl (lv_at hl 0 rfl) ?_
                refine lv_iload hx hb dX12_tried_86 (lv_at hl 4 rfl) ?_
                have hFc := tw_free hF hS hA
                refine va_calli (va_runV (As := [.int i4]) (rest := [.int i4, .ref (a 86)]) ⟨hx, hb, hml, hown, hts⟩ (m_waited l dC dI ad av H.size a k τ ln y_L72 g_L72 (upc u_57 10 (-1)) i4 hI hW) (cwV 1 hts (gi_4 (List.mem_cons_of_mem _ (List.mem_append_left _ (List.mem_of_getElem? (i := 20) rfl))) (List.mem_cons_of_mem _ (List.mem_append_left _ (List.mem_of_getElem? (i := 21) rfl))) (List.mem_cons_of_mem _ (List.mem_append_left _ (List.mem_of_getElem? (i := 22) rfl))) (List.mem_cons_of_mem _ (List.mem_append_left _ (List.mem_of_getElem? (i := 4) rfl))) (fun _ hh => (List.mem_cons_of_mem _ (List.mem_append_right _ (List.mem_append_right _ (List.mem_append_right _ (List.mem_append_right _ (List.mem_append_right _ (List.mem_append_right _ (List.mem_append_right _ (List.mem_append_left _ hh)))))))))) gd_m_waited) rfl rfl rfl (by decide +kernel) ⟨Nat.le_of_ble_eq_true rfl, Nat.le_of_ble_eq_true rfl⟩) ⟨pw_blind, tw_recv hK hT (fx_50 hX) (by decide) cl_e60 rfl, pw_use hT hK hFc hS hM⟩ rfl rfl hl.1 rfl (lv_room (Nat.le_of_ble_eq_true rfl)) dX12_tried_88 ⟨Nat.le_of_ble_eq_true rfl, Nat.le_of_ble_eq_true rfl⟩) hS (fun q _ h => hFc q h) hFc (fun r0 r_71 t H locs ht hvm hw hB hz1 hk1 hS => ?_)
                refine W.widen (k := 0) (n := 0) (Nat.le_of_ble_eq_true rfl) (Nat.le_of_ble_eq_true rfl) ?_
                clear hvm hz1 hk1
                subst hw
                have hT := hB
                rw [ht] at hT
                refine tw_iast hx hb hK hT hF hS 0 (fx_86 hX) (by decide) (fun _ => cl_e96) rfl (z_in rfl (by omega) (by omega)) dX12_tried_91 (fun H locs hT hS => ?_)
                obtain ⟨y_72, hy_72, hT⟩ : ∃ z : Nat → Nat → Int32, z = up2 y_L72 (a 86) i4.toNatClampNeg r_71 ∧ tw (dC, dI) a k τ ln z g_L72 H := ⟨_, rfl, hT⟩
                have hG : ag τ [60, 96, 99, 100, 102] y y_72 := by rw [hy_72]; exact hG.up (fx_86 hX) (by decide)
                have hW : IW ((upc u_57 10 (-1)) 1) ((upc u_57 10 (-1)) 2) ((upc u_57 10 (-1)) 9) (y_72 (a 89)) := by rw [hy_72, up2_o (kd_ne (fx_89 hX) (fx_86 hX) (by decide))]; exact hW
                have hWA : IW (u 1) (u 2) (u 9) (y_72 (a 90)) := by rw [hy_72, up2_o (kd_ne (fx_90 hX) (fx_86 hX) (by decide))]; exact hWA
                have hI := hI.ag (S := [96]) (y' := y_72) (by rw [hy_72]; exact ag.one (fx_86 hX)) (by decide)
                obtain ⟨x_73, ex_73⟩ : ∃ y : Int32, y = i4 + Int32.ofInt 1 := ⟨_, rfl⟩
                have hx_73 := z_add ex_73 rfl (zk (x := Int32.ofInt 1) 1 rfl) (by omega) (by omega)
                refine lv_iinc (v := x_73) (lv' := [(4, .int x_73), (0, .ref (a 50)), (1, .int p0), (2, .int p1), (3, .int r_63)]) hx hb dX12_tried_92 hl (k := 4) rfl ex_73.symm (by decide) rfl (fun ls hl => ?_)
                refine lv_goto (tgt := 72) hx hb dX12_tried_95 (by decide) ?_
                exact ih_72  x_73 y_72 g_L72 H _ ls (by omega) hG hI hGg hW hWA (by omega) (by omega) hT hS (lv_sub hl [1, 2, 3, 4, 0] rfl)
          have hp_74 : (0 : Int32).toInt = 0 := (zk (x := 0) 0 rfl)
          exact loop_72 _ (0 : Int32) y_61 g_59 H _ ls (Nat.lt_succ_self _) hG hI hGg hW hWA (by omega) (by omega) hT hS (lv_sub hl [2, 3, 4, 1, 0] rfl)
        · refine lq_top (v := 0) hre ?_
          rw [ht] at hT
          try simp only [hp_44] at hf_49
          clear hp_44
          refine lv_if_ne (tgt := 45) hx hb dX12_tried_40 (by decide) (fun c_75 => absurd c_75 (by decide)) (fun c_75 => ?_)
          refine lv_iconst (v := (-1)) hx hb dX12_tried_43 (by decide) ?_
          have hrv : (-1 : Int32).toInt = (-1) := (zk (x := (-1)) (-1) rfl)
          exact W.iret (v := (-1)) hx hb hr (fun t ht hW9 => ⟨⟨(-1), (-1), rfl, rfl, ⟨u, y_1, g, (fun _ _ => rfl), hG, hGg, hI, hW, rfl, rfl, tw_at ht hT⟩⟩, hS.F ht⟩) hS.2.2 dX12_tried_44
    · refine lq_top (v := 0) hre ?_
      rw [ht] at hT
      try simp only [hp_37] at hf_41
      clear hp_37
      refine lv_if_eq (tgt := 43) hx hb dX12_tried_21 (by decide) (fun c_76 => ?_) (fun c_76 => absurd c_76 (by decide))
      refine lv_iconst (v := (-1)) hx hb dX12_tried_43 (by decide) ?_
      have hrv : (-1 : Int32).toInt = (-1) := (zk (x := (-1)) (-1) rfl)
      exact W.iret (v := (-1)) hx hb hr (fun t ht hW9 => ⟨⟨(-1), (-1), rfl, rfl, ⟨u, y_1, g, (fun _ _ => rfl), hG, hGg, hI, hW, rfl, rfl, tw_at ht hT⟩⟩, hS.F ht⟩) hS.2.2 dX12_tried_44
def wo_m_ill : List Cond := [.fieldLink RX12 139 "TypingPoolModel" "thrown" "I", .methodLink RX12 160 yX12_isHand, .instanceMethod yX12_isHand, .selects RX12 yX12_isHand yX12_isHand, .initialized RX12, .methodLink RX12 305 yX12_canGo, .instanceMethod yX12_canGo, .selects RX12 yX12_canGo yX12_canGo, .methodLink RX12 379 yX12_putAside, .instanceMethod yX12_putAside, .selects RX12 yX12_putAside yX12_putAside, .methodLink RX12 308 yX12_go, .instanceMethod yX12_go, .selects RX12 yX12_go yX12_go, .methodLink RX12 324 yX12_lates, .instanceMethod yX12_lates, .selects RX12 yX12_lates yX12_lates, .methodLink RX12 382 yX12_putBack, .instanceMethod yX12_putBack, .selects RX12 yX12_putBack yX12_putBack, .fieldLink RX12 22 "TypingPoolModel" "awayHand" "[I", .fieldLink RX12 167 "TypingPoolModel" "aways" "I", .fieldLink RX12 25 "TypingPoolModel" "awayFrom" "[I", .methodLink RX12 164 yX12_now, .instanceMethod yX12_now, .selects RX12 yX12_now yX12_now, .fieldLink RX12 28 "TypingPoolModel" "awayTo" "[I", .methodLink RX12 312 yX12_lost, .instanceMethod yX12_lost, .selects RX12 yX12_lost yX12_lost]
def wm_m_ill : List Cond := .code yX12_ill cX12_ill 5 (some .int) :: (wo_m_ill ++ (wsX120 ++ (wm_m_isHand ++ (wm_m_canGoX ++ (wm_m_putAside ++ (wm_m_go ++ (wm_m_lates ++ (wm_m_putBack ++ (wm_m_now ++ (wm_m_lost ++ ([] : List Cond)))))))))))
theorem gd_m_ill : ∀ w ∈ wm_m_ill, goodWord w = true := gd_c rfl (gd_a (by decide) (gd_a gd_wsX120 (gd_a gd_m_isHand (gd_a gd_m_canGoX (gd_a gd_m_putAside (gd_a gd_m_go (gd_a gd_m_lates (gd_a gd_m_putBack (gd_a gd_m_now (gd_a gd_m_lost gd_nil))))))))))
set_option maxRecDepth 20000 in
theorem im_m_ill : ∀ w ∈ wm_m_ill, w ∈ lw_tbl := im_c (in_r [.code yX12_ill cX12_ill 5 (some .int)] [1730] (by decide +kernel)) (in_app (in_r wo_m_ill [1278, 1436, 1438, 27, 86, 1528, 1530, 43, 1719, 1721, 67, 1532, 1534, 44, 1620, 1622, 57, 1723, 1725, 68, 1247, 1250, 1248, 1440, 1442, 28, 1249, 1588, 1590, 54] (by decide +kernel)) (in_app im_wsX120 (in_app im_m_isHand (in_app im_m_canGoX (in_app im_m_putAside (in_app im_m_go (in_app im_m_lates (in_app im_m_putBack (in_app im_m_now (in_app im_m_lost im_nil))))))))))
set_option maxHeartbeats 4000000 in
set_option maxRecDepth 100000 in
theorem m_ill (l : Launch) (dC : Nat → ClassId) (dI : Nat → Nat → Nat) (ad av : Nat → Nat) (sz : Nat) (a : Nat → Nat) (k : Nat → ClassId) (τ ln : Nat → Nat) (y : Nat → Nat → Int32) (g : Nat → Nat → Option Nat) (u : Nat → Int) (p0 : Int32) (p1 : Int32) (hI : IM a u τ y) (h30 : u 3 ≤ 30) (hW : IW (u 1) (u 2) (u 9) (y (a 89))) : Met l yX12_ill wm_m_ill ({ frames := 389, cells := 0, slots := 0, locals := 25460 }) (pw_ ad av (dC, dI) sz [.ref (a 50), .int p0, .int p1] a k τ ln y g) (va_Qi (fun (r u : Int32) => u = r) (fun (r : Int32) (t : State) => (∃ (u' : Nat → Int) (y' : Nat → Nat → Int32) (g' : Nat → Nat → Option Nat), (∀ i, i ∉ ([3, 9] : List Nat) → u' i = u i) ∧ ag τ [60, 67, 68, 69, 99, 100, 102] y y' ∧ agg τ g g' ∧ IM a u' τ y' ∧ IW (u' 1) (u' 2) (u' 9) (y' (a 89)) ∧ u' 3 = u 3 ∧ u' 9 = u 9 ∧ tw (dC, dI) a k τ ln y' g' t.heap)) (fr τ sz)) 0 0 (fr τ sz) := by
  refine Met.ofW (cc := cX12_ill) (maxL := 5) (ret := (some .int)) (by decide) rfl ?_
  intro p e s m args below meth c s₁ B hml hv
  obtain ⟨rfl, hsz, hT, hK, hM⟩ := hv
  have hx := B.exec
  have hb := B.bytes
  have hr := B.returns
  have hts := atoms_spec (ws := wm_m_ill) B.pre
  have hown : s.vm.findClass RX12 = some m.cls := findClass_of_methodNamed B.named
  have hlocks := B.notSynchronized
  subst hsz
  generalize hAe : fr τ s.heap.size = A at hM ⊢
  have hA : ∀ q : Nat, s.heap.size ≤ q → A q := fun q h => by rw [← hAe]; exact Or.inr h
  have hF : ∀ q, τ q ≠ 0 → A q := fun q h => by rw [← hAe]; exact Or.inl h
  have hS : va_S A s.heap s.heap [] := va_S.rf
  have hX := hI.1
  have hR := im_r hI
  have hG : ag τ [60, 67, 68, 69, 99, 100, 102] y y := ag.rf
  have hGg : agg τ g g := agg.rf
  have hl := lv_entry ([.ref (a 50), .int p0, .int p1]) (n := 5) (Nat.le_of_ble_eq_true rfl)
  rw [lg_entry_eq]
  generalize (lg_sl ([.ref (a 50), .int p0, .int p1]) ++ List.replicate (5 - (lg_sl ([.ref (a 50), .int p0, .int p1])).length) Slot.unset).toArray = ls at hl ⊢
  have hl : lv_has ls 5 [(0, .ref (a 50)), (1, .int p0), (2, .int p1)] := hl
  have hR0 := hR
  refine lv_aload_n hx hb dX12_ill_0 rfl (lv_at hl 0 rfl) ?_
  refine lv_iconst (v := 0) hx hb dX12_ill_1 (by decide) ?_
  refine tw_put (D := (dC, dI)) (x := 0) (ty := .int) (C := RX12) (T := TX12) (N := 58) hx hb hts (fun _ hh => (List.mem_cons_of_mem _ (List.mem_append_right _ (List.mem_append_left _ hh)))) tyX12 tyX12_ok nmX12 hown hK hT hF hS (fx_50 hX) (by decide) cl_e60 rfl 37 (by decide) (hts (.fieldLink RX12 139 "TypingPoolModel" "thrown" "I") (List.mem_cons_of_mem _ (List.mem_append_left _ (List.mem_of_getElem? (i := 0) rfl)))) (fun _ h9 => h9) rfl (tyX12_ok 37 (by decide)) rfl rfl (Nat.le_of_ble_eq_true rfl) rfl dX12_ill_2 (fun H locs hT hS => ?_)
  obtain ⟨y_1, hy_1, hT⟩ : ∃ z : Nat → Nat → Int32, z = up2 y (a 50) 37 (0 : Int32) ∧ tw (dC, dI) a k τ ln z g H := ⟨_, rfl, hT⟩
  have hG : ag τ [60, 67, 68, 69, 99, 100, 102] y y_1 := by rw [hy_1]; exact hG.up (fx_50 hX) (by decide)
  have hW : IW (u 1) (u 2) (u 9) (y_1 (a 89)) := by rw [hy_1, up2_o (kd_ne (fx_89 hX) (fx_50 hX) (by decide))]; exact hW
  have hI := hI.put (f := 37) (x := (0 : Int32)) (by decide)
  rw [← hy_1] at hI
  refine lv_aload_n hx hb dX12_ill_5 rfl (lv_at hl 0 rfl) ?_
  refine lv_iload_n hx hb dX12_ill_6 rfl (lv_at hl 1 rfl) ?_
  have hFc := tw_free hF hS hA
  refine va_calli (va_runV (As := [.int p0]) (rest := []) ⟨hx, hb, hml, hown, hts⟩ (m_isHand l dC dI ad av H.size a k τ ln y_1 g u p0 hI hW) (cwV 1 hts (gi_4 (List.mem_cons_of_mem _ (List.mem_append_left _ (List.mem_of_getElem? (i := 1) rfl))) (List.mem_cons_of_mem _ (List.mem_append_left _ (List.mem_of_getElem? (i := 2) rfl))) (List.mem_cons_of_mem _ (List.mem_append_left _ (List.mem_of_getElem? (i := 3) rfl))) (List.mem_cons_of_mem _ (List.mem_append_left _ (List.mem_of_getElem? (i := 4) rfl))) (fun _ hh => (List.mem_cons_of_mem _ (List.mem_append_right _ (List.mem_append_right _ (List.mem_append_left _ hh))))) gd_m_isHand) rfl rfl rfl (by decide +kernel) ⟨Nat.le_of_ble_eq_true rfl, Nat.le_of_ble_eq_true rfl⟩) ⟨pw_blind, tw_recv hK hT (fx_50 hX) (by decide) cl_e60 rfl, pw_use hT hK hFc hS hM⟩ rfl rfl hl.1 rfl (lv_room (Nat.le_of_ble_eq_true rfl)) dX12_ill_7 ⟨Nat.le_of_ble_eq_true rfl, Nat.le_of_ble_eq_true rfl⟩) hS (fun q _ h => hFc q h) hFc (fun r0 r_2 t H locs ht hvm hw hB hz1 hk1 hS => ?_)
  refine W.widen (k := 0) (n := 0) (Nat.le_of_ble_eq_true rfl) (Nat.le_of_ble_eq_true rfl) ?_
  clear hvm hz1 hk1
  subst hw
  rcases hB with ⟨hre, hf_3, hf_4, hT⟩ | ⟨hre, hf_5, hT⟩
  · refine lq_top (v := 1) hre ?_
    rw [ht] at hT
    refine lv_if_eq (tgt := 22) hx hb dX12_ill_10 (by decide) (fun c_6 => absurd c_6 (by decide)) (fun c_6 => ?_)
    refine lv_aload_n hx hb dX12_ill_13 rfl (lv_at hl 0 rfl) ?_
    refine lv_iload_n hx hb dX12_ill_14 rfl (lv_at hl 2 rfl) ?_
    refine lv_iconst (v := 1) hx hb dX12_ill_15 (by decide) ?_
    have hFc := tw_free hF hS hA
    have hp_7 : (1 : Int32).toInt = 1 := (zk (x := 1) 1 rfl)
    refine va_calli (va_runV (As := [.int p1, .int 1]) (rest := []) ⟨hx, hb, hml, hown, hts⟩ (m_canGoX l dC dI ad av H.size a k τ ln y_1 g u p1 (1 : Int32) hI (by decide) hW) (cwV 2 hts (gi_4 (List.mem_cons_of_mem _ (List.mem_append_left _ (List.mem_of_getElem? (i := 5) rfl))) (List.mem_cons_of_mem _ (List.mem_append_left _ (List.mem_of_getElem? (i := 6) rfl))) (List.mem_cons_of_mem _ (List.mem_append_left _ (List.mem_of_getElem? (i := 7) rfl))) (List.mem_cons_of_mem _ (List.mem_append_left _ (List.mem_of_getElem? (i := 4) rfl))) (fun _ hh => (List.mem_cons_of_mem _ (List.mem_append_right _ (List.mem_append_right _ (List.mem_append_right _ (List.mem_append_left _ hh)))))) gd_m_canGoX) rfl rfl rfl (by decide +kernel) ⟨Nat.le_of_ble_eq_true rfl, Nat.le_of_ble_eq_true rfl⟩) ⟨pw_blind, tw_recv hK hT (fx_50 hX) (by decide) cl_e60 rfl, pw_use hT hK hFc hS hM⟩ rfl rfl hl.1 rfl (lv_room (Nat.le_of_ble_eq_true rfl)) dX12_ill_16 ⟨Nat.le_of_ble_eq_true rfl, Nat.le_of_ble_eq_true rfl⟩) hS (fun q _ h => hFc q h) hFc (fun r0 r_8 t H locs ht hvm hw hB hz1 hk1 hS => ?_)
    refine W.widen (k := 0) (n := 0) (Nat.le_of_ble_eq_true rfl) (Nat.le_of_ble_eq_true rfl) ?_
    clear hvm hz1 hk1
    subst hw
    rcases hB with ⟨hre, hf_9, hf_10, hf_11, hT⟩ | ⟨hre, hf_12, hT⟩
    · refine lq_top (v := 1) hre ?_
      rw [ht] at hT
      try simp only [hp_7] at hf_9 hf_10 hf_11
      clear hp_7
      refine lv_if_ne (tgt := 27) hx hb dX12_ill_19 (by decide) (fun c_13 => ?_) (fun c_13 => absurd c_13 (by decide))
      refine lv_aload_n hx hb dX12_ill_27 rfl (lv_at hl 0 rfl) ?_
      have hFc := tw_free hF hS hA
      refine va_callv (va_runV (As := []) (rest := []) ⟨hx, hb, hml, hown, hts⟩ (m_putAside l dC dI ad av H.size a k τ ln y_1 g u  hI hW) (cwV 0 hts (gi_4 (List.mem_cons_of_mem _ (List.mem_append_left _ (List.mem_of_getElem? (i := 8) rfl))) (List.mem_cons_of_mem _ (List.mem_append_left _ (List.mem_of_getElem? (i := 9) rfl))) (List.mem_cons_of_mem _ (List.mem_append_left _ (List.mem_of_getElem? (i := 10) rfl))) (List.mem_cons_of_mem _ (List.mem_append_left _ (List.mem_of_getElem? (i := 4) rfl))) (fun _ hh => (List.mem_cons_of_mem _ (List.mem_append_right _ (List.mem_append_right _ (List.mem_append_right _ (List.mem_append_right _ (List.mem_append_left _ hh))))))) gd_m_putAside) rfl rfl rfl (by decide +kernel) ⟨Nat.le_of_ble_eq_true rfl, Nat.le_of_ble_eq_true rfl⟩) ⟨pw_blind, tw_recv hK hT (fx_50 hX) (by decide) cl_e60 rfl, pw_use hT hK hFc hS hM⟩ rfl rfl hl.1 rfl (lv_room (Nat.le_of_ble_eq_true rfl)) dX12_ill_28 ⟨Nat.le_of_ble_eq_true rfl, Nat.le_of_ble_eq_true rfl⟩) hS (fun q _ h => hFc q h) hFc (fun u0 t H locs ht hvm hw hB hz1 hk1 hS => ?_)
      refine W.widen (k := 0) (n := 0) (Nat.le_of_ble_eq_true rfl) (Nat.le_of_ble_eq_true rfl) ?_
      clear hvm hz1 hk1
      obtain ⟨y_15, hgy_15, hI, hf_16, hT⟩ := hB
      rw [ht] at hT
      have hG := hG.tr hgy_15 (by decide)
      have hW : IW (u 1) (u 2) (u 9) (y_15 (a 89)) := by rw [hgy_15.at (fx_89 hX) (by decide)]; exact hW
      have hWA := hf_16
      refine lv_aload_n hx hb dX12_ill_31 rfl (lv_at hl 0 rfl) ?_
      refine lv_iload_n hx hb dX12_ill_32 rfl (lv_at hl 2 rfl) ?_
      have hFc := tw_free hF hS hA
      refine va_callv (va_runV (As := [.int p1]) (rest := []) ⟨hx, hb, hml, hown, hts⟩ (m_go l dC dI ad av H.size a k τ ln y_15 g u p1 hI (by omega) (by omega) hW) (cwV 1 hts (gi_4 (List.mem_cons_of_mem _ (List.mem_append_left _ (List.mem_of_getElem? (i := 11) rfl))) (List.mem_cons_of_mem _ (List.mem_append_left _ (List.mem_of_getElem? (i := 12) rfl))) (List.mem_cons_of_mem _ (List.mem_append_left _ (List.mem_of_getElem? (i := 13) rfl))) (List.mem_cons_of_mem _ (List.mem_append_left _ (List.mem_of_getElem? (i := 4) rfl))) (fun _ hh => (List.mem_cons_of_mem _ (List.mem_append_right _ (List.mem_append_right _ (List.mem_append_right _ (List.mem_append_right _ (List.mem_append_right _ (List.mem_append_left _ hh)))))))) gd_m_go) rfl rfl rfl (by decide +kernel) ⟨Nat.le_of_ble_eq_true rfl, Nat.le_of_ble_eq_true rfl⟩) ⟨pw_blind, tw_recv hK hT (fx_50 hX) (by decide) cl_e60 rfl, pw_use hT hK hFc hS hM⟩ rfl rfl hl.1 rfl (lv_room (Nat.le_of_ble_eq_true rfl)) dX12_ill_33 ⟨Nat.le_of_ble_eq_true rfl, Nat.le_of_ble_eq_true rfl⟩) hS (fun q _ h => hFc q h) hFc (fun u0 t H locs ht hvm hw hB hz1 hk1 hS => ?_)
      refine W.widen (k := 0) (n := 0) (Nat.le_of_ble_eq_true rfl) (Nat.le_of_ble_eq_true rfl) ?_
      clear hvm hz1 hk1
      obtain ⟨u_18, y_19, g_20, huu_18, hgy_19, hggg_20, hI, hW, hf_21, hT⟩ := hB
      rw [ht] at hT
      have hG := hG.tr hgy_19 (by decide)
      have hGg := hGg.tr hggg_20
      have hR := im_r hI
      have : u_18 0 = u 0 := huu_18 0 (by decide)
      have : u_18 1 = u 1 := huu_18 1 (by decide)
      have : u_18 2 = u 2 := huu_18 2 (by decide)
      have : u_18 3 = u 3 := huu_18 3 (by decide)
      have : u_18 4 = u 4 := huu_18 4 (by decide)
      have : u_18 5 = u 5 := huu_18 5 (by decide)
      have : u_18 6 = u 6 := huu_18 6 (by decide)
      have : u_18 7 = u 7 := huu_18 7 (by decide)
      have : u_18 8 = u 8 := huu_18 8 (by decide)
      have : u_18 10 = u 10 := huu_18 10 (by decide)
      have hWA : IW (u 1) (u 2) (u 9) (y_19 (a 90)) := by rw [hgy_19.at (fx_90 hX) (by decide)]; exact hWA
      refine lv_aload_n hx hb dX12_ill_36 rfl (lv_at hl 0 rfl) ?_
      have hFc := tw_free hF hS hA
      refine va_calli (va_runV (As := []) (rest := []) ⟨hx, hb, hml, hown, hts⟩ (m_lates l dC dI ad av H.size a k τ ln y_19 g_20 u_18  hI hW) (cwV 0 hts (gi_4 (List.mem_cons_of_mem _ (List.mem_append_left _ (List.mem_of_getElem? (i := 14) rfl))) (List.mem_cons_of_mem _ (List.mem_append_left _ (List.mem_of_getElem? (i := 15) rfl))) (List.mem_cons_of_mem _ (List.mem_append_left _ (List.mem_of_getElem? (i := 16) rfl))) (List.mem_cons_of_mem _ (List.mem_append_left _ (List.mem_of_getElem? (i := 4) rfl))) (fun _ hh => (List.mem_cons_of_mem _ (List.mem_append_right _ (List.mem_append_right _ (List.mem_append_right _ (List.mem_append_right _ (List.mem_append_right _ (List.mem_append_right _ (List.mem_append_left _ hh))))))))) gd_m_lates) rfl rfl rfl (by decide +kernel) ⟨Nat.le_of_ble_eq_true rfl, Nat.le_of_ble_eq_true rfl⟩) ⟨pw_blind, tw_recv hK hT (fx_50 hX) (by decide) cl_e60 rfl, pw_use hT hK hFc hS hM⟩ rfl rfl hl.1 rfl (lv_room (Nat.le_of_ble_eq_true rfl)) dX12_ill_37 ⟨Nat.le_of_ble_eq_true rfl, Nat.le_of_ble_eq_true rfl⟩) hS (fun q _ h => hFc q h) hFc (fun r0 r_22 t H locs ht hvm hw hB hz1 hk1 hS => ?_)
      refine W.widen (k := 0) (n := 0) (Nat.le_of_ble_eq_true rfl) (Nat.le_of_ble_eq_true rfl) ?_
      clear hvm hz1 hk1
      subst hw
      have hT := hB
      rw [ht] at hT
      refine lv_istore_n (lv' := [(3, .int r_22), (0, .ref (a 50)), (1, .int p0), (2, .int p1)]) hx hb dX12_ill_40 rfl hl (by decide) rfl (fun ls hl => ?_)
      refine lv_aload_n hx hb dX12_ill_41 rfl (lv_at hl 1 rfl) ?_
      have hFc := tw_free hF hS hA
      refine va_callv (va_runV (As := []) (rest := []) ⟨hx, hb, hml, hown, hts⟩ (m_putBack l dC dI ad av H.size a k τ ln y_19 g_20 u_18 (u 9) hI (iw_u hWA (by first | omega | (simp [upc]; omega) | simp [upc]) (by first | omega | (simp [upc]; omega) | simp [upc]) rfl) ⟨hR0.2.2.2.2.2.2.2.2.1.1, hR0.2.2.2.2.2.2.2.2.1.2⟩) (cwV 0 hts (gi_4 (List.mem_cons_of_mem _ (List.mem_append_left _ (List.mem_of_getElem? (i := 17) rfl))) (List.mem_cons_of_mem _ (List.mem_append_left _ (List.mem_of_getElem? (i := 18) rfl))) (List.mem_cons_of_mem _ (List.mem_append_left _ (List.mem_of_getElem? (i := 19) rfl))) (List.mem_cons_of_mem _ (List.mem_append_left _ (List.mem_of_getElem? (i := 4) rfl))) (fun _ hh => (List.mem_cons_of_mem _ (List.mem_append_right _ (List.mem_append_right _ (List.mem_append_right _ (List.mem_append_right _ (List.mem_append_right _ (List.mem_append_right _ (List.mem_append_right _ (List.mem_append_left _ hh)))))))))) gd_m_putBack) rfl rfl rfl (by decide +kernel) ⟨Nat.le_of_ble_eq_true rfl, Nat.le_of_ble_eq_true rfl⟩) ⟨pw_blind, tw_recv hK hT (fx_50 hX) (by decide) cl_e60 rfl, pw_use hT hK hFc hS hM⟩ rfl rfl hl.1 rfl (lv_room (Nat.le_of_ble_eq_true rfl)) dX12_ill_42 ⟨Nat.le_of_ble_eq_true rfl, Nat.le_of_ble_eq_true rfl⟩) hS (fun q _ h => hFc q h) hFc (fun u0 t H locs ht hvm hw hB hz1 hk1 hS => ?_)
      refine W.widen (k := 0) (n := 0) (Nat.le_of_ble_eq_true rfl) (Nat.le_of_ble_eq_true rfl) ?_
      clear hvm hz1 hk1
      obtain ⟨u_24, y_25, huu_24, hgy_25, hI, hW, hf_26, hT⟩ := hB
      rw [ht] at hT
      have hG := hG.tr hgy_25 (by decide)
      have hR := im_r hI
      have : u_24 0 = u_18 0 := huu_24 0 (by decide)
      have : u_24 1 = u_18 1 := huu_24 1 (by decide)
      have : u_24 2 = u_18 2 := huu_24 2 (by decide)
      have : u_24 3 = u_18 3 := huu_24 3 (by decide)
      have : u_24 4 = u_18 4 := huu_24 4 (by decide)
      have : u_24 5 = u_18 5 := huu_24 5 (by decide)
      have : u_24 6 = u_18 6 := huu_24 6 (by decide)
      have : u_24 7 = u_18 7 := huu_24 7 (by decide)
      have : u_24 8 = u_18 8 := huu_24 8 (by decide)
      have : u_24 10 = u_18 10 := huu_24 10 (by decide)
      have hWA : IW (u 1) (u 2) (u 9) (y_25 (a 90)) := by rw [hgy_25.at (fx_90 hX) (by decide)]; exact hWA
      refine lv_aload_n hx hb dX12_ill_45 rfl (lv_at hl 1 rfl) ?_
      refine tw_get (D := (dC, dI)) (v := .ref (a 57)) (C := RX12) (T := TX12) (N := 58) hx hb hts (fun _ hh => (List.mem_cons_of_mem _ (List.mem_append_right _ (List.mem_append_left _ hh)))) hown hK hT (fx_50 hX) (by decide) cl_e60 rfl 6 (by decide) (hts (.fieldLink RX12 22 "TypingPoolModel" "awayHand" "[I") (List.mem_cons_of_mem _ (List.mem_append_left _ (List.mem_of_getElem? (i := 20) rfl)))) (fun _ h9 => h9) rfl dX12_ill_46 ?_
      refine lv_aload_n hx hb dX12_ill_49 rfl (lv_at hl 1 rfl) ?_
      refine tw_get (D := (dC, dI)) (v := .int (y_25 (a 50) 9)) (C := RX12) (T := TX12) (N := 58) hx hb hts (fun _ hh => (List.mem_cons_of_mem _ (List.mem_append_right _ (List.mem_append_left _ hh)))) hown hK hT (fx_50 hX) (by decide) cl_e60 rfl 9 (by decide) (hts (.fieldLink RX12 167 "TypingPoolModel" "aways" "I") (List.mem_cons_of_mem _ (List.mem_append_left _ (List.mem_of_getElem? (i := 21) rfl)))) (fun _ h9 => h9) rfl dX12_ill_50 ?_
      have hc_27 := im_3 hI
      refine lv_iload_n hx hb dX12_ill_53 rfl (lv_at hl 2 rfl) ?_
      have hbd_28 : 0 ≤ u_24 3 ∧ u_24 3 < 31 := by omega
      refine tw_iast hx hb hK hT hF hS 0 (fx_57 hX) (by decide) (fun _ => cl_e67) rfl (z_in hc_27 hbd_28.1 hbd_28.2) dX12_ill_54 (fun H locs hT hS => ?_)
      obtain ⟨y_29, hy_29, hT⟩ : ∃ z : Nat → Nat → Int32, z = up2 y_25 (a 57) ((y_25 (a 50) 9).toNatClampNeg) p0 ∧ tw (dC, dI) a k τ ln z g_20 H := ⟨_, rfl, hT⟩
      have hG : ag τ [60, 67, 68, 69, 99, 100, 102] y y_29 := by rw [hy_29]; exact hG.up (fx_57 hX) (by decide)
      have hW : IW (u_24 1) (u_24 2) (u_24 9) (y_29 (a 89)) := by rw [hy_29, up2_o (kd_ne (fx_89 hX) (fx_57 hX) (by decide))]; exact hW
      have hWA : IW (u 1) (u 2) (u 9) (y_29 (a 90)) := by rw [hy_29, up2_o (kd_ne (fx_90 hX) (fx_57 hX) (by decide))]; exact hWA
      have hI := hI.ag (S := [67]) (y' := y_29) (by rw [hy_29]; exact ag.one (fx_57 hX)) (by decide)
      clear hc_27
      refine lv_aload_n hx hb dX12_ill_55 rfl (lv_at hl 1 rfl) ?_
      refine tw_get (D := (dC, dI)) (v := .ref (a 58)) (C := RX12) (T := TX12) (N := 58) hx hb hts (fun _ hh => (List.mem_cons_of_mem _ (List.mem_append_right _ (List.mem_append_left _ hh)))) hown hK hT (fx_50 hX) (by decide) cl_e60 rfl 7 (by decide) (hts (.fieldLink RX12 25 "TypingPoolModel" "awayFrom" "[I") (List.mem_cons_of_mem _ (List.mem_append_left _ (List.mem_of_getElem? (i := 22) rfl)))) (fun _ h9 => h9) rfl dX12_ill_56 ?_
      refine lv_aload_n hx hb dX12_ill_59 rfl (lv_at hl 1 rfl) ?_
      refine tw_get (D := (dC, dI)) (v := .int (y_29 (a 50) 9)) (C := RX12) (T := TX12) (N := 58) hx hb hts (fun _ hh => (List.mem_cons_of_mem _ (List.mem_append_right _ (List.mem_append_left _ hh)))) hown hK hT (fx_50 hX) (by decide) cl_e60 rfl 9 (by decide) (hts (.fieldLink RX12 167 "TypingPoolModel" "aways" "I") (List.mem_cons_of_mem _ (List.mem_append_left _ (List.mem_of_getElem? (i := 21) rfl)))) (fun _ h9 => h9) rfl dX12_ill_60 ?_
      have hc_30 := im_3 hI
      refine lv_aload_n hx hb dX12_ill_63 rfl (lv_at hl 1 rfl) ?_
      have hFc := tw_free hF hS hA
      refine va_calli (va_runV (As := []) (rest := [.int (y_29 (a 50) 9), .ref (a 58)]) ⟨hx, hb, hml, hown, hts⟩ (m_now l dC dI ad av H.size a k τ ln y_29 g_20 u_24  hI hW) (cwV 0 hts (gi_4 (List.mem_cons_of_mem _ (List.mem_append_left _ (List.mem_of_getElem? (i := 23) rfl))) (List.mem_cons_of_mem _ (List.mem_append_left _ (List.mem_of_getElem? (i := 24) rfl))) (List.mem_cons_of_mem _ (List.mem_append_left _ (List.mem_of_getElem? (i := 25) rfl))) (List.mem_cons_of_mem _ (List.mem_append_left _ (List.mem_of_getElem? (i := 4) rfl))) (fun _ hh => (List.mem_cons_of_mem _ (List.mem_append_right _ (List.mem_append_right _ (List.mem_append_right _ (List.mem_append_right _ (List.mem_append_right _ (List.mem_append_right _ (List.mem_append_right _ (List.mem_append_right _ (List.mem_append_left _ hh))))))))))) gd_m_now) rfl rfl rfl (by decide +kernel) ⟨Nat.le_of_ble_eq_true rfl, Nat.le_of_ble_eq_true rfl⟩) ⟨pw_blind, tw_recv hK hT (fx_50 hX) (by decide) cl_e60 rfl, pw_use hT hK hFc hS hM⟩ rfl rfl hl.1 rfl (lv_room (Nat.le_of_ble_eq_true rfl)) dX12_ill_64 ⟨Nat.le_of_ble_eq_true rfl, Nat.le_of_ble_eq_true rfl⟩) hS (fun q _ h => hFc q h) hFc (fun r0 r_31 t H locs ht hvm hw hB hz1 hk1 hS => ?_)
      refine W.widen (k := 0) (n := 0) (Nat.le_of_ble_eq_true rfl) (Nat.le_of_ble_eq_true rfl) ?_
      clear hvm hz1 hk1
      subst hw
      obtain ⟨hf_32, hT⟩ := hB
      rw [ht] at hT
      refine tw_iast hx hb hK hT hF hS 0 (fx_58 hX) (by decide) (fun _ => cl_e68) rfl (z_in hc_30 hbd_28.1 hbd_28.2) dX12_ill_67 (fun H locs hT hS => ?_)
      obtain ⟨y_33, hy_33, hT⟩ : ∃ z : Nat → Nat → Int32, z = up2 y_29 (a 58) ((y_29 (a 50) 9).toNatClampNeg) r_31 ∧ tw (dC, dI) a k τ ln z g_20 H := ⟨_, rfl, hT⟩
      have hG : ag τ [60, 67, 68, 69, 99, 100, 102] y y_33 := by rw [hy_33]; exact hG.up (fx_58 hX) (by decide)
      have hW : IW (u_24 1) (u_24 2) (u_24 9) (y_33 (a 89)) := by rw [hy_33, up2_o (kd_ne (fx_89 hX) (fx_58 hX) (by decide))]; exact hW
      have hWA : IW (u 1) (u 2) (u 9) (y_33 (a 90)) := by rw [hy_33, up2_o (kd_ne (fx_90 hX) (fx_58 hX) (by decide))]; exact hWA
      have hI := hI.ag (S := [68]) (y' := y_33) (by rw [hy_33]; exact ag.one (fx_58 hX)) (by decide)
      clear hc_30
      refine lv_aload_n hx hb dX12_ill_68 rfl (lv_at hl 1 rfl) ?_
      refine tw_get (D := (dC, dI)) (v := .ref (a 59)) (C := RX12) (T := TX12) (N := 58) hx hb hts (fun _ hh => (List.mem_cons_of_mem _ (List.mem_append_right _ (List.mem_append_left _ hh)))) hown hK hT (fx_50 hX) (by decide) cl_e60 rfl 8 (by decide) (hts (.fieldLink RX12 28 "TypingPoolModel" "awayTo" "[I") (List.mem_cons_of_mem _ (List.mem_append_left _ (List.mem_of_getElem? (i := 26) rfl)))) (fun _ h9 => h9) rfl dX12_ill_69 ?_
      refine lv_aload_n hx hb dX12_ill_72 rfl (lv_at hl 1 rfl) ?_
      refine tw_get (D := (dC, dI)) (v := .int (y_33 (a 50) 9)) (C := RX12) (T := TX12) (N := 58) hx hb hts (fun _ hh => (List.mem_cons_of_mem _ (List.mem_append_right _ (List.mem_append_left _ hh)))) hown hK hT (fx_50 hX) (by decide) cl_e60 rfl 9 (by decide) (hts (.fieldLink RX12 167 "TypingPoolModel" "aways" "I") (List.mem_cons_of_mem _ (List.mem_append_left _ (List.mem_of_getElem? (i := 21) rfl)))) (fun _ h9 => h9) rfl dX12_ill_73 ?_
      have hc_34 := im_3 hI
      refine lv_aload_n hx hb dX12_ill_76 rfl (lv_at hl 1 rfl) ?_
      have hFc := tw_free hF hS hA
      refine va_calli (va_runV (As := []) (rest := [.int (y_33 (a 50) 9), .ref (a 59)]) ⟨hx, hb, hml, hown, hts⟩ (m_now l dC dI ad av H.size a k τ ln y_33 g_20 u_24  hI hW) (cwV 0 hts (gi_4 (List.mem_cons_of_mem _ (List.mem_append_left _ (List.mem_of_getElem? (i := 23) rfl))) (List.mem_cons_of_mem _ (List.mem_append_left _ (List.mem_of_getElem? (i := 24) rfl))) (List.mem_cons_of_mem _ (List.mem_append_left _ (List.mem_of_getElem? (i := 25) rfl))) (List.mem_cons_of_mem _ (List.mem_append_left _ (List.mem_of_getElem? (i := 4) rfl))) (fun _ hh => (List.mem_cons_of_mem _ (List.mem_append_right _ (List.mem_append_right _ (List.mem_append_right _ (List.mem_append_right _ (List.mem_append_right _ (List.mem_append_right _ (List.mem_append_right _ (List.mem_append_right _ (List.mem_append_left _ hh))))))))))) gd_m_now) rfl rfl rfl (by decide +kernel) ⟨Nat.le_of_ble_eq_true rfl, Nat.le_of_ble_eq_true rfl⟩) ⟨pw_blind, tw_recv hK hT (fx_50 hX) (by decide) cl_e60 rfl, pw_use hT hK hFc hS hM⟩ rfl rfl hl.1 rfl (lv_room (Nat.le_of_ble_eq_true rfl)) dX12_ill_77 ⟨Nat.le_of_ble_eq_true rfl, Nat.le_of_ble_eq_true rfl⟩) hS (fun q _ h => hFc q h) hFc (fun r0 r_35 t H locs ht hvm hw hB hz1 hk1 hS => ?_)
      refine W.widen (k := 0) (n := 0) (Nat.le_of_ble_eq_true rfl) (Nat.le_of_ble_eq_true rfl) ?_
      clear hvm hz1 hk1
      subst hw
      obtain ⟨hf_36, hT⟩ := hB
      rw [ht] at hT
      refine lv_iload_n hx hb dX12_ill_80 rfl (lv_at hl 3 rfl) ?_
      refine lv_iadd hx hb dX12_ill_81 ?_
      refine lv_topi (fun x_37 ex_37 => ?_)
      have hx_37 := z_add ex_37 rfl rfl (by omega) (by omega)
      refine tw_iast hx hb hK hT hF hS 0 (fx_59 hX) (by decide) (fun _ => cl_e69) rfl (z_in hc_34 hbd_28.1 hbd_28.2) dX12_ill_82 (fun H locs hT hS => ?_)
      obtain ⟨y_38, hy_38, hT⟩ : ∃ z : Nat → Nat → Int32, z = up2 y_33 (a 59) ((y_33 (a 50) 9).toNatClampNeg) x_37 ∧ tw (dC, dI) a k τ ln z g_20 H := ⟨_, rfl, hT⟩
      have hG : ag τ [60, 67, 68, 69, 99, 100, 102] y y_38 := by rw [hy_38]; exact hG.up (fx_59 hX) (by decide)
      have hW : IW (u_24 1) (u_24 2) (u_24 9) (y_38 (a 89)) := by rw [hy_38, up2_o (kd_ne (fx_89 hX) (fx_59 hX) (by decide))]; exact hW
      have hWA : IW (u 1) (u 2) (u 9) (y_38 (a 90)) := by rw [hy_38, up2_o (kd_ne (fx_90 hX) (fx_59 hX) (by decide))]; exact hWA
      have hI := hI.ag (S := [69]) (y' := y_38) (by rw [hy_38]; exact ag.one (fx_59 hX)) (by decide)
      clear hc_34
      refine lv_aload_n hx hb dX12_ill_83 rfl (lv_at hl 1 rfl) ?_
      refine lv_dup hx hb dX12_ill_84 rfl ?_
      refine tw_get (D := (dC, dI)) (v := .int (y_38 (a 50) 9)) (C := RX12) (T := TX12) (N := 58) hx hb hts (fun _ hh => (List.mem_cons_of_mem _ (List.mem_append_right _ (List.mem_append_left _ hh)))) hown hK hT (fx_50 hX) (by decide) cl_e60 rfl 9 (by decide) (hts (.fieldLink RX12 167 "TypingPoolModel" "aways" "I") (List.mem_cons_of_mem _ (List.mem_append_left _ (List.mem_of_getElem? (i := 21) rfl)))) (fun _ h9 => h9) rfl dX12_ill_85 ?_
      have hc_39 := im_3 hI
      refine lv_iconst (v := 1) hx hb dX12_ill_88 (by decide) ?_
      refine lv_iadd hx hb dX12_ill_89 ?_
      refine lv_topi (fun x_40 ex_40 => ?_)
      have hx_40 := z_add ex_40 hc_39 (zk (x := 1) 1 rfl) (by omega) (by omega)
      refine tw_put (D := (dC, dI)) (x := x_40) (ty := .int) (C := RX12) (T := TX12) (N := 58) hx hb hts (fun _ hh => (List.mem_cons_of_mem _ (List.mem_append_right _ (List.mem_append_left _ hh)))) tyX12 tyX12_ok nmX12 hown hK hT hF hS (fx_50 hX) (by decide) cl_e60 rfl 9 (by decide) (hts (.fieldLink RX12 167 "TypingPoolModel" "aways" "I") (List.mem_cons_of_mem _ (List.mem_append_left _ (List.mem_of_getElem? (i := 21) rfl)))) (fun _ h9 => h9) rfl (tyX12_ok 9 (by decide)) rfl rfl (Nat.le_of_ble_eq_true rfl) rfl dX12_ill_90 (fun H locs hT hS => ?_)
      obtain ⟨y_41, hy_41, hT⟩ : ∃ z : Nat → Nat → Int32, z = up2 y_38 (a 50) 9 x_40 ∧ tw (dC, dI) a k τ ln z g_20 H := ⟨_, rfl, hT⟩
      have hG : ag τ [60, 67, 68, 69, 99, 100, 102] y y_41 := by rw [hy_41]; exact hG.up (fx_50 hX) (by decide)
      have hW : IW (u_24 1) (u_24 2) (u_24 9) (y_41 (a 89)) := by rw [hy_41, up2_o (kd_ne (fx_89 hX) (fx_50 hX) (by decide))]; exact hW
      have hWA : IW (u 1) (u 2) (u 9) (y_41 (a 90)) := by rw [hy_41, up2_o (kd_ne (fx_90 hX) (fx_50 hX) (by decide))]; exact hWA
      have hp_42 : x_40.toInt = x_40.toInt := rfl
      have hI := hI.set3 hp_42 (by omega) (by omega)
      rw [← hy_41] at hI
      have hW : IW ((upc u_24 3 x_40.toInt) 1) ((upc u_24 3 x_40.toInt) 2) ((upc u_24 3 x_40.toInt) 9) (y_41 (a 89)) := iw_u hW (by simp [upc]) (by simp [upc]) (by simp [upc])
      clear hc_39
      refine lv_aload_n hx hb dX12_ill_93 rfl (lv_at hl 1 rfl) ?_
      refine lv_iload_n hx hb dX12_ill_94 rfl (lv_at hl 3 rfl) ?_
      have hFc := tw_free hF hS hA
      refine va_callv (va_runV (As := [.int p1]) (rest := []) ⟨hx, hb, hml, hown, hts⟩ (m_go l dC dI ad av H.size a k τ ln y_41 g_20 (upc u_24 3 x_40.toInt) p1 hI (by omega) (show u_24 9 + p1.toInt ≤ 4800 from by omega) hW) (cwV 1 hts (gi_4 (List.mem_cons_of_mem _ (List.mem_append_left _ (List.mem_of_getElem? (i := 11) rfl))) (List.mem_cons_of_mem _ (List.mem_append_left _ (List.mem_of_getElem? (i := 12) rfl))) (List.mem_cons_of_mem _ (List.mem_append_left _ (List.mem_of_getElem? (i := 13) rfl))) (List.mem_cons_of_mem _ (List.mem_append_left _ (List.mem_of_getElem? (i := 4) rfl))) (fun _ hh => (List.mem_cons_of_mem _ (List.mem_append_right _ (List.mem_append_right _ (List.mem_append_right _ (List.mem_append_right _ (List.mem_append_right _ (List.mem_append_left _ hh)))))))) gd_m_go) rfl rfl rfl (by decide +kernel) ⟨Nat.le_of_ble_eq_true rfl, Nat.le_of_ble_eq_true rfl⟩) ⟨pw_blind, tw_recv hK hT (fx_50 hX) (by decide) cl_e60 rfl, pw_use hT hK hFc hS hM⟩ rfl rfl hl.1 rfl (lv_room (Nat.le_of_ble_eq_true rfl)) dX12_ill_95 ⟨Nat.le_of_ble_eq_true rfl, Nat.le_of_ble_eq_true rfl⟩) hS (fun q _ h => hFc q h) hFc (fun u0 t H locs ht hvm hw hB hz1 hk1 hS => ?_)
      refine W.widen (k := 0) (n := 0) (Nat.le_of_ble_eq_true rfl) (Nat.le_of_ble_eq_true rfl) ?_
      clear hvm hz1 hk1
      obtain ⟨u_44, y_45, g_46, huu_44, hgy_45, hggg_46, hI, hW, hf_47, hT⟩ := hB
      rw [ht] at hT
      have hG := hG.tr hgy_45 (by decide)
      have hGg := hGg.tr hggg_46
      have hR := im_r hI
      have : u_44 0 = u_24 0 := (huu_44 0 (by decide)).trans (by simp [upc])
      have : u_44 1 = u_24 1 := (huu_44 1 (by decide)).trans (by simp [upc])
      have : u_44 2 = u_24 2 := (huu_44 2 (by decide)).trans (by simp [upc])
      have : u_44 3 = x_40.toInt := (huu_44 3 (by decide)).trans (by simp [upc])
      have : u_44 4 = u_24 4 := (huu_44 4 (by decide)).trans (by simp [upc])
      have : u_44 5 = u_24 5 := (huu_44 5 (by decide)).trans (by simp [upc])
      have : u_44 6 = u_24 6 := (huu_44 6 (by decide)).trans (by simp [upc])
      have : u_44 7 = u_24 7 := (huu_44 7 (by decide)).trans (by simp [upc])
      have : u_44 8 = u_24 8 := (huu_44 8 (by decide)).trans (by simp [upc])
      have : u_44 10 = u_24 10 := (huu_44 10 (by decide)).trans (by simp [upc])
      have hWA : IW (u 1) (u 2) (u 9) (y_45 (a 90)) := by rw [hgy_45.at (fx_90 hX) (by decide)]; exact hWA
      refine lv_aload_n hx hb dX12_ill_98 rfl (lv_at hl 1 rfl) ?_
      have hFc := tw_free hF hS hA
      refine va_calli (va_runV (As := []) (rest := []) ⟨hx, hb, hml, hown, hts⟩ (m_lates l dC dI ad av H.size a k τ ln y_45 g_46 u_44  hI hW) (cwV 0 hts (gi_4 (List.mem_cons_of_mem _ (List.mem_append_left _ (List.mem_of_getElem? (i := 14) rfl))) (List.mem_cons_of_mem _ (List.mem_append_left _ (List.mem_of_getElem? (i := 15) rfl))) (List.mem_cons_of_mem _ (List.mem_append_left _ (List.mem_of_getElem? (i := 16) rfl))) (List.mem_cons_of_mem _ (List.mem_append_left _ (List.mem_of_getElem? (i := 4) rfl))) (fun _ hh => (List.mem_cons_of_mem _ (List.mem_append_right _ (List.mem_append_right _ (List.mem_append_right _ (List.mem_append_right _ (List.mem_append_right _ (List.mem_append_right _ (List.mem_append_left _ hh))))))))) gd_m_lates) rfl rfl rfl (by decide +kernel) ⟨Nat.le_of_ble_eq_true rfl, Nat.le_of_ble_eq_true rfl⟩) ⟨pw_blind, tw_recv hK hT (fx_50 hX) (by decide) cl_e60 rfl, pw_use hT hK hFc hS hM⟩ rfl rfl hl.1 rfl (lv_room (Nat.le_of_ble_eq_true rfl)) dX12_ill_99 ⟨Nat.le_of_ble_eq_true rfl, Nat.le_of_ble_eq_true rfl⟩) hS (fun q _ h => hFc q h) hFc (fun r0 r_48 t H locs ht hvm hw hB hz1 hk1 hS => ?_)
      refine W.widen (k := 0) (n := 0) (Nat.le_of_ble_eq_true rfl) (Nat.le_of_ble_eq_true rfl) ?_
      clear hvm hz1 hk1
      subst hw
      have hT := hB
      rw [ht] at hT
      refine lv_istore (lv' := [(4, .int r_48), (3, .int r_22), (0, .ref (a 50)), (1, .int p0), (2, .int p1)]) hx hb dX12_ill_102 hl (by decide) rfl (fun ls hl => ?_)
      refine lv_aload_n hx hb dX12_ill_104 rfl (lv_at hl 2 rfl) ?_
      have hFc := tw_free hF hS hA
      refine va_callv (va_runV (As := []) (rest := []) ⟨hx, hb, hml, hown, hts⟩ (m_putBack l dC dI ad av H.size a k τ ln y_45 g_46 u_44 (u 9) hI (iw_u hWA (by first | omega | (simp [upc]; omega) | simp [upc]) (by first | omega | (simp [upc]; omega) | simp [upc]) rfl) ⟨hR0.2.2.2.2.2.2.2.2.1.1, hR0.2.2.2.2.2.2.2.2.1.2⟩) (cwV 0 hts (gi_4 (List.mem_cons_of_mem _ (List.mem_append_left _ (List.mem_of_getElem? (i := 17) rfl))) (List.mem_cons_of_mem _ (List.mem_append_left _ (List.mem_of_getElem? (i := 18) rfl))) (List.mem_cons_of_mem _ (List.mem_append_left _ (List.mem_of_getElem? (i := 19) rfl))) (List.mem_cons_of_mem _ (List.mem_append_left _ (List.mem_of_getElem? (i := 4) rfl))) (fun _ hh => (List.mem_cons_of_mem _ (List.mem_append_right _ (List.mem_append_right _ (List.mem_append_right _ (List.mem_append_right _ (List.mem_append_right _ (List.mem_append_right _ (List.mem_append_right _ (List.mem_append_left _ hh)))))))))) gd_m_putBack) rfl rfl rfl (by decide +kernel) ⟨Nat.le_of_ble_eq_true rfl, Nat.le_of_ble_eq_true rfl⟩) ⟨pw_blind, tw_recv hK hT (fx_50 hX) (by decide) cl_e60 rfl, pw_use hT hK hFc hS hM⟩ rfl rfl hl.1 rfl (lv_room (Nat.le_of_ble_eq_true rfl)) dX12_ill_105 ⟨Nat.le_of_ble_eq_true rfl, Nat.le_of_ble_eq_true rfl⟩) hS (fun q _ h => hFc q h) hFc (fun u0 t H locs ht hvm hw hB hz1 hk1 hS => ?_)
      refine W.widen (k := 0) (n := 0) (Nat.le_of_ble_eq_true rfl) (Nat.le_of_ble_eq_true rfl) ?_
      clear hvm hz1 hk1
      obtain ⟨u_50, y_51, huu_50, hgy_51, hI, hW, hf_52, hT⟩ := hB
      rw [ht] at hT
      have hG := hG.tr hgy_51 (by decide)
      have hR := im_r hI
      have : u_50 0 = u_44 0 := huu_50 0 (by decide)
      have : u_50 1 = u_44 1 := huu_50 1 (by decide)
      have : u_50 2 = u_44 2 := huu_50 2 (by decide)
      have : u_50 3 = u_44 3 := huu_50 3 (by decide)
      have : u_50 4 = u_44 4 := huu_50 4 (by decide)
      have : u_50 5 = u_44 5 := huu_50 5 (by decide)
      have : u_50 6 = u_44 6 := huu_50 6 (by decide)
      have : u_50 7 = u_44 7 := huu_50 7 (by decide)
      have : u_50 8 = u_44 8 := huu_50 8 (by decide)
      have : u_50 10 = u_44 10 := huu_50 10 (by decide)
      have hWA : IW (u 1) (u 2) (u 9) (y_51 (a 90)) := by rw [hgy_51.at (fx_90 hX) (by decide)]; exact hWA
      refine lv_aload_n hx hb dX12_ill_108 rfl (lv_at hl 2 rfl) ?_
      refine lv_dup hx hb dX12_ill_109 rfl ?_
      refine tw_get (D := (dC, dI)) (v := .int (y_51 (a 50) 9)) (C := RX12) (T := TX12) (N := 58) hx hb hts (fun _ hh => (List.mem_cons_of_mem _ (List.mem_append_right _ (List.mem_append_left _ hh)))) hown hK hT (fx_50 hX) (by decide) cl_e60 rfl 9 (by decide) (hts (.fieldLink RX12 167 "TypingPoolModel" "aways" "I") (List.mem_cons_of_mem _ (List.mem_append_left _ (List.mem_of_getElem? (i := 21) rfl)))) (fun _ h9 => h9) rfl dX12_ill_110 ?_
      have hc_53 := im_3 hI
      refine lv_iconst (v := 1) hx hb dX12_ill_113 (by decide) ?_
      refine lv_isub hx hb dX12_ill_114 ?_
      refine lv_topi (fun x_54 ex_54 => ?_)
      have hx_54 := z_sub ex_54 hc_53 (zk (x := 1) 1 rfl) (by omega) (by omega)
      refine tw_put (D := (dC, dI)) (x := x_54) (ty := .int) (C := RX12) (T := TX12) (N := 58) hx hb hts (fun _ hh => (List.mem_cons_of_mem _ (List.mem_append_right _ (List.mem_append_left _ hh)))) tyX12 tyX12_ok nmX12 hown hK hT hF hS (fx_50 hX) (by decide) cl_e60 rfl 9 (by decide) (hts (.fieldLink RX12 167 "TypingPoolModel" "aways" "I") (List.mem_cons_of_mem _ (List.mem_append_left _ (List.mem_of_getElem? (i := 21) rfl)))) (fun _ h9 => h9) rfl (tyX12_ok 9 (by decide)) rfl rfl (Nat.le_of_ble_eq_true rfl) rfl dX12_ill_115 (fun H locs hT hS => ?_)
      obtain ⟨y_55, hy_55, hT⟩ : ∃ z : Nat → Nat → Int32, z = up2 y_51 (a 50) 9 x_54 ∧ tw (dC, dI) a k τ ln z g_46 H := ⟨_, rfl, hT⟩
      have hG : ag τ [60, 67, 68, 69, 99, 100, 102] y y_55 := by rw [hy_55]; exact hG.up (fx_50 hX) (by decide)
      have hW : IW (u_50 1) (u_50 2) (u_50 9) (y_55 (a 89)) := by rw [hy_55, up2_o (kd_ne (fx_89 hX) (fx_50 hX) (by decide))]; exact hW
      have hWA : IW (u 1) (u 2) (u 9) (y_55 (a 90)) := by rw [hy_55, up2_o (kd_ne (fx_90 hX) (fx_50 hX) (by decide))]; exact hWA
      have hp_56 : x_54.toInt = x_54.toInt := rfl
      have hI := hI.set3 hp_56 (by omega) (by omega)
      rw [← hy_55] at hI
      have hW : IW ((upc u_50 3 x_54.toInt) 1) ((upc u_50 3 x_54.toInt) 2) ((upc u_50 3 x_54.toInt) 9) (y_55 (a 89)) := iw_u hW (by simp [upc]) (by simp [upc]) (by simp [upc])
      clear hc_53
      refine lv_iload hx hb dX12_ill_118 (lv_at hl 0 rfl) ?_
      refine lv_iload_n hx hb dX12_ill_120 rfl (lv_at hl 1 rfl) ?_
      refine lv_isub hx hb dX12_ill_121 ?_
      refine lv_topi (fun x_57 ex_57 => ?_)
      have hrv : x_57.toInt = x_57.toInt := rfl
      exact W.iret (v := x_57) hx hb hr (fun t ht hW9 => ⟨⟨x_57, x_57, rfl, rfl, ⟨(upc u_50 3 x_54.toInt), y_55, g_46, (by intro i hi; simp only [List.mem_cons, List.not_mem_nil, or_false, not_or] at hi; rw [upc_o (by omega)]; rw [huu_50 i (by simp <;> omega)]; rw [huu_44 i (by simp <;> omega)]; rw [upc_o (by omega)]; rw [huu_24 i (by simp <;> omega)]; rw [huu_18 i (by simp <;> omega)]), hG, hGg, hI, hW, (by rw [upc_i]; omega), (by rw [upc_o (by decide)]; omega), tw_at ht hT⟩⟩, hS.F ht⟩) hS.2.2 dX12_ill_122
    · refine lq_top (v := 0) hre ?_
      rw [ht] at hT
      try simp only [hp_7] at hf_12
      clear hp_7
      refine lv_if_ne (tgt := 27) hx hb dX12_ill_19 (by decide) (fun c_58 => absurd c_58 (by decide)) (fun c_58 => ?_)
      refine lv_aload_n hx hb dX12_ill_22 rfl (lv_at hl 0 rfl) ?_
      have hFc := tw_free hF hS hA
      refine va_calli (va_runV (As := []) (rest := []) ⟨hx, hb, hml, hown, hts⟩ (m_lost l dC dI ad av H.size a k τ ln y_1 g u  hI hW) (cwV 0 hts (gi_4 (List.mem_cons_of_mem _ (List.mem_append_left _ (List.mem_of_getElem? (i := 27) rfl))) (List.mem_cons_of_mem _ (List.mem_append_left _ (List.mem_of_getElem? (i := 28) rfl))) (List.mem_cons_of_mem _ (List.mem_append_left _ (List.mem_of_getElem? (i := 29) rfl))) (List.mem_cons_of_mem _ (List.mem_append_left _ (List.mem_of_getElem? (i := 4) rfl))) (fun _ hh => (List.mem_cons_of_mem _ (List.mem_append_right _ (List.mem_append_right _ (List.mem_append_right _ (List.mem_append_right _ (List.mem_append_right _ (List.mem_append_right _ (List.mem_append_right _ (List.mem_append_right _ (List.mem_append_right _ (List.mem_append_left _ hh)))))))))))) gd_m_lost) rfl rfl rfl (by decide +kernel) ⟨Nat.le_of_ble_eq_true rfl, Nat.le_of_ble_eq_true rfl⟩) ⟨pw_blind, tw_recv hK hT (fx_50 hX) (by decide) cl_e60 rfl, pw_use hT hK hFc hS hM⟩ rfl rfl hl.1 rfl (lv_room (Nat.le_of_ble_eq_true rfl)) dX12_ill_23 ⟨Nat.le_of_ble_eq_true rfl, Nat.le_of_ble_eq_true rfl⟩) hS (fun q _ h => hFc q h) hFc (fun r0 r_59 t H locs ht hvm hw hB hz1 hk1 hS => ?_)
      refine W.widen (k := 0) (n := 0) (Nat.le_of_ble_eq_true rfl) (Nat.le_of_ble_eq_true rfl) ?_
      clear hvm hz1 hk1
      subst hw
      obtain ⟨y_60, hgy_60, hI, hT⟩ := hB
      rw [ht] at hT
      have hG := hG.tr hgy_60 (by decide)
      have hW : IW (u 1) (u 2) (u 9) (y_60 (a 89)) := by rw [hgy_60.at (fx_89 hX) (by decide)]; exact hW
      have hrv : r_59.toInt = r_59.toInt := rfl
      exact W.iret (v := r_59) hx hb hr (fun t ht hW9 => ⟨⟨r_59, r_59, rfl, rfl, ⟨u, y_60, g, (fun _ _ => rfl), hG, hGg, hI, hW, rfl, rfl, tw_at ht hT⟩⟩, hS.F ht⟩) hS.2.2 dX12_ill_26
  · refine lq_top (v := 0) hre ?_
    rw [ht] at hT
    refine lv_if_eq (tgt := 22) hx hb dX12_ill_10 (by decide) (fun c_61 => ?_) (fun c_61 => absurd c_61 (by decide))
    refine lv_aload_n hx hb dX12_ill_22 rfl (lv_at hl 0 rfl) ?_
    have hFc := tw_free hF hS hA
    refine va_calli (va_runV (As := []) (rest := []) ⟨hx, hb, hml, hown, hts⟩ (m_lost l dC dI ad av H.size a k τ ln y_1 g u  hI hW) (cwV 0 hts (gi_4 (List.mem_cons_of_mem _ (List.mem_append_left _ (List.mem_of_getElem? (i := 27) rfl))) (List.mem_cons_of_mem _ (List.mem_append_left _ (List.mem_of_getElem? (i := 28) rfl))) (List.mem_cons_of_mem _ (List.mem_append_left _ (List.mem_of_getElem? (i := 29) rfl))) (List.mem_cons_of_mem _ (List.mem_append_left _ (List.mem_of_getElem? (i := 4) rfl))) (fun _ hh => (List.mem_cons_of_mem _ (List.mem_append_right _ (List.mem_append_right _ (List.mem_append_right _ (List.mem_append_right _ (List.mem_append_right _ (List.mem_append_right _ (List.mem_append_right _ (List.mem_append_right _ (List.mem_append_right _ (List.mem_append_left _ hh)))))))))))) gd_m_lost) rfl rfl rfl (by decide +kernel) ⟨Nat.le_of_ble_eq_true rfl, Nat.le_of_ble_eq_true rfl⟩) ⟨pw_blind, tw_recv hK hT (fx_50 hX) (by decide) cl_e60 rfl, pw_use hT hK hFc hS hM⟩ rfl rfl hl.1 rfl (lv_room (Nat.le_of_ble_eq_true rfl)) dX12_ill_23 ⟨Nat.le_of_ble_eq_true rfl, Nat.le_of_ble_eq_true rfl⟩) hS (fun q _ h => hFc q h) hFc (fun r0 r_62 t H locs ht hvm hw hB hz1 hk1 hS => ?_)
    refine W.widen (k := 0) (n := 0) (Nat.le_of_ble_eq_true rfl) (Nat.le_of_ble_eq_true rfl) ?_
    clear hvm hz1 hk1
    subst hw
    obtain ⟨y_63, hgy_63, hI, hT⟩ := hB
    rw [ht] at hT
    have hG := hG.tr hgy_63 (by decide)
    have hW : IW (u 1) (u 2) (u 9) (y_63 (a 89)) := by rw [hgy_63.at (fx_89 hX) (by decide)]; exact hW
    have hrv : r_62.toInt = r_62.toInt := rfl
    exact W.iret (v := r_62) hx hb hr (fun t ht hW9 => ⟨⟨r_62, r_62, rfl, rfl, ⟨u, y_63, g, (fun _ _ => rfl), hG, hGg, hI, hW, rfl, rfl, tw_at ht hT⟩⟩, hS.F ht⟩) hS.2.2 dX12_ill_26
def wo_m_ends : List Cond := [.fieldLink RX12 120 "TypingPoolModel" "there" "[I"]
def wm_m_ends : List Cond := .code yX12_ends cX12_ends 9 (some .int) :: (wo_m_ends ++ (wsX120 ++ ([] : List Cond)))
theorem gd_m_ends : ∀ w ∈ wm_m_ends, goodWord w = true := gd_c rfl (gd_a (by decide) (gd_a gd_wsX120 gd_nil))
set_option maxRecDepth 20000 in
theorem im_m_ends : ∀ w ∈ wm_m_ends, w ∈ lw_tbl := im_c (in_r [.code yX12_ends cX12_ends 9 (some .int)] [1702] (by decide +kernel)) (in_app (in_r wo_m_ends [1289] (by decide +kernel)) (in_app im_wsX120 im_nil))
set_option maxHeartbeats 4000000 in
set_option maxRecDepth 100000 in
theorem m_ends (l : Launch) (dC : Nat → ClassId) (dI : Nat → Nat → Nat) (ad av : Nat → Nat) (sz : Nat) (a : Nat → Nat) (k : Nat → ClassId) (τ ln : Nat → Nat) (y : Nat → Nat → Int32) (g : Nat → Nat → Option Nat) (u : Nat → Int) (p0 : Int32) (p1 : Int32) (p2 : Int32) (hI : IM a u τ y) (hlp0 : 0 ≤ p0.toInt) (hup0 : p0.toInt < 8) (he0 : 0 ≤ p1.toInt) (he1 : p1.toInt ≤ 400000) (he2 : 0 ≤ p2.toInt) (he3 : p2.toInt ≤ 29000) (hth : vb 38408 0 4800 (y (a 99))) (hW : IW (u 1) (u 2) (u 9) (y (a 89))) : Met l yX12_ends wm_m_ends ({ frames := 0, cells := 0, slots := 0, locals := 0 }) (pw_ ad av (dC, dI) sz [.ref (a 50), .int p0, .int p1, .int p2] a k τ ln y g) (va_Qi (fun (r u : Int32) => u = r) (fun (r : Int32) (t : State) => (0 ≤ r.toInt ∧ r.toInt ≤ p1.toInt + p2.toInt + 9600 ∧ tw (dC, dI) a k τ ln y g t.heap)) (fr τ sz)) 0 0 (fr τ sz) := by
  refine Met.ofW (cc := cX12_ends) (maxL := 9) (ret := (some .int)) (by decide) rfl ?_
  intro p e s m args below meth c s₁ B hml hv
  obtain ⟨rfl, hsz, hT, hK, hM⟩ := hv
  have hx := B.exec
  have hb := B.bytes
  have hr := B.returns
  have hts := atoms_spec (ws := wm_m_ends) B.pre
  have hown : s.vm.findClass RX12 = some m.cls := findClass_of_methodNamed B.named
  have hlocks := B.notSynchronized
  subst hsz
  generalize hAe : fr τ s.heap.size = A at hM ⊢
  have hA : ∀ q : Nat, s.heap.size ≤ q → A q := fun q h => by rw [← hAe]; exact Or.inr h
  have hF : ∀ q, τ q ≠ 0 → A q := fun q h => by rw [← hAe]; exact Or.inl h
  have hS : va_S A s.heap s.heap [] := va_S.rf
  have hX := hI.1
  have hR := im_r hI
  have hl := lv_entry ([.ref (a 50), .int p0, .int p1, .int p2]) (n := 9) (Nat.le_of_ble_eq_true rfl)
  rw [lg_entry_eq]
  generalize (lg_sl ([.ref (a 50), .int p0, .int p1, .int p2]) ++ List.replicate (9 - (lg_sl ([.ref (a 50), .int p0, .int p1, .int p2])).length) Slot.unset).toArray = ls at hl ⊢
  have hl : lv_has ls 9 [(0, .ref (a 50)), (1, .int p0), (2, .int p1), (3, .int p2)] := hl
  refine lv_iload_n hx hb dX12_ends_0 rfl (lv_at hl 2 rfl) ?_
  refine lv_sipush (v := 4800) hx hb dX12_ends_1 (by decide) ?_
  refine lv_icmp_lt (tgt := 11) hx hb dX12_ends_4 (by decide) (fun c_1 => ?_) (fun c_1 => ?_)
  · have nc_1 := z_lt rfl (zk (x := 4800) 4800 rfl) c_1
    refine lv_iload_n hx hb dX12_ends_11 rfl (lv_at hl 1 rfl) ?_
    refine lv_sipush (v := 4801) hx hb dX12_ends_12 (by decide) ?_
    refine lv_imul hx hb dX12_ends_15 ?_
    refine lv_topi (fun x_2 ex_2 => ?_)
    have hx_2 := z_mul ex_2 rfl (zk (x := 4801) 4801 rfl) (by omega) (by omega)
    refine lv_istore (lv' := [(4, .int x_2), (0, .ref (a 50)), (1, .int p0), (2, .int p1), (3, .int p2)]) hx hb dX12_ends_16 hl (by decide) rfl (fun ls hl => ?_)
    refine lv_aload_n hx hb dX12_ends_18 rfl (lv_at hl 1 rfl) ?_
    refine tw_get (D := (dC, dI)) (v := .ref (a 99)) (C := RX12) (T := TX12) (N := 58) hx hb hts (fun _ hh => (List.mem_cons_of_mem _ (List.mem_append_right _ (List.mem_append_left _ hh)))) hown hK hT (fx_50 hX) (by decide) cl_e60 rfl 48 (by decide) (hts (.fieldLink RX12 120 "TypingPoolModel" "there" "[I") (List.mem_cons_of_mem _ (List.mem_append_left _ (List.mem_of_getElem? (i := 0) rfl)))) (fun _ h9 => h9) rfl dX12_ends_19 ?_
    refine lv_iload hx hb dX12_ends_22 (lv_at hl 0 rfl) ?_
    refine lv_iload_n hx hb dX12_ends_24 rfl (lv_at hl 3 rfl) ?_
    refine lv_iadd hx hb dX12_ends_25 ?_
    refine lv_topi (fun x_3 ex_3 => ?_)
    have hx_3 := z_add ex_3 rfl rfl (by omega) (by omega)
    refine tw_iald hx hb hK hT 0 (fx_99 hX) (by decide) cl_e109 rfl (z_in rfl (by omega) (by omega)) dX12_ends_26 ?_
    have hv_4 := vb_at hth (x := x_3) rfl (by omega) (by omega)
    refine lv_iload_n hx hb dX12_ends_27 rfl (lv_at hl 4 rfl) ?_
    refine lv_iadd hx hb dX12_ends_28 ?_
    refine lv_topi (fun x_5 ex_5 => ?_)
    have hx_5 := z_add ex_5 rfl rfl (by omega) (by omega)
    refine lv_istore (lv' := [(5, .int x_5), (4, .int x_2), (0, .ref (a 50)), (1, .int p0), (2, .int p1), (3, .int p2)]) hx hb dX12_ends_29 hl (by decide) rfl (fun ls hl => ?_)
    refine lv_aload_n hx hb dX12_ends_31 rfl (lv_at hl 2 rfl) ?_
    refine tw_get (D := (dC, dI)) (v := .ref (a 99)) (C := RX12) (T := TX12) (N := 58) hx hb hts (fun _ hh => (List.mem_cons_of_mem _ (List.mem_append_right _ (List.mem_append_left _ hh)))) hown hK hT (fx_50 hX) (by decide) cl_e60 rfl 48 (by decide) (hts (.fieldLink RX12 120 "TypingPoolModel" "there" "[I") (List.mem_cons_of_mem _ (List.mem_append_left _ (List.mem_of_getElem? (i := 0) rfl)))) (fun _ h9 => h9) rfl dX12_ends_32 ?_
    refine lv_iload hx hb dX12_ends_35 (lv_at hl 1 rfl) ?_
    refine lv_sipush (v := 4800) hx hb dX12_ends_37 (by decide) ?_
    refine lv_iadd hx hb dX12_ends_40 ?_
    refine lv_topi (fun x_6 ex_6 => ?_)
    have hx_6 := z_add ex_6 rfl (zk (x := 4800) 4800 rfl) (by omega) (by omega)
    refine tw_iald hx hb hK hT 0 (fx_99 hX) (by decide) cl_e109 rfl (z_in rfl (by omega) (by omega)) dX12_ends_41 ?_
    have hv_7 := vb_at hth (x := x_6) rfl (by omega) (by omega)
    refine lv_iload hx hb dX12_ends_42 (lv_at hl 0 rfl) ?_
    refine lv_icmp_ge (tgt := 66) hx hb dX12_ends_44 (by decide) (fun c_8 => ?_) (fun c_8 => ?_)
    · have nc_8 := z_le rfl rfl c_8
      refine lv_iload_n hx hb dX12_ends_66 rfl (lv_at hl 4 rfl) ?_
      refine lv_istore (lv' := [(6, .int p1), (5, .int x_5), (4, .int x_2), (0, .ref (a 50)), (1, .int p0), (2, .int p1), (3, .int p2)]) hx hb dX12_ends_67 hl (by decide) rfl (fun ls hl => ?_)
      refine lv_sipush (v := 4800) hx hb dX12_ends_69 (by decide) ?_
      refine lv_istore (lv' := [(7, .int 4800), (6, .int p1), (5, .int x_5), (4, .int x_2), (0, .ref (a 50)), (1, .int p0), (2, .int p1), (3, .int p2)]) hx hb dX12_ends_72 hl (by decide) rfl (fun ls hl => ?_)
      have loop_74 : ∀ (n : Nat) (i6 : Int32) (i7 : Int32) (H : Heap) (locs : List Loc) (ls : Array Slot), (i7.toInt - i6.toInt).toNat < n → 0 ≤ i6.toInt → i6.toInt ≤ i7.toInt → i7.toInt ≤ 4800 → tw (dC, dI) a k τ ln y g H → va_S A s.heap H locs → lv_has ls 9 [(0, .ref (a 50)), (1, .int p0), (2, .int p1), (3, .int p2), (4, .int x_2), (5, .int x_5), (6, .int i6), (7, .int i7)] → W p l e (headSpec wm_m_ends ({ frames := 0, cells := 0, slots := 0, locals := 0 })).room s m ([.ref (a 50), .int p0, .int p1, .int p2] : List Value).toArray below meth c H locs 0 0 (MQ below (va_Qi (fun (r u : Int32) => u = r) (fun (r : Int32) (t : State) => (0 ≤ r.toInt ∧ r.toInt ≤ p1.toInt + p2.toInt + 9600 ∧ tw (dC, dI) a k τ ln y g t.heap)) A) ([.ref (a 50), .int p0, .int p1, .int p2] : List Value).toArray s 0 0 A) (F0 m 74 ls []) := by
        intro n
        induction n with
        | zero => intro i6 i7 H locs ls hlt; exact absurd hlt (Nat.not_lt_zero _)
        | succ n ih_74 =>
          intro i6 i7 H locs ls hlt hi74_0 hi74_1 hi74_2 hT hS hl
          refine lv_iload hx hb dX12_ends_74 (lv_at hl 6 rfl) ?_
          refine lv_iload hx hb dX12_ends_76 (lv_at hl 7 rfl) ?_
          refine lv_icmp_ge (tgt := 121) hx hb dX12_ends_78 (by decide) (fun c_9 => ?_) (fun c_9 => ?_)
          · have nc_9 := z_le rfl rfl c_9
            refine lv_iload hx hb dX12_ends_121 (lv_at hl 6 rfl) ?_
            have hrv : i6.toInt = i6.toInt := rfl
            exact W.iret (v := i6) hx hb hr (fun t ht hW9 => ⟨⟨i6, i6, rfl, rfl, ⟨by omega, by omega, tw_at ht hT⟩⟩, hS.F ht⟩) hS.2.2 dX12_ends_123
          · have nc_9 := z_nle rfl rfl c_9
            refine lv_iload hx hb dX12_ends_81 (lv_at hl 6 rfl) ?_
            refine lv_iload hx hb dX12_ends_83 (lv_at hl 7 rfl) ?_
            refine lv_iadd hx hb dX12_ends_85 ?_
            refine lv_topi (fun x_10 ex_10 => ?_)
            have hx_10 := z_add ex_10 rfl rfl (by omega) (by omega)
            refine lv_iconst (v := 2) hx hb dX12_ends_86 (by decide) ?_
            refine lv_idiv hx hb dX12_ends_87 (by decide) ?_
            refine lv_topi (fun x_11 ex_11 => ?_)
            have hx_11 := z_div2 ex_11 rfl (by omega)
            refine lv_istore (lv' := [(8, .int x_11), (0, .ref (a 50)), (1, .int p0), (2, .int p1), (3, .int p2), (4, .int x_2), (5, .int x_5), (6, .int i6), (7, .int i7)]) hx hb dX12_ends_88 hl (by decide) rfl (fun ls hl => ?_)
            refine lv_aload_n hx hb dX12_ends_90 rfl (lv_at hl 1 rfl) ?_
            refine tw_get (D := (dC, dI)) (v := .ref (a 99)) (C := RX12) (T := TX12) (N := 58) hx hb hts (fun _ hh => (List.mem_cons_of_mem _ (List.mem_append_right _ (List.mem_append_left _ hh)))) hown hK hT (fx_50 hX) (by decide) cl_e60 rfl 48 (by decide) (hts (.fieldLink RX12 120 "TypingPoolModel" "there" "[I") (List.mem_cons_of_mem _ (List.mem_append_left _ (List.mem_of_getElem? (i := 0) rfl)))) (fun _ h9 => h9) rfl dX12_ends_91 ?_
            refine lv_iload hx hb dX12_ends_94 (lv_at hl 5 rfl) ?_
            refine lv_iload hx hb dX12_ends_96 (lv_at hl 0 rfl) ?_
            refine lv_iadd hx hb dX12_ends_98 ?_
            refine lv_topi (fun x_12 ex_12 => ?_)
            have hx_12 := z_add ex_12 rfl rfl (by omega) (by omega)
            refine tw_iald hx hb hK hT 0 (fx_99 hX) (by decide) cl_e109 rfl (z_in rfl (by omega) (by omega)) dX12_ends_99 ?_
            have hv_13 := vb_at hth (x := x_12) rfl (by omega) (by omega)
            refine lv_iload hx hb dX12_ends_100 (lv_at hl 6 rfl) ?_
            refine lv_icmp_lt (tgt := 112) hx hb dX12_ends_102 (by decide) (fun c_14 => ?_) (fun c_14 => ?_)
            · have nc_14 := z_lt rfl rfl c_14
              refine lv_iload hx hb dX12_ends_112 (lv_at hl 0 rfl) ?_
              refine lv_iconst (v := 1) hx hb dX12_ends_114 (by decide) ?_
              refine lv_iadd hx hb dX12_ends_115 ?_
              refine lv_topi (fun x_15 ex_15 => ?_)
              have hx_15 := z_add ex_15 rfl (zk (x := 1) 1 rfl) (by omega) (by omega)
              refine lv_istore (lv' := [(6, .int x_15), (8, .int x_11), (0, .ref (a 50)), (1, .int p0), (2, .int p1), (3, .int p2), (4, .int x_2), (5, .int x_5), (7, .int i7)]) hx hb dX12_ends_116 hl (by decide) rfl (fun ls hl => ?_)
              refine lv_goto (tgt := 74) hx hb dX12_ends_118 (by decide) ?_
              exact ih_74  x_15 i7 H _ ls (by omega) (by omega) (by omega) (by omega) hT hS (lv_sub hl [2, 3, 4, 5, 6, 7, 0, 8] rfl)
            · have nc_14 := z_nlt rfl rfl c_14
              refine lv_iload hx hb dX12_ends_105 (lv_at hl 0 rfl) ?_
              refine lv_istore (lv' := [(7, .int x_11), (8, .int x_11), (0, .ref (a 50)), (1, .int p0), (2, .int p1), (3, .int p2), (4, .int x_2), (5, .int x_5), (6, .int i6)]) hx hb dX12_ends_107 hl (by decide) rfl (fun ls hl => ?_)
              refine lv_goto (tgt := 118) hx hb dX12_ends_109 (by decide) ?_
              refine lv_goto (tgt := 74) hx hb dX12_ends_118 (by decide) ?_
              exact ih_74  i6 x_11 H _ ls (by omega) (by omega) (by omega) (by omega) hT hS (lv_sub hl [2, 3, 4, 5, 6, 7, 8, 0] rfl)
      have hp_16 : (4800 : Int32).toInt = 4800 := (zk (x := 4800) 4800 rfl)
      exact loop_74 _ p1 (4800 : Int32) s.heap _ ls (Nat.lt_succ_self _) (by omega) (by omega) (by omega) hT hS (lv_sub hl [4, 5, 6, 7, 3, 2, 1, 0] rfl)
    · have nc_8 := z_nle rfl rfl c_8
      refine lv_sipush (v := 4800) hx hb dX12_ends_47 (by decide) ?_
      refine lv_iload hx hb dX12_ends_50 (lv_at hl 0 rfl) ?_
      refine lv_iadd hx hb dX12_ends_52 ?_
      refine lv_topi (fun x_17 ex_17 => ?_)
      have hx_17 := z_add ex_17 (zk (x := 4800) 4800 rfl) rfl (by omega) (by omega)
      refine lv_aload_n hx hb dX12_ends_53 rfl (lv_at hl 2 rfl) ?_
      refine tw_get (D := (dC, dI)) (v := .ref (a 99)) (C := RX12) (T := TX12) (N := 58) hx hb hts (fun _ hh => (List.mem_cons_of_mem _ (List.mem_append_right _ (List.mem_append_left _ hh)))) hown hK hT (fx_50 hX) (by decide) cl_e60 rfl 48 (by decide) (hts (.fieldLink RX12 120 "TypingPoolModel" "there" "[I") (List.mem_cons_of_mem _ (List.mem_append_left _ (List.mem_of_getElem? (i := 0) rfl)))) (fun _ h9 => h9) rfl dX12_ends_54 ?_
      refine lv_iload hx hb dX12_ends_57 (lv_at hl 1 rfl) ?_
      refine lv_sipush (v := 4800) hx hb dX12_ends_59 (by decide) ?_
      refine lv_iadd hx hb dX12_ends_62 ?_
      refine lv_topi (fun x_18 ex_18 => ?_)
      have hx_18 := z_add ex_18 rfl (zk (x := 4800) 4800 rfl) (by omega) (by omega)
      refine tw_iald hx hb hK hT 0 (fx_99 hX) (by decide) cl_e109 rfl (z_in rfl (by omega) (by omega)) dX12_ends_63 ?_
      have hv_19 := vb_at hth (x := x_18) rfl (by omega) (by omega)
      refine lv_isub hx hb dX12_ends_64 ?_
      refine lv_topi (fun x_20 ex_20 => ?_)
      have hx_20 := z_sub ex_20 rfl rfl (by omega) (by omega)
      have hrv : x_20.toInt = x_20.toInt := rfl
      exact W.iret (v := x_20) hx hb hr (fun t ht hW9 => ⟨⟨x_20, x_20, rfl, rfl, ⟨by omega, by omega, tw_at ht hT⟩⟩, hS.F ht⟩) hS.2.2 dX12_ends_65
  · have nc_1 := z_nlt rfl (zk (x := 4800) 4800 rfl) c_1
    refine lv_iload_n hx hb dX12_ends_7 rfl (lv_at hl 2 rfl) ?_
    refine lv_iload_n hx hb dX12_ends_8 rfl (lv_at hl 3 rfl) ?_
    refine lv_iadd hx hb dX12_ends_9 ?_
    refine lv_topi (fun x_21 ex_21 => ?_)
    have hx_21 := z_add ex_21 rfl rfl (by omega) (by omega)
    have hrv : x_21.toInt = x_21.toInt := rfl
    exact W.iret (v := x_21) hx hb hr (fun t ht hW9 => ⟨⟨x_21, x_21, rfl, rfl, ⟨by omega, by omega, tw_at ht hT⟩⟩, hS.F ht⟩) hS.2.2 dX12_ends_10
def wo_m_keep : List Cond := [.fieldLink RX12 366 "TypingPoolModel" "isFound" "Z", .fieldLink RX12 370 "TypingPoolModel" "bestLate" "I", .fieldLink RX12 373 "TypingPoolModel" "bestSum" "I", .fieldLink RX12 132 "TypingPoolModel" "bestRow" "[I", .fieldLink RX12 129 "TypingPoolModel" "tryRow" "[I"]
def wm_m_keep : List Cond := .code yX12_keep cX12_keep 5 none :: (wo_m_keep ++ (wsX120 ++ ([] : List Cond)))
theorem gd_m_keep : ∀ w ∈ wm_m_keep, goodWord w = true := gd_c rfl (gd_a (by decide) (gd_a gd_wsX120 gd_nil))
set_option maxRecDepth 20000 in
theorem im_m_keep : ∀ w ∈ wm_m_keep, w ∈ lw_tbl := im_c (in_r [.code yX12_keep cX12_keep 5 none] [1710] (by decide +kernel)) (in_app (in_r wo_m_keep [1298, 1296, 1297, 1295, 1294] (by decide +kernel)) (in_app im_wsX120 im_nil))
set_option maxHeartbeats 4000000 in
set_option maxRecDepth 100000 in
theorem m_keep (l : Launch) (dC : Nat → ClassId) (dI : Nat → Nat → Nat) (ad av : Nat → Nat) (sz : Nat) (a : Nat → Nat) (k : Nat → ClassId) (τ ln : Nat → Nat) (y : Nat → Nat → Int32) (g : Nat → Nat → Option Nat) (u : Nat → Int) (p0 : Int32) (p1 : Int32) (p2 : Int32) (hI : IM a u τ y) (hl0 : 0 ≤ p0.toInt) (hu0 : p0.toInt ≤ 8) (hW : IW (u 1) (u 2) (u 9) (y (a 89))) : Met l yX12_keep wm_m_keep ({ frames := 0, cells := 0, slots := 0, locals := 0 }) (pw_ ad av (dC, dI) sz [.ref (a 50), .int p0, .int p1, .int p2] a k τ ln y g) (va_Qv (fun (_ : Unit) => True) (fun (_ : Unit) (t : State) => (∃ (y' : Nat → Nat → Int32), ag τ [60, 115] y y' ∧ IM a u τ y' ∧ (y' (a 50) 51).toInt = (y (a 50) 51).toInt ∧ (y' (a 50) 52).toInt = (y (a 50) 52).toInt ∧ tw (dC, dI) a k τ ln y' g t.heap)) (fr τ sz)) 0 0 (fr τ sz) := by
  refine Met.ofW (cc := cX12_keep) (maxL := 5) (ret := none) (by decide) rfl ?_
  intro p e s m args below meth c s₁ B hml hv
  obtain ⟨rfl, hsz, hT, hK, hM⟩ := hv
  have hx := B.exec
  have hb := B.bytes
  have hr := B.returns
  have hts := atoms_spec (ws := wm_m_keep) B.pre
  have hown : s.vm.findClass RX12 = some m.cls := findClass_of_methodNamed B.named
  have hlocks := B.notSynchronized
  subst hsz
  generalize hAe : fr τ s.heap.size = A at hM ⊢
  have hA : ∀ q : Nat, s.heap.size ≤ q → A q := fun q h => by rw [← hAe]; exact Or.inr h
  have hF : ∀ q, τ q ≠ 0 → A q := fun q h => by rw [← hAe]; exact Or.inl h
  have hS : va_S A s.heap s.heap [] := va_S.rf
  have hX := hI.1
  have hR := im_r hI
  have hG : ag τ [60, 115] y y := ag.rf
  have hl := lv_entry ([.ref (a 50), .int p0, .int p1, .int p2]) (n := 5) (Nat.le_of_ble_eq_true rfl)
  rw [lg_entry_eq]
  generalize (lg_sl ([.ref (a 50), .int p0, .int p1, .int p2]) ++ List.replicate (5 - (lg_sl ([.ref (a 50), .int p0, .int p1, .int p2])).length) Slot.unset).toArray = ls at hl ⊢
  have hl : lv_has ls 5 [(0, .ref (a 50)), (1, .int p0), (2, .int p1), (3, .int p2)] := hl
  refine lv_aload_n hx hb dX12_keep_0 rfl (lv_at hl 0 rfl) ?_
  refine tw_get (D := (dC, dI)) (v := .int (y (a 50) 57)) (C := RX12) (T := TX12) (N := 58) hx hb hts (fun _ hh => (List.mem_cons_of_mem _ (List.mem_append_right _ (List.mem_append_left _ hh)))) hown hK hT (fx_50 hX) (by decide) cl_e60 rfl 57 (by decide) (hts (.fieldLink RX12 366 "TypingPoolModel" "isFound" "Z") (List.mem_cons_of_mem _ (List.mem_append_left _ (List.mem_of_getElem? (i := 0) rfl)))) (fun _ h9 => h9) rfl dX12_keep_1 ?_
  refine lv_if_eq (tgt := 32) hx hb dX12_keep_4 (by decide) (fun c_1 => ?_) (fun c_1 => ?_)
  · have nc_1 := z_eq rfl (zk (x := 0) 0 rfl) c_1
    refine lv_aload_n hx hb dX12_keep_32 rfl (lv_at hl 0 rfl) ?_
    refine lv_iconst (v := 1) hx hb dX12_keep_33 (by decide) ?_
    refine tw_put (D := (dC, dI)) (x := 1) (ty := .boolean) (C := RX12) (T := TX12) (N := 58) hx hb hts (fun _ hh => (List.mem_cons_of_mem _ (List.mem_append_right _ (List.mem_append_left _ hh)))) tyX12 tyX12_ok nmX12 hown hK hT hF hS (fx_50 hX) (by decide) cl_e60 rfl 57 (by decide) (hts (.fieldLink RX12 366 "TypingPoolModel" "isFound" "Z") (List.mem_cons_of_mem _ (List.mem_append_left _ (List.mem_of_getElem? (i := 0) rfl)))) (fun _ h9 => h9) rfl (tyX12_ok 57 (by decide)) rfl rfl (Nat.le_of_ble_eq_true rfl) rfl dX12_keep_34 (fun H locs hT hS => ?_)
    obtain ⟨y_2, hy_2, hT⟩ : ∃ z : Nat → Nat → Int32, z = up2 y (a 50) 57 (1 : Int32) ∧ tw (dC, dI) a k τ ln z g H := ⟨_, rfl, hT⟩
    have hG : ag τ [60, 115] y y_2 := by rw [hy_2]; exact hG.up (fx_50 hX) (by decide)
    have : (y_2 (a 50) 51).toInt = (y (a 50) 51).toInt := by rw [hy_2, up2_e (by decide)]
    have : (y_2 (a 50) 52).toInt = (y (a 50) 52).toInt := by rw [hy_2, up2_e (by decide)]
    have hW : IW (u 1) (u 2) (u 9) (y_2 (a 89)) := by rw [hy_2, up2_o (kd_ne (fx_89 hX) (fx_50 hX) (by decide))]; exact hW
    have hI := hI.put (f := 57) (x := (1 : Int32)) (by decide)
    rw [← hy_2] at hI
    refine lv_aload_n hx hb dX12_keep_37 rfl (lv_at hl 0 rfl) ?_
    refine lv_iload_n hx hb dX12_keep_38 rfl (lv_at hl 2 rfl) ?_
    refine tw_put (D := (dC, dI)) (x := p1) (ty := .int) (C := RX12) (T := TX12) (N := 58) hx hb hts (fun _ hh => (List.mem_cons_of_mem _ (List.mem_append_right _ (List.mem_append_left _ hh)))) tyX12 tyX12_ok nmX12 hown hK hT hF hS (fx_50 hX) (by decide) cl_e60 rfl 55 (by decide) (hts (.fieldLink RX12 370 "TypingPoolModel" "bestLate" "I") (List.mem_cons_of_mem _ (List.mem_append_left _ (List.mem_of_getElem? (i := 1) rfl)))) (fun _ h9 => h9) rfl (tyX12_ok 55 (by decide)) rfl rfl (Nat.le_of_ble_eq_true rfl) rfl dX12_keep_39 (fun H locs hT hS => ?_)
    obtain ⟨y_3, hy_3, hT⟩ : ∃ z : Nat → Nat → Int32, z = up2 y_2 (a 50) 55 p1 ∧ tw (dC, dI) a k τ ln z g H := ⟨_, rfl, hT⟩
    have hG : ag τ [60, 115] y y_3 := by rw [hy_3]; exact hG.up (fx_50 hX) (by decide)
    have : (y_3 (a 50) 51).toInt = (y_2 (a 50) 51).toInt := by rw [hy_3, up2_e (by decide)]
    have : (y_3 (a 50) 52).toInt = (y_2 (a 50) 52).toInt := by rw [hy_3, up2_e (by decide)]
    have hW : IW (u 1) (u 2) (u 9) (y_3 (a 89)) := by rw [hy_3, up2_o (kd_ne (fx_89 hX) (fx_50 hX) (by decide))]; exact hW
    have hI := hI.put (f := 55) (x := p1) (by decide)
    rw [← hy_3] at hI
    refine lv_aload_n hx hb dX12_keep_42 rfl (lv_at hl 0 rfl) ?_
    refine lv_iload_n hx hb dX12_keep_43 rfl (lv_at hl 3 rfl) ?_
    refine tw_put (D := (dC, dI)) (x := p2) (ty := .int) (C := RX12) (T := TX12) (N := 58) hx hb hts (fun _ hh => (List.mem_cons_of_mem _ (List.mem_append_right _ (List.mem_append_left _ hh)))) tyX12 tyX12_ok nmX12 hown hK hT hF hS (fx_50 hX) (by decide) cl_e60 rfl 56 (by decide) (hts (.fieldLink RX12 373 "TypingPoolModel" "bestSum" "I") (List.mem_cons_of_mem _ (List.mem_append_left _ (List.mem_of_getElem? (i := 2) rfl)))) (fun _ h9 => h9) rfl (tyX12_ok 56 (by decide)) rfl rfl (Nat.le_of_ble_eq_true rfl) rfl dX12_keep_44 (fun H locs hT hS => ?_)
    obtain ⟨y_4, hy_4, hT⟩ : ∃ z : Nat → Nat → Int32, z = up2 y_3 (a 50) 56 p2 ∧ tw (dC, dI) a k τ ln z g H := ⟨_, rfl, hT⟩
    have hG : ag τ [60, 115] y y_4 := by rw [hy_4]; exact hG.up (fx_50 hX) (by decide)
    have : (y_4 (a 50) 51).toInt = (y_3 (a 50) 51).toInt := by rw [hy_4, up2_e (by decide)]
    have : (y_4 (a 50) 52).toInt = (y_3 (a 50) 52).toInt := by rw [hy_4, up2_e (by decide)]
    have hW : IW (u 1) (u 2) (u 9) (y_4 (a 89)) := by rw [hy_4, up2_o (kd_ne (fx_89 hX) (fx_50 hX) (by decide))]; exact hW
    have hI := hI.put (f := 56) (x := p2) (by decide)
    rw [← hy_4] at hI
    refine lv_iconst (v := 0) hx hb dX12_keep_47 (by decide) ?_
    refine lv_istore (lv' := [(4, .int 0), (0, .ref (a 50)), (1, .int p0), (2, .int p1), (3, .int p2)]) hx hb dX12_keep_48 hl (by decide) rfl (fun ls hl => ?_)
    have loop_50 : ∀ (n : Nat) (i4 : Int32) (y_L50 : Nat → Nat → Int32) (H : Heap) (locs : List Loc) (ls : Array Slot), (p0.toInt - i4.toInt).toNat < n → ag τ [60, 115] y y_L50 → IM a u τ y_L50 → IW (u 1) (u 2) (u 9) (y_L50 (a 89)) → 0 ≤ i4.toInt → i4.toInt ≤ p0.toInt → (y_L50 (a 50) 51).toInt = (y (a 50) 51).toInt → (y_L50 (a 50) 52).toInt = (y (a 50) 52).toInt → tw (dC, dI) a k τ ln y_L50 g H → va_S A s.heap H locs → lv_has ls 5 [(0, .ref (a 50)), (1, .int p0), (2, .int p1), (3, .int p2), (4, .int i4)] → W p l e (headSpec wm_m_keep ({ frames := 0, cells := 0, slots := 0, locals := 0 })).room s m ([.ref (a 50), .int p0, .int p1, .int p2] : List Value).toArray below meth c H locs 0 0 (MQ below (va_Qv (fun (_ : Unit) => True) (fun (_ : Unit) (t : State) => (∃ (y' : Nat → Nat → Int32), ag τ [60, 115] y y' ∧ IM a u τ y' ∧ (y' (a 50) 51).toInt = (y (a 50) 51).toInt ∧ (y' (a 50) 52).toInt = (y (a 50) 52).toInt ∧ tw (dC, dI) a k τ ln y' g t.heap)) A) ([.ref (a 50), .int p0, .int p1, .int p2] : List Value).toArray s 0 0 A) (F0 m 50 ls []) := by
      intro n
      induction n with
      | zero => intro i4 y_L50 H locs ls hlt; exact absurd hlt (Nat.not_lt_zero _)
      | succ n ih_50 =>
        intro i4 y_L50 H locs ls hlt hG hI hW hi50_0 hi50_1 hi50_2 hi50_3 hT hS hl
        refine lv_iload hx hb dX12_keep_50 (lv_at hl 4 rfl) ?_
        refine lv_iload_n hx hb dX12_keep_52 rfl (lv_at hl 1 rfl) ?_
        refine lv_icmp_ge (tgt := 76) hx hb dX12_keep_53 (by decide) (fun c_5 => ?_) (fun c_5 => ?_)
        · have nc_5 := z_le rfl rfl c_5
          exact W.vret hx hb hr (fun t ht hW9 => ⟨⟨(), rfl, trivial, ⟨y_L50, hG, hI, by omega, by omega, tw_at ht hT⟩⟩, hS.F ht⟩) hS.2.2 dX12_keep_76
        · have nc_5 := z_nle rfl rfl c_5
          refine lv_aload_n hx hb dX12_keep_56 rfl (lv_at hl 0 rfl) ?_
          refine tw_get (D := (dC, dI)) (v := .ref (a 105)) (C := RX12) (T := TX12) (N := 58) hx hb hts (fun _ hh => (List.mem_cons_of_mem _ (List.mem_append_right _ (List.mem_append_left _ hh)))) hown hK hT (fx_50 hX) (by decide) cl_e60 rfl 54 (by decide) (hts (.fieldLink RX12 132 "TypingPoolModel" "bestRow" "[I") (List.mem_cons_of_mem _ (List.mem_append_left _ (List.mem_of_getElem? (i := 3) rfl)))) (fun _ h9 => h9) rfl dX12_keep_57 ?_
          refine lv_iload hx hb dX12_keep_60 (lv_at hl 4 rfl) ?_
          refine lv_aload_n hx hb dX12_keep_62 rfl (lv_at hl 0 rfl) ?_
          refine tw_get (D := (dC, dI)) (v := .ref (a 104)) (C := RX12) (T := TX12) (N := 58) hx hb hts (fun _ hh => (List.mem_cons_of_mem _ (List.mem_append_right _ (List.mem_append_left _ hh)))) hown hK hT (fx_50 hX) (by decide) cl_e60 rfl 53 (by decide) (hts (.fieldLink RX12 129 "TypingPoolModel" "tryRow" "[I") (List.mem_cons_of_mem _ (List.mem_append_left _ (List.mem_of_getElem? (i := 4) rfl)))) (fun _ h9 => h9) rfl dX12_keep_63 ?_
          refine lv_iload hx hb dX12_keep_66 (lv_at hl 4 rfl) ?_
          refine tw_iald hx hb hK hT 0 (fx_104 hX) (by decide) cl_e114 rfl (z_in rfl (by omega) (by omega)) dX12_keep_68 ?_
          refine tw_iast hx hb hK hT hF hS 0 (fx_105 hX) (by decide) (fun _ => cl_e115) rfl (z_in rfl (by omega) (by omega)) dX12_keep_69 (fun H locs hT hS => ?_)
          obtain ⟨y_6, hy_6, hT⟩ : ∃ z : Nat → Nat → Int32, z = up2 y_L50 (a 105) i4.toNatClampNeg (y_L50 (a 104) i4.toNatClampNeg) ∧ tw (dC, dI) a k τ ln z g H := ⟨_, rfl, hT⟩
          have hG : ag τ [60, 115] y y_6 := by rw [hy_6]; exact hG.up (fx_105 hX) (by decide)
          have : (y_6 (a 50) 51).toInt = (y_L50 (a 50) 51).toInt := by rw [hy_6, up2_o (kd_ne (fx_50 hX) (fx_105 hX) (by decide))]
          have : (y_6 (a 50) 52).toInt = (y_L50 (a 50) 52).toInt := by rw [hy_6, up2_o (kd_ne (fx_50 hX) (fx_105 hX) (by decide))]
          have hW : IW (u 1) (u 2) (u 9) (y_6 (a 89)) := by rw [hy_6, up2_o (kd_ne (fx_89 hX) (fx_105 hX) (by decide))]; exact hW
          have hI := hI.ag (S := [115]) (y' := y_6) (by rw [hy_6]; exact ag.one (fx_105 hX)) (by decide)
          obtain ⟨x_7, ex_7⟩ : ∃ y : Int32, y = i4 + Int32.ofInt 1 := ⟨_, rfl⟩
          have hx_7 := z_add ex_7 rfl (zk (x := Int32.ofInt 1) 1 rfl) (by omega) (by omega)
          refine lv_iinc (v := x_7) (lv' := [(4, .int x_7), (0, .ref (a 50)), (1, .int p0), (2, .int p1), (3, .int p2)]) hx hb dX12_keep_70 hl (k := 4) rfl ex_7.symm (by decide) rfl (fun ls hl => ?_)
          refine lv_goto (tgt := 50) hx hb dX12_keep_73 (by decide) ?_
          exact ih_50  x_7 y_6 H _ ls (by omega) hG hI hW (by omega) (by omega) (by omega) (by omega) hT hS (lv_sub hl [1, 2, 3, 4, 0] rfl)
    have hp_8 : (0 : Int32).toInt = 0 := (zk (x := 0) 0 rfl)
    exact loop_50 _ (0 : Int32) y_4 H _ ls (Nat.lt_succ_self _) hG hI hW (by omega) (by omega) (by omega) (by omega) hT hS (lv_sub hl [1, 2, 3, 4, 0] rfl)
  · have nc_1 := z_ne rfl (zk (x := 0) 0 rfl) c_1
    refine lv_iload_n hx hb dX12_keep_7 rfl (lv_at hl 2 rfl) ?_
    refine lv_aload_n hx hb dX12_keep_8 rfl (lv_at hl 0 rfl) ?_
    refine tw_get (D := (dC, dI)) (v := .int (y (a 50) 55)) (C := RX12) (T := TX12) (N := 58) hx hb hts (fun _ hh => (List.mem_cons_of_mem _ (List.mem_append_right _ (List.mem_append_left _ hh)))) hown hK hT (fx_50 hX) (by decide) cl_e60 rfl 55 (by decide) (hts (.fieldLink RX12 370 "TypingPoolModel" "bestLate" "I") (List.mem_cons_of_mem _ (List.mem_append_left _ (List.mem_of_getElem? (i := 1) rfl)))) (fun _ h9 => h9) rfl dX12_keep_9 ?_
    refine lv_icmp_gt (tgt := 31) hx hb dX12_keep_12 (by decide) (fun c_9 => ?_) (fun c_9 => ?_)
    · have nc_9 := z_lt rfl rfl c_9
      exact W.vret hx hb hr (fun t ht hW9 => ⟨⟨(), rfl, trivial, ⟨y, hG, hI, by omega, by omega, tw_at ht hT⟩⟩, hS.F ht⟩) hS.2.2 dX12_keep_31
    · have nc_9 := z_nlt rfl rfl c_9
      refine lv_iload_n hx hb dX12_keep_15 rfl (lv_at hl 2 rfl) ?_
      refine lv_aload_n hx hb dX12_keep_16 rfl (lv_at hl 0 rfl) ?_
      refine tw_get (D := (dC, dI)) (v := .int (y (a 50) 55)) (C := RX12) (T := TX12) (N := 58) hx hb hts (fun _ hh => (List.mem_cons_of_mem _ (List.mem_append_right _ (List.mem_append_left _ hh)))) hown hK hT (fx_50 hX) (by decide) cl_e60 rfl 55 (by decide) (hts (.fieldLink RX12 370 "TypingPoolModel" "bestLate" "I") (List.mem_cons_of_mem _ (List.mem_append_left _ (List.mem_of_getElem? (i := 1) rfl)))) (fun _ h9 => h9) rfl dX12_keep_17 ?_
      refine lv_icmp_ne (tgt := 32) hx hb dX12_keep_20 (by decide) (fun c_10 => ?_) (fun c_10 => ?_)
      · have nc_10 := z_ne rfl rfl c_10
        refine lv_aload_n hx hb dX12_keep_32 rfl (lv_at hl 0 rfl) ?_
        refine lv_iconst (v := 1) hx hb dX12_keep_33 (by decide) ?_
        refine tw_put (D := (dC, dI)) (x := 1) (ty := .boolean) (C := RX12) (T := TX12) (N := 58) hx hb hts (fun _ hh => (List.mem_cons_of_mem _ (List.mem_append_right _ (List.mem_append_left _ hh)))) tyX12 tyX12_ok nmX12 hown hK hT hF hS (fx_50 hX) (by decide) cl_e60 rfl 57 (by decide) (hts (.fieldLink RX12 366 "TypingPoolModel" "isFound" "Z") (List.mem_cons_of_mem _ (List.mem_append_left _ (List.mem_of_getElem? (i := 0) rfl)))) (fun _ h9 => h9) rfl (tyX12_ok 57 (by decide)) rfl rfl (Nat.le_of_ble_eq_true rfl) rfl dX12_keep_34 (fun H locs hT hS => ?_)
        obtain ⟨y_11, hy_11, hT⟩ : ∃ z : Nat → Nat → Int32, z = up2 y (a 50) 57 (1 : Int32) ∧ tw (dC, dI) a k τ ln z g H := ⟨_, rfl, hT⟩
        have hG : ag τ [60, 115] y y_11 := by rw [hy_11]; exact hG.up (fx_50 hX) (by decide)
        have : (y_11 (a 50) 51).toInt = (y (a 50) 51).toInt := by rw [hy_11, up2_e (by decide)]
        have : (y_11 (a 50) 52).toInt = (y (a 50) 52).toInt := by rw [hy_11, up2_e (by decide)]
        have hW : IW (u 1) (u 2) (u 9) (y_11 (a 89)) := by rw [hy_11, up2_o (kd_ne (fx_89 hX) (fx_50 hX) (by decide))]; exact hW
        have hI := hI.put (f := 57) (x := (1 : Int32)) (by decide)
        rw [← hy_11] at hI
        refine lv_aload_n hx hb dX12_keep_37 rfl (lv_at hl 0 rfl) ?_
        refine lv_iload_n hx hb dX12_keep_38 rfl (lv_at hl 2 rfl) ?_
        refine tw_put (D := (dC, dI)) (x := p1) (ty := .int) (C := RX12) (T := TX12) (N := 58) hx hb hts (fun _ hh => (List.mem_cons_of_mem _ (List.mem_append_right _ (List.mem_append_left _ hh)))) tyX12 tyX12_ok nmX12 hown hK hT hF hS (fx_50 hX) (by decide) cl_e60 rfl 55 (by decide) (hts (.fieldLink RX12 370 "TypingPoolModel" "bestLate" "I") (List.mem_cons_of_mem _ (List.mem_append_left _ (List.mem_of_getElem? (i := 1) rfl)))) (fun _ h9 => h9) rfl (tyX12_ok 55 (by decide)) rfl rfl (Nat.le_of_ble_eq_true rfl) rfl dX12_keep_39 (fun H locs hT hS => ?_)
        obtain ⟨y_12, hy_12, hT⟩ : ∃ z : Nat → Nat → Int32, z = up2 y_11 (a 50) 55 p1 ∧ tw (dC, dI) a k τ ln z g H := ⟨_, rfl, hT⟩
        have hG : ag τ [60, 115] y y_12 := by rw [hy_12]; exact hG.up (fx_50 hX) (by decide)
        have : (y_12 (a 50) 51).toInt = (y_11 (a 50) 51).toInt := by rw [hy_12, up2_e (by decide)]
        have : (y_12 (a 50) 52).toInt = (y_11 (a 50) 52).toInt := by rw [hy_12, up2_e (by decide)]
        have hW : IW (u 1) (u 2) (u 9) (y_12 (a 89)) := by rw [hy_12, up2_o (kd_ne (fx_89 hX) (fx_50 hX) (by decide))]; exact hW
        have hI := hI.put (f := 55) (x := p1) (by decide)
        rw [← hy_12] at hI
        refine lv_aload_n hx hb dX12_keep_42 rfl (lv_at hl 0 rfl) ?_
        refine lv_iload_n hx hb dX12_keep_43 rfl (lv_at hl 3 rfl) ?_
        refine tw_put (D := (dC, dI)) (x := p2) (ty := .int) (C := RX12) (T := TX12) (N := 58) hx hb hts (fun _ hh => (List.mem_cons_of_mem _ (List.mem_append_right _ (List.mem_append_left _ hh)))) tyX12 tyX12_ok nmX12 hown hK hT hF hS (fx_50 hX) (by decide) cl_e60 rfl 56 (by decide) (hts (.fieldLink RX12 373 "TypingPoolModel" "bestSum" "I") (List.mem_cons_of_mem _ (List.mem_append_left _ (List.mem_of_getElem? (i := 2) rfl)))) (fun _ h9 => h9) rfl (tyX12_ok 56 (by decide)) rfl rfl (Nat.le_of_ble_eq_true rfl) rfl dX12_keep_44 (fun H locs hT hS => ?_)
        obtain ⟨y_13, hy_13, hT⟩ : ∃ z : Nat → Nat → Int32, z = up2 y_12 (a 50) 56 p2 ∧ tw (dC, dI) a k τ ln z g H := ⟨_, rfl, hT⟩
        have hG : ag τ [60, 115] y y_13 := by rw [hy_13]; exact hG.up (fx_50 hX) (by decide)
        have : (y_13 (a 50) 51).toInt = (y_12 (a 50) 51).toInt := by rw [hy_13, up2_e (by decide)]
        have : (y_13 (a 50) 52).toInt = (y_12 (a 50) 52).toInt := by rw [hy_13, up2_e (by decide)]
        have hW : IW (u 1) (u 2) (u 9) (y_13 (a 89)) := by rw [hy_13, up2_o (kd_ne (fx_89 hX) (fx_50 hX) (by decide))]; exact hW
        have hI := hI.put (f := 56) (x := p2) (by decide)
        rw [← hy_13] at hI
        refine lv_iconst (v := 0) hx hb dX12_keep_47 (by decide) ?_
        refine lv_istore (lv' := [(4, .int 0), (0, .ref (a 50)), (1, .int p0), (2, .int p1), (3, .int p2)]) hx hb dX12_keep_48 hl (by decide) rfl (fun ls hl => ?_)
        have loop_50 : ∀ (n : Nat) (i4 : Int32) (y_L50 : Nat → Nat → Int32) (H : Heap) (locs : List Loc) (ls : Array Slot), (p0.toInt - i4.toInt).toNat < n → ag τ [60, 115] y y_L50 → IM a u τ y_L50 → IW (u 1) (u 2) (u 9) (y_L50 (a 89)) → 0 ≤ i4.toInt → i4.toInt ≤ p0.toInt → (y_L50 (a 50) 51).toInt = (y (a 50) 51).toInt → (y_L50 (a 50) 52).toInt = (y (a 50) 52).toInt → tw (dC, dI) a k τ ln y_L50 g H → va_S A s.heap H locs → lv_has ls 5 [(0, .ref (a 50)), (1, .int p0), (2, .int p1), (3, .int p2), (4, .int i4)] → W p l e (headSpec wm_m_keep ({ frames := 0, cells := 0, slots := 0, locals := 0 })).room s m ([.ref (a 50), .int p0, .int p1, .int p2] : List Value).toArray below meth c H locs 0 0 (MQ below (va_Qv (fun (_ : Unit) => True) (fun (_ : Unit) (t : State) => (∃ (y' : Nat → Nat → Int32), ag τ [60, 115] y y' ∧ IM a u τ y' ∧ (y' (a 50) 51).toInt = (y (a 50) 51).toInt ∧ (y' (a 50) 52).toInt = (y (a 50) 52).toInt ∧ tw (dC, dI) a k τ ln y' g t.heap)) A) ([.ref (a 50), .int p0, .int p1, .int p2] : List Value).toArray s 0 0 A) (F0 m 50 ls []) := by
          intro n
          induction n with
          | zero => intro i4 y_L50 H locs ls hlt; exact absurd hlt (Nat.not_lt_zero _)
          | succ n ih_50 =>
            intro i4 y_L50 H locs ls hlt hG hI hW hi50_0 hi50_1 hi50_2 hi50_3 hT hS hl
            refine lv_iload hx hb dX12_keep_50 (lv_at hl 4 rfl) ?_
            refine lv_iload_n hx hb dX12_keep_52 rfl (lv_at hl 1 rfl) ?_
            refine lv_icmp_ge (tgt := 76) hx hb dX12_keep_53 (by decide) (fun c_14 => ?_) (fun c_14 => ?_)
            · have nc_14 := z_le rfl rfl c_14
              exact W.vret hx hb hr (fun t ht hW9 => ⟨⟨(), rfl, trivial, ⟨y_L50, hG, hI, by omega, by omega, tw_at ht hT⟩⟩, hS.F ht⟩) hS.2.2 dX12_keep_76
            · have nc_14 := z_nle rfl rfl c_14
              refine lv_aload_n hx hb dX12_keep_56 rfl (lv_at hl 0 rfl) ?_
              refine tw_get (D := (dC, dI)) (v := .ref (a 105)) (C := RX12) (T := TX12) (N := 58) hx hb hts (fun _ hh => (List.mem_cons_of_mem _ (List.mem_append_right _ (List.mem_append_left _ hh)))) hown hK hT (fx_50 hX) (by decide) cl_e60 rfl 54 (by decide) (hts (.fieldLink RX12 132 "TypingPoolModel" "bestRow" "[I") (List.mem_cons_of_mem _ (List.mem_append_left _ (List.mem_of_getElem? (i := 3) rfl)))) (fun _ h9 => h9) rfl dX12_keep_57 ?_
              refine lv_iload hx hb dX12_keep_60 (lv_at hl 4 rfl) ?_
              refine lv_aload_n hx hb dX12_keep_62 rfl (lv_at hl 0 rfl) ?_
              refine tw_get (D := (dC, dI)) (v := .ref (a 104)) (C := RX12) (T := TX12) (N := 58) hx hb hts (fun _ hh => (List.mem_cons_of_mem _ (List.mem_append_right _ (List.mem_append_left _ hh)))) hown hK hT (fx_50 hX) (by decide) cl_e60 rfl 53 (by decide) (hts (.fieldLink RX12 129 "TypingPoolModel" "tryRow" "[I") (List.mem_cons_of_mem _ (List.mem_append_left _ (List.mem_of_getElem? (i := 4) rfl)))) (fun _ h9 => h9) rfl dX12_keep_63 ?_
              refine lv_iload hx hb dX12_keep_66 (lv_at hl 4 rfl) ?_
              refine tw_iald hx hb hK hT 0 (fx_104 hX) (by decide) cl_e114 rfl (z_in rfl (by omega) (by omega)) dX12_keep_68 ?_
              refine tw_iast hx hb hK hT hF hS 0 (fx_105 hX) (by decide) (fun _ => cl_e115) rfl (z_in rfl (by omega) (by omega)) dX12_keep_69 (fun H locs hT hS => ?_)
              obtain ⟨y_15, hy_15, hT⟩ : ∃ z : Nat → Nat → Int32, z = up2 y_L50 (a 105) i4.toNatClampNeg (y_L50 (a 104) i4.toNatClampNeg) ∧ tw (dC, dI) a k τ ln z g H := ⟨_, rfl, hT⟩
              have hG : ag τ [60, 115] y y_15 := by rw [hy_15]; exact hG.up (fx_105 hX) (by decide)
              have : (y_15 (a 50) 51).toInt = (y_L50 (a 50) 51).toInt := by rw [hy_15, up2_o (kd_ne (fx_50 hX) (fx_105 hX) (by decide))]
              have : (y_15 (a 50) 52).toInt = (y_L50 (a 50) 52).toInt := by rw [hy_15, up2_o (kd_ne (fx_50 hX) (fx_105 hX) (by decide))]
              have hW : IW (u 1) (u 2) (u 9) (y_15 (a 89)) := by rw [hy_15, up2_o (kd_ne (fx_89 hX) (fx_105 hX) (by decide))]; exact hW
              have hI := hI.ag (S := [115]) (y' := y_15) (by rw [hy_15]; exact ag.one (fx_105 hX)) (by decide)
              obtain ⟨x_16, ex_16⟩ : ∃ y : Int32, y = i4 + Int32.ofInt 1 := ⟨_, rfl⟩
              have hx_16 := z_add ex_16 rfl (zk (x := Int32.ofInt 1) 1 rfl) (by omega) (by omega)
              refine lv_iinc (v := x_16) (lv' := [(4, .int x_16), (0, .ref (a 50)), (1, .int p0), (2, .int p1), (3, .int p2)]) hx hb dX12_keep_70 hl (k := 4) rfl ex_16.symm (by decide) rfl (fun ls hl => ?_)
              refine lv_goto (tgt := 50) hx hb dX12_keep_73 (by decide) ?_
              exact ih_50  x_16 y_15 H _ ls (by omega) hG hI hW (by omega) (by omega) (by omega) (by omega) hT hS (lv_sub hl [1, 2, 3, 4, 0] rfl)
        have hp_17 : (0 : Int32).toInt = 0 := (zk (x := 0) 0 rfl)
        exact loop_50 _ (0 : Int32) y_13 H _ ls (Nat.lt_succ_self _) hG hI hW (by omega) (by omega) (by omega) (by omega) hT hS (lv_sub hl [1, 2, 3, 4, 0] rfl)
      · have nc_10 := z_eq rfl rfl c_10
        refine lv_iload_n hx hb dX12_keep_23 rfl (lv_at hl 3 rfl) ?_
        refine lv_aload_n hx hb dX12_keep_24 rfl (lv_at hl 0 rfl) ?_
        refine tw_get (D := (dC, dI)) (v := .int (y (a 50) 56)) (C := RX12) (T := TX12) (N := 58) hx hb hts (fun _ hh => (List.mem_cons_of_mem _ (List.mem_append_right _ (List.mem_append_left _ hh)))) hown hK hT (fx_50 hX) (by decide) cl_e60 rfl 56 (by decide) (hts (.fieldLink RX12 373 "TypingPoolModel" "bestSum" "I") (List.mem_cons_of_mem _ (List.mem_append_left _ (List.mem_of_getElem? (i := 2) rfl)))) (fun _ h9 => h9) rfl dX12_keep_25 ?_
        refine lv_icmp_lt (tgt := 32) hx hb dX12_keep_28 (by decide) (fun c_18 => ?_) (fun c_18 => ?_)
        · have nc_18 := z_lt rfl rfl c_18
          refine lv_aload_n hx hb dX12_keep_32 rfl (lv_at hl 0 rfl) ?_
          refine lv_iconst (v := 1) hx hb dX12_keep_33 (by decide) ?_
          refine tw_put (D := (dC, dI)) (x := 1) (ty := .boolean) (C := RX12) (T := TX12) (N := 58) hx hb hts (fun _ hh => (List.mem_cons_of_mem _ (List.mem_append_right _ (List.mem_append_left _ hh)))) tyX12 tyX12_ok nmX12 hown hK hT hF hS (fx_50 hX) (by decide) cl_e60 rfl 57 (by decide) (hts (.fieldLink RX12 366 "TypingPoolModel" "isFound" "Z") (List.mem_cons_of_mem _ (List.mem_append_left _ (List.mem_of_getElem? (i := 0) rfl)))) (fun _ h9 => h9) rfl (tyX12_ok 57 (by decide)) rfl rfl (Nat.le_of_ble_eq_true rfl) rfl dX12_keep_34 (fun H locs hT hS => ?_)
          obtain ⟨y_19, hy_19, hT⟩ : ∃ z : Nat → Nat → Int32, z = up2 y (a 50) 57 (1 : Int32) ∧ tw (dC, dI) a k τ ln z g H := ⟨_, rfl, hT⟩
          have hG : ag τ [60, 115] y y_19 := by rw [hy_19]; exact hG.up (fx_50 hX) (by decide)
          have : (y_19 (a 50) 51).toInt = (y (a 50) 51).toInt := by rw [hy_19, up2_e (by decide)]
          have : (y_19 (a 50) 52).toInt = (y (a 50) 52).toInt := by rw [hy_19, up2_e (by decide)]
          have hW : IW (u 1) (u 2) (u 9) (y_19 (a 89)) := by rw [hy_19, up2_o (kd_ne (fx_89 hX) (fx_50 hX) (by decide))]; exact hW
          have hI := hI.put (f := 57) (x := (1 : Int32)) (by decide)
          rw [← hy_19] at hI
          refine lv_aload_n hx hb dX12_keep_37 rfl (lv_at hl 0 rfl) ?_
          refine lv_iload_n hx hb dX12_keep_38 rfl (lv_at hl 2 rfl) ?_
          refine tw_put (D := (dC, dI)) (x := p1) (ty := .int) (C := RX12) (T := TX12) (N := 58) hx hb hts (fun _ hh => (List.mem_cons_of_mem _ (List.mem_append_right _ (List.mem_append_left _ hh)))) tyX12 tyX12_ok nmX12 hown hK hT hF hS (fx_50 hX) (by decide) cl_e60 rfl 55 (by decide) (hts (.fieldLink RX12 370 "TypingPoolModel" "bestLate" "I") (List.mem_cons_of_mem _ (List.mem_append_left _ (List.mem_of_getElem? (i := 1) rfl)))) (fun _ h9 => h9) rfl (tyX12_ok 55 (by decide)) rfl rfl (Nat.le_of_ble_eq_true rfl) rfl dX12_keep_39 (fun H locs hT hS => ?_)
          obtain ⟨y_20, hy_20, hT⟩ : ∃ z : Nat → Nat → Int32, z = up2 y_19 (a 50) 55 p1 ∧ tw (dC, dI) a k τ ln z g H := ⟨_, rfl, hT⟩
          have hG : ag τ [60, 115] y y_20 := by rw [hy_20]; exact hG.up (fx_50 hX) (by decide)
          have : (y_20 (a 50) 51).toInt = (y_19 (a 50) 51).toInt := by rw [hy_20, up2_e (by decide)]
          have : (y_20 (a 50) 52).toInt = (y_19 (a 50) 52).toInt := by rw [hy_20, up2_e (by decide)]
          have hW : IW (u 1) (u 2) (u 9) (y_20 (a 89)) := by rw [hy_20, up2_o (kd_ne (fx_89 hX) (fx_50 hX) (by decide))]; exact hW
          have hI := hI.put (f := 55) (x := p1) (by decide)
          rw [← hy_20] at hI
          refine lv_aload_n hx hb dX12_keep_42 rfl (lv_at hl 0 rfl) ?_
          refine lv_iload_n hx hb dX12_keep_43 rfl (lv_at hl 3 rfl) ?_
          refine tw_put (D := (dC, dI)) (x := p2) (ty := .int) (C := RX12) (T := TX12) (N := 58) hx hb hts (fun _ hh => (List.mem_cons_of_mem _ (List.mem_append_right _ (List.mem_append_left _ hh)))) tyX12 tyX12_ok nmX12 hown hK hT hF hS (fx_50 hX) (by decide) cl_e60 rfl 56 (by decide) (hts (.fieldLink RX12 373 "TypingPoolModel" "bestSum" "I") (List.mem_cons_of_mem _ (List.mem_append_left _ (List.mem_of_getElem? (i := 2) rfl)))) (fun _ h9 => h9) rfl (tyX12_ok 56 (by decide)) rfl rfl (Nat.le_of_ble_eq_true rfl) rfl dX12_keep_44 (fun H locs hT hS => ?_)
          obtain ⟨y_21, hy_21, hT⟩ : ∃ z : Nat → Nat → Int32, z = up2 y_20 (a 50) 56 p2 ∧ tw (dC, dI) a k τ ln z g H := ⟨_, rfl, hT⟩
          have hG : ag τ [60, 115] y y_21 := by rw [hy_21]; exact hG.up (fx_50 hX) (by decide)
          have : (y_21 (a 50) 51).toInt = (y_20 (a 50) 51).toInt := by rw [hy_21, up2_e (by decide)]
          have : (y_21 (a 50) 52).toInt = (y_20 (a 50) 52).toInt := by rw [hy_21, up2_e (by decide)]
          have hW : IW (u 1) (u 2) (u 9) (y_21 (a 89)) := by rw [hy_21, up2_o (kd_ne (fx_89 hX) (fx_50 hX) (by decide))]; exact hW
          have hI := hI.put (f := 56) (x := p2) (by decide)
          rw [← hy_21] at hI
          refine lv_iconst (v := 0) hx hb dX12_keep_47 (by decide) ?_
          refine lv_istore (lv' := [(4, .int 0), (0, .ref (a 50)), (1, .int p0), (2, .int p1), (3, .int p2)]) hx hb dX12_keep_48 hl (by decide) rfl (fun ls hl => ?_)
          have loop_50 : ∀ (n : Nat) (i4 : Int32) (y_L50 : Nat → Nat → Int32) (H : Heap) (locs : List Loc) (ls : Array Slot), (p0.toInt - i4.toInt).toNat < n → ag τ [60, 115] y y_L50 → IM a u τ y_L50 → IW (u 1) (u 2) (u 9) (y_L50 (a 89)) → 0 ≤ i4.toInt → i4.toInt ≤ p0.toInt → (y_L50 (a 50) 51).toInt = (y (a 50) 51).toInt → (y_L50 (a 50) 52).toInt = (y (a 50) 52).toInt → tw (dC, dI) a k τ ln y_L50 g H → va_S A s.heap H locs → lv_has ls 5 [(0, .ref (a 50)), (1, .int p0), (2, .int p1), (3, .int p2), (4, .int i4)] → W p l e (headSpec wm_m_keep ({ frames := 0, cells := 0, slots := 0, locals := 0 })).room s m ([.ref (a 50), .int p0, .int p1, .int p2] : List Value).toArray below meth c H locs 0 0 (MQ below (va_Qv (fun (_ : Unit) => True) (fun (_ : Unit) (t : State) => (∃ (y' : Nat → Nat → Int32), ag τ [60, 115] y y' ∧ IM a u τ y' ∧ (y' (a 50) 51).toInt = (y (a 50) 51).toInt ∧ (y' (a 50) 52).toInt = (y (a 50) 52).toInt ∧ tw (dC, dI) a k τ ln y' g t.heap)) A) ([.ref (a 50), .int p0, .int p1, .int p2] : List Value).toArray s 0 0 A) (F0 m 50 ls []) := by
            intro n
            induction n with
            | zero => intro i4 y_L50 H locs ls hlt; exact absurd hlt (Nat.not_lt_zero _)
            | succ n ih_50 =>
              intro i4 y_L50 H locs ls hlt hG hI hW hi50_0 hi50_1 hi50_2 hi50_3 hT hS hl
              refine lv_iload hx hb dX12_keep_50 (lv_at hl 4 rfl) ?_
              refine lv_iload_n hx hb dX12_keep_52 rfl (lv_at hl 1 rfl) ?_
              refine lv_icmp_ge (tgt := 76) hx hb dX12_keep_53 (by decide) (fun c_22 => ?_) (fun c_22 => ?_)
              · have nc_22 := z_le rfl rfl c_22
                exact W.vret hx hb hr (fun t ht hW9 => ⟨⟨(), rfl, trivial, ⟨y_L50, hG, hI, by omega, by omega, tw_at ht hT⟩⟩, hS.F ht⟩) hS.2.2 dX12_keep_76
              · have nc_22 := z_nle rfl rfl c_22
                refine lv_aload_n hx hb dX12_keep_56 rfl (lv_at hl 0 rfl) ?_
                refine tw_get (D := (dC, dI)) (v := .ref (a 105)) (C := RX12) (T := TX12) (N := 58) hx hb hts (fun _ hh => (List.mem_cons_of_mem _ (List.mem_append_right _ (List.mem_append_left _ hh)))) hown hK hT (fx_50 hX) (by decide) cl_e60 rfl 54 (by decide) (hts (.fieldLink RX12 132 "TypingPoolModel" "bestRow" "[I") (List.mem_cons_of_mem _ (List.mem_append_left _ (List.mem_of_getElem? (i := 3) rfl)))) (fun _ h9 => h9) rfl dX12_keep_57 ?_
                refine lv_iload hx hb dX12_keep_60 (lv_at hl 4 rfl) ?_
                refine lv_aload_n hx hb dX12_keep_62 rfl (lv_at hl 0 rfl) ?_
                refine tw_get (D := (dC, dI)) (v := .ref (a 104)) (C := RX12) (T := TX12) (N := 58) hx hb hts (fun _ hh => (List.mem_cons_of_mem _ (List.mem_append_right _ (List.mem_append_left _ hh)))) hown hK hT (fx_50 hX) (by decide) cl_e60 rfl 53 (by decide) (hts (.fieldLink RX12 129 "TypingPoolModel" "tryRow" "[I") (List.mem_cons_of_mem _ (List.mem_append_left _ (List.mem_of_getElem? (i := 4) rfl)))) (fun _ h9 => h9) rfl dX12_keep_63 ?_
                refine lv_iload hx hb dX12_keep_66 (lv_at hl 4 rfl) ?_
                refine tw_iald hx hb hK hT 0 (fx_104 hX) (by decide) cl_e114 rfl (z_in rfl (by omega) (by omega)) dX12_keep_68 ?_
                refine tw_iast hx hb hK hT hF hS 0 (fx_105 hX) (by decide) (fun _ => cl_e115) rfl (z_in rfl (by omega) (by omega)) dX12_keep_69 (fun H locs hT hS => ?_)
                obtain ⟨y_23, hy_23, hT⟩ : ∃ z : Nat → Nat → Int32, z = up2 y_L50 (a 105) i4.toNatClampNeg (y_L50 (a 104) i4.toNatClampNeg) ∧ tw (dC, dI) a k τ ln z g H := ⟨_, rfl, hT⟩
                have hG : ag τ [60, 115] y y_23 := by rw [hy_23]; exact hG.up (fx_105 hX) (by decide)
                have : (y_23 (a 50) 51).toInt = (y_L50 (a 50) 51).toInt := by rw [hy_23, up2_o (kd_ne (fx_50 hX) (fx_105 hX) (by decide))]
                have : (y_23 (a 50) 52).toInt = (y_L50 (a 50) 52).toInt := by rw [hy_23, up2_o (kd_ne (fx_50 hX) (fx_105 hX) (by decide))]
                have hW : IW (u 1) (u 2) (u 9) (y_23 (a 89)) := by rw [hy_23, up2_o (kd_ne (fx_89 hX) (fx_105 hX) (by decide))]; exact hW
                have hI := hI.ag (S := [115]) (y' := y_23) (by rw [hy_23]; exact ag.one (fx_105 hX)) (by decide)
                obtain ⟨x_24, ex_24⟩ : ∃ y : Int32, y = i4 + Int32.ofInt 1 := ⟨_, rfl⟩
                have hx_24 := z_add ex_24 rfl (zk (x := Int32.ofInt 1) 1 rfl) (by omega) (by omega)
                refine lv_iinc (v := x_24) (lv' := [(4, .int x_24), (0, .ref (a 50)), (1, .int p0), (2, .int p1), (3, .int p2)]) hx hb dX12_keep_70 hl (k := 4) rfl ex_24.symm (by decide) rfl (fun ls hl => ?_)
                refine lv_goto (tgt := 50) hx hb dX12_keep_73 (by decide) ?_
                exact ih_50  x_24 y_23 H _ ls (by omega) hG hI hW (by omega) (by omega) (by omega) (by omega) hT hS (lv_sub hl [1, 2, 3, 4, 0] rfl)
          have hp_25 : (0 : Int32).toInt = 0 := (zk (x := 0) 0 rfl)
          exact loop_50 _ (0 : Int32) y_21 H _ ls (Nat.lt_succ_self _) hG hI hW (by omega) (by omega) (by omega) (by omega) hT hS (lv_sub hl [1, 2, 3, 4, 0] rfl)
        · have nc_18 := z_nlt rfl rfl c_18
          exact W.vret hx hb hr (fun t ht hW9 => ⟨⟨(), rfl, trivial, ⟨y, hG, hI, by omega, by omega, tw_at ht hT⟩⟩, hS.F ht⟩) hS.2.2 dX12_keep_31
def wo_GQ : List Cond := [.code yX12_planFrom cX12_planFrom 12 none, .code yX12_beginHand cX12_beginHand 9 none, .fieldLink RX12 126 "TypingPoolModel" "planHands" "[I", .fieldLink RX12 129 "TypingPoolModel" "tryRow" "[I", .fieldLink RX12 342 "TypingPoolModel" "planHandMany" "I", .fieldLink RX12 349 "TypingPoolModel" "planPieceMany" "I", .fieldLink RX12 123 "TypingPoolModel" "planPieces" "[I", .methodLink RX12 286 yX12_mayDo, .instanceMethod yX12_mayDo, .selects RX12 yX12_mayDo yX12_mayDo, .initialized RX12, .methodLink RX12 173 yX12_work, .instanceMethod yX12_work, .selects RX12 yX12_work yX12_work, .fieldLink RX12 13 "TypingPoolModel" "speed" "[I", .fieldLink RX12 52 "TypingPoolModel" "words" "[I", .methodLink RX12 299 yX12_rate, .static yX12_rate, .methodLink RX12 355 yX12_minutes, .static yX12_minutes, .methodLink RX12 358 yX12_ends, .instanceMethod yX12_ends, .selects RX12 yX12_ends yX12_ends, .fieldLink RX12 49 "TypingPoolModel" "due" "[I", .methodLink RX12 281 Lib.Math.max.name, .static Lib.Math.max.name, .initialized "java/lang/Math", .code Lib.Math.max.name Lib.Math.max.code 2 (some .int), .methodLink RX12 362 yX12_planFrom, .instanceMethod yX12_planFrom, .selects RX12 yX12_planFrom yX12_planFrom, .methodLink RX12 352 yX12_keep, .instanceMethod yX12_keep, .selects RX12 yX12_keep yX12_keep, .methodLink RX12 345 yX12_beginHand, .instanceMethod yX12_beginHand, .selects RX12 yX12_beginHand yX12_beginHand, .methodLink RX12 272 yX12_get, .instanceMethod yX12_get, .selects RX12 yX12_get yX12_get, .methodLink RX12 164 yX12_now, .instanceMethod yX12_now, .selects RX12 yX12_now yX12_now, .methodLink RX12 261 yX12_piece, .instanceMethod yX12_piece, .selects RX12 yX12_piece yX12_piece]
theorem gd_woGQ : ∀ w ∈ wo_GQ, goodWord w = true := by decide
set_option maxRecDepth 20000 in
theorem im_woGQ : ∀ w ∈ wo_GQ, w ∈ lw_tbl := in_r wo_GQ [1706, 1695, 1291, 1294, 1293, 1292, 1290, 1560, 1562, 51, 86, 1452, 1454, 30, 1243, 1258, 1580, 1581, 1696, 1697, 1699, 1701, 64, 1257, 1583, 289, 78, 290, 1703, 1705, 65, 1707, 1709, 66, 1692, 1694, 63, 1540, 1542, 46, 1440, 1442, 28, 1556, 1558, 50] (by decide +kernel)
def wm_g_planFrom : List Cond := .code yX12_planFrom cX12_planFrom 12 none :: (wo_GQ ++ (wsX120 ++ (wm_m_mayDo ++ (wm_m_work ++ (wm_m_rate ++ (wm_m_minutes ++ (wm_m_ends ++ (wm_m_keep ++ (wm_m_get ++ (wm_m_now ++ (wm_m_pieceG ++ ([] : List Cond))))))))))))
theorem gd_g_planFrom : ∀ w ∈ wm_g_planFrom, goodWord w = true := gd_c rfl (gd_a gd_woGQ (gd_a gd_wsX120 (gd_a gd_m_mayDo (gd_a gd_m_work (gd_a gd_m_rate (gd_a gd_m_minutes (gd_a gd_m_ends (gd_a gd_m_keep (gd_a gd_m_get (gd_a gd_m_now (gd_a gd_m_pieceG gd_nil)))))))))))
set_option maxRecDepth 20000 in
theorem im_g_planFrom : ∀ w ∈ wm_g_planFrom, w ∈ lw_tbl := im_c (in_r [.code yX12_planFrom cX12_planFrom 12 none] [1706] (by decide +kernel)) (in_app im_woGQ (in_app im_wsX120 (in_app im_m_mayDo (in_app im_m_work (in_app im_m_rate (in_app im_m_minutes (in_app im_m_ends (in_app im_m_keep (in_app im_m_get (in_app im_m_now (in_app im_m_pieceG im_nil)))))))))))
def wm_g_beginHand : List Cond := .code yX12_beginHand cX12_beginHand 9 none :: (wo_GQ ++ (wsX120 ++ (wm_m_mayDo ++ (wm_m_work ++ (wm_m_rate ++ (wm_m_minutes ++ (wm_m_ends ++ (wm_m_keep ++ (wm_m_get ++ (wm_m_now ++ (wm_m_pieceG ++ ([] : List Cond))))))))))))
theorem gd_g_beginHand : ∀ w ∈ wm_g_beginHand, goodWord w = true := gd_c rfl (gd_a gd_woGQ (gd_a gd_wsX120 (gd_a gd_m_mayDo (gd_a gd_m_work (gd_a gd_m_rate (gd_a gd_m_minutes (gd_a gd_m_ends (gd_a gd_m_keep (gd_a gd_m_get (gd_a gd_m_now (gd_a gd_m_pieceG gd_nil)))))))))))
set_option maxRecDepth 20000 in
theorem im_g_beginHand : ∀ w ∈ wm_g_beginHand, w ∈ lw_tbl := im_c (in_r [.code yX12_beginHand cX12_beginHand 9 none] [1695] (by decide +kernel)) (in_app im_woGQ (in_app im_wsX120 (in_app im_m_mayDo (in_app im_m_work (in_app im_m_rate (in_app im_m_minutes (in_app im_m_ends (in_app im_m_keep (in_app im_m_get (in_app im_m_now (in_app im_m_pieceG im_nil)))))))))))
def St_g_planFrom (N : Nat) : Prop := ∀ (l : Launch) (dC : Nat → ClassId) (dI : Nat → Nat → Nat) (ad av : Nat → Nat) (sz : Nat) (a : Nat → Nat) (k : Nat → ClassId) (τ ln : Nat → Nat) (y : Nat → Nat → Int32) (g : Nat → Nat → Option Nat) (u : Nat → Int) (p0 : Int32) (p1 : Int32) (p2 : Int32) (p3 : Int32) (p4 : Int32) (p5 : Int32) (p6 : Int32) (nP : Int) (nH : Int) (hI : IM a u τ y) (g51 : (y (a 50) 51).toInt = nP) (g52 : (y (a 50) 52).toInt = nH) (gn : (0 ≤ nP ∧ nP ≤ 5) ∧ 0 ≤ nH ∧ nH ≤ 3) (gp : vl nP (u 2) (y (a 100))) (gh : vl nH (u 1) (y (a 101))) (hth : vb 38408 0 4800 (y (a 99))) (hkA : 0 ≤ p0.toInt) (hkB : p0.toInt < nH) (huA : 0 ≤ p1.toInt) (huB : p1.toInt ≤ 31) (hmn : p2.toInt = p0.toInt + pc5 p1) (htA : 0 ≤ p3.toInt) (htB : p3.toInt ≤ 50000 * (p2.toInt + 1)) (hN : 8 - p2.toInt < (N : Int)) (hW : IW (u 1) (u 2) (u 9) (y (a 89))), Met l yX12_planFrom wm_g_planFrom ({ frames := 2 * N + 405, cells := 0, slots := 0, locals := 200 * N + 25620 }) (pw_ ad av (dC, dI) sz [.ref (a 50), .int p0, .int p1, .int p2, .int p3, .int p4, .int p5, .int p6] a k τ ln y g) (va_Qv (fun (_ : Unit) => True) (fun (_ : Unit) (t : State) => (∃ (y' : Nat → Nat → Int32) (g' : Nat → Nat → Option Nat), ag τ [60, 102, 114, 115] y y' ∧ agg τ g g' ∧ IM a u τ y' ∧ (y' (a 50) 51).toInt = (y (a 50) 51).toInt ∧ (y' (a 50) 52).toInt = (y (a 50) 52).toInt ∧ tw (dC, dI) a k τ ln y' g' t.heap)) (fr τ sz)) 0 0 (fr τ sz)
def St_g_beginHand (N : Nat) : Prop := ∀ (l : Launch) (dC : Nat → ClassId) (dI : Nat → Nat → Nat) (ad av : Nat → Nat) (sz : Nat) (a : Nat → Nat) (k : Nat → ClassId) (τ ln : Nat → Nat) (y : Nat → Nat → Int32) (g : Nat → Nat → Option Nat) (u : Nat → Int) (p0 : Int32) (p1 : Int32) (p2 : Int32) (p3 : Int32) (p4 : Int32) (nP : Int) (nH : Int) (hI : IM a u τ y) (g51 : (y (a 50) 51).toInt = nP) (g52 : (y (a 50) 52).toInt = nH) (gn : (0 ≤ nP ∧ nP ≤ 5) ∧ 0 ≤ nH ∧ nH ≤ 3) (gp : vl nP (u 2) (y (a 100))) (gh : vl nH (u 1) (y (a 101))) (hth : vb 38408 0 4800 (y (a 99))) (hkA : 0 ≤ p0.toInt) (hkB : p0.toInt < nH) (huA : 0 ≤ p1.toInt) (huB : p1.toInt ≤ 31) (hmn : p2.toInt = p0.toInt + pc5 p1) (hN : 8 - p2.toInt < (N : Int)) (hW : IW (u 1) (u 2) (u 9) (y (a 89))), Met l yX12_beginHand wm_g_beginHand ({ frames := 2 * N + 406, cells := 0, slots := 0, locals := 200 * N + 25720 }) (pw_ ad av (dC, dI) sz [.ref (a 50), .int p0, .int p1, .int p2, .int p3, .int p4] a k τ ln y g) (va_Qv (fun (_ : Unit) => True) (fun (_ : Unit) (t : State) => (∃ (y' : Nat → Nat → Int32) (g' : Nat → Nat → Option Nat), ag τ [60, 102, 114, 115] y y' ∧ agg τ g g' ∧ IM a u τ y' ∧ (y' (a 50) 51).toInt = (y (a 50) 51).toInt ∧ (y' (a 50) 52).toInt = (y (a 50) 52).toInt ∧ tw (dC, dI) a k τ ln y' g' t.heap)) (fr τ sz)) 0 0 (fr τ sz)


set_option maxHeartbeats 4000000 in
set_option maxRecDepth 100000 in
theorem g_planFrom_step (N : Nat) (ih1 : St_g_planFrom N) (ih2 : St_g_beginHand N) : St_g_planFrom (N + 1) := by
  intro l dC dI ad av sz a k τ ln y g u p0 p1 p2 p3 p4 p5 p6 nP nH hI g51 g52 gn gp gh hth hkA hkB huA huB hmn htA htB hN hW
  refine Met.ofW (cc := cX12_planFrom) (maxL := 12) (ret := none) (by decide) rfl ?_
  intro p e s m args below meth c s₁ B hml hv
  obtain ⟨rfl, hsz, hT, hK, hM⟩ := hv
  have hx := B.exec
  have hb := B.bytes
  have hr := B.returns
  have hts := atoms_spec (ws := wm_g_planFrom) B.pre
  have hown : s.vm.findClass RX12 = some m.cls := findClass_of_methodNamed B.named
  have hlocks := B.notSynchronized
  subst hsz
  generalize hAe : fr τ s.heap.size = A at hM ⊢
  have hA : ∀ q : Nat, s.heap.size ≤ q → A q := fun q h => by rw [← hAe]; exact Or.inr h
  have hF : ∀ q, τ q ≠ 0 → A q := fun q h => by rw [← hAe]; exact Or.inl h
  have hS : va_S A s.heap s.heap [] := va_S.rf
  have hX := hI.1
  have hR := im_r hI
  have hG : ag τ [60, 102, 114, 115] y y := ag.rf
  have hGg : agg τ g g := agg.rf
  have hl := lv_entry ([.ref (a 50), .int p0, .int p1, .int p2, .int p3, .int p4, .int p5, .int p6]) (n := 12) (Nat.le_of_ble_eq_true rfl)
  rw [lg_entry_eq]
  generalize (lg_sl ([.ref (a 50), .int p0, .int p1, .int p2, .int p3, .int p4, .int p5, .int p6]) ++ List.replicate (12 - (lg_sl ([.ref (a 50), .int p0, .int p1, .int p2, .int p3, .int p4, .int p5, .int p6])).length) Slot.unset).toArray = ls at hl ⊢
  have hl : lv_has ls 12 [(0, .ref (a 50)), (1, .int p0), (2, .int p1), (3, .int p2), (4, .int p3), (5, .int p4), (6, .int p5), (7, .int p6)] := hl
  have hp5 := pc5_rg p1
  refine lv_aload_n hx hb dX12_planFrom_0 rfl (lv_at hl 0 rfl) ?_
  refine tw_get (D := (dC, dI)) (v := .ref (a 101)) (C := RX12) (T := TX12) (N := 58) hx hb hts (fun _ hh => (List.mem_cons_of_mem _ (List.mem_append_right _ (List.mem_append_left _ hh)))) hown hK hT (fx_50 hX) (by decide) cl_e60 rfl 50 (by decide) (hts (.fieldLink RX12 126 "TypingPoolModel" "planHands" "[I") (List.mem_cons_of_mem _ (List.mem_append_left _ (List.mem_of_getElem? (i := 2) rfl)))) (fun _ h9 => h9) rfl dX12_planFrom_1 ?_
  refine lv_iload_n hx hb dX12_planFrom_4 rfl (lv_at hl 1 rfl) ?_
  refine tw_iald hx hb hK hT 0 (fx_101 hX) (by decide) cl_e111 rfl (z_in rfl (by omega) (by omega)) dX12_planFrom_5 ?_
  have hv_2560 : vl nH (u 1) (y (a 101)) := gh
  have hv_256 := vl_at hv_2560 (x := p0) rfl (by omega) (by omega)
  refine lv_istore (lv' := [(8, .int (y (a 101) p0.toNatClampNeg)), (0, .ref (a 50)), (1, .int p0), (2, .int p1), (3, .int p2), (4, .int p3), (5, .int p4), (6, .int p5), (7, .int p6)]) hx hb dX12_planFrom_6 hl (by decide) rfl (fun ls hl => ?_)
  refine lv_aload_n hx hb dX12_planFrom_8 rfl (lv_at hl 1 rfl) ?_
  refine tw_get (D := (dC, dI)) (v := .ref (a 104)) (C := RX12) (T := TX12) (N := 58) hx hb hts (fun _ hh => (List.mem_cons_of_mem _ (List.mem_append_right _ (List.mem_append_left _ hh)))) hown hK hT (fx_50 hX) (by decide) cl_e60 rfl 53 (by decide) (hts (.fieldLink RX12 129 "TypingPoolModel" "tryRow" "[I") (List.mem_cons_of_mem _ (List.mem_append_left _ (List.mem_of_getElem? (i := 3) rfl)))) (fun _ h9 => h9) rfl dX12_planFrom_9 ?_
  refine lv_iload_n hx hb dX12_planFrom_12 rfl (lv_at hl 4 rfl) ?_
  refine lv_iconst (v := (-1)) hx hb dX12_planFrom_13 (by decide) ?_
  refine tw_iast hx hb hK hT hF hS 0 (fx_104 hX) (by decide) (fun _ => cl_e114) rfl (z_in rfl (by omega) (by omega)) dX12_planFrom_14 (fun H locs hT hS => ?_)
  obtain ⟨y_257, hy_257, hT⟩ : ∃ z : Nat → Nat → Int32, z = up2 y (a 104) p2.toNatClampNeg (-1 : Int32) ∧ tw (dC, dI) a k τ ln z g H := ⟨_, rfl, hT⟩
  have hG : ag τ [60, 102, 114, 115] y y_257 := by rw [hy_257]; exact hG.up (fx_104 hX) (by decide)
  have : (y_257 (a 50) 51).toInt = (y (a 50) 51).toInt := by rw [hy_257, up2_o (kd_ne (fx_50 hX) (fx_104 hX) (by decide))]
  have : (y_257 (a 50) 52).toInt = (y (a 50) 52).toInt := by rw [hy_257, up2_o (kd_ne (fx_50 hX) (fx_104 hX) (by decide))]
  have hW : IW (u 1) (u 2) (u 9) (y_257 (a 89)) := by rw [hy_257, up2_o (kd_ne (fx_89 hX) (fx_104 hX) (by decide))]; exact hW
  have hI := hI.ag (S := [114]) (y' := y_257) (by rw [hy_257]; exact ag.one (fx_104 hX)) (by decide)
  refine lv_iload_n hx hb dX12_planFrom_15 rfl (lv_at hl 2 rfl) ?_
  refine lv_iconst (v := 1) hx hb dX12_planFrom_16 (by decide) ?_
  refine lv_iadd hx hb dX12_planFrom_17 ?_
  refine lv_topi (fun x_258 ex_258 => ?_)
  have hx_258 := z_add ex_258 rfl (zk (x := 1) 1 rfl) (by omega) (by omega)
  refine lv_aload_n hx hb dX12_planFrom_18 rfl (lv_at hl 1 rfl) ?_
  refine tw_get (D := (dC, dI)) (v := .int (y_257 (a 50) 52)) (C := RX12) (T := TX12) (N := 58) hx hb hts (fun _ hh => (List.mem_cons_of_mem _ (List.mem_append_right _ (List.mem_append_left _ hh)))) hown hK hT (fx_50 hX) (by decide) cl_e60 rfl 52 (by decide) (hts (.fieldLink RX12 342 "TypingPoolModel" "planHandMany" "I") (List.mem_cons_of_mem _ (List.mem_append_left _ (List.mem_of_getElem? (i := 4) rfl)))) (fun _ h9 => h9) rfl dX12_planFrom_19 ?_
  refine lv_icmp_ge (tgt := 43) hx hb dX12_planFrom_22 (by decide) (fun c_259 => ?_) (fun c_259 => ?_)
  · have nc_259 := z_le rfl rfl c_259
    refine lv_iload_n hx hb dX12_planFrom_43 rfl (lv_at hl 3 rfl) ?_
    refine lv_iconst (v := 1) hx hb dX12_planFrom_44 (by decide) ?_
    refine lv_aload_n hx hb dX12_planFrom_45 rfl (lv_at hl 1 rfl) ?_
    refine tw_get (D := (dC, dI)) (v := .int (y_257 (a 50) 51)) (C := RX12) (T := TX12) (N := 58) hx hb hts (fun _ hh => (List.mem_cons_of_mem _ (List.mem_append_right _ (List.mem_append_left _ hh)))) hown hK hT (fx_50 hX) (by decide) cl_e60 rfl 51 (by decide) (hts (.fieldLink RX12 349 "TypingPoolModel" "planPieceMany" "I") (List.mem_cons_of_mem _ (List.mem_append_left _ (List.mem_of_getElem? (i := 5) rfl)))) (fun _ h9 => h9) rfl dX12_planFrom_46 ?_
    refine lv_ishl hx hb dX12_planFrom_49 ?_
    refine lv_topi (fun x_260 ex_260 => ?_)
    refine lv_iconst (v := 1) hx hb dX12_planFrom_50 (by decide) ?_
    refine lv_isub hx hb dX12_planFrom_51 ?_
    refine lv_topi (fun x_261 ex_261 => ?_)
    refine lv_icmp_ne (tgt := 66) hx hb dX12_planFrom_52 (by decide) (fun c_262 => ?_) (fun c_262 => ?_)
    · have nc_262 := z_ne rfl rfl c_262
      refine lv_iconst (v := 0) hx hb dX12_planFrom_66 (by decide) ?_
      refine lv_istore (lv' := [(9, .int 0), (8, .int (y (a 101) p0.toNatClampNeg)), (0, .ref (a 50)), (1, .int p0), (2, .int p1), (3, .int p2), (4, .int p3), (5, .int p4), (6, .int p5), (7, .int p6)]) hx hb dX12_planFrom_67 hl (by decide) rfl (fun ls hl => ?_)
      have loop_69 : ∀ (n : Nat) (i9 : Int32) (y_L69 : Nat → Nat → Int32) (g_L69 : Nat → Nat → Option Nat) (H : Heap) (locs : List Loc) (ls : Array Slot), (nP - i9.toInt).toNat < n → ag τ [60, 102, 114, 115] y y_L69 → IM a u τ y_L69 → agg τ g g_L69 → IW (u 1) (u 2) (u 9) (y_L69 (a 89)) → 0 ≤ i9.toInt → i9.toInt ≤ nP → (y_L69 (a 50) 51).toInt = (y (a 50) 51).toInt → (y_L69 (a 50) 52).toInt = (y (a 50) 52).toInt → tw (dC, dI) a k τ ln y_L69 g_L69 H → va_S A s.heap H locs → lv_has ls 12 [(0, .ref (a 50)), (1, .int p0), (2, .int p1), (3, .int p2), (4, .int p3), (5, .int p4), (6, .int p5), (7, .int p6), (8, .int (y (a 101) p0.toNatClampNeg)), (9, .int i9)] → W p l e (headSpec wm_g_planFrom ({ frames := 2 * (N + 1) + 405, cells := 0, slots := 0, locals := 200 * (N + 1) + 25620 })).room s m ([.ref (a 50), .int p0, .int p1, .int p2, .int p3, .int p4, .int p5, .int p6] : List Value).toArray below meth c H locs 0 0 (MQ below (va_Qv (fun (_ : Unit) => True) (fun (_ : Unit) (t : State) => (∃ (y' : Nat → Nat → Int32) (g' : Nat → Nat → Option Nat), ag τ [60, 102, 114, 115] y y' ∧ agg τ g g' ∧ IM a u τ y' ∧ (y' (a 50) 51).toInt = (y (a 50) 51).toInt ∧ (y' (a 50) 52).toInt = (y (a 50) 52).toInt ∧ tw (dC, dI) a k τ ln y' g' t.heap)) A) ([.ref (a 50), .int p0, .int p1, .int p2, .int p3, .int p4, .int p5, .int p6] : List Value).toArray s 0 0 A) (F0 m 69 ls []) := by
        intro n
        induction n with
        | zero => intro i9 y_L69 g_L69 H locs ls hlt; exact absurd hlt (Nat.not_lt_zero _)
        | succ n ih_69 =>
          intro i9 y_L69 g_L69 H locs ls hlt hG hI hGg hW hi69_0 hi69_1 hi69_2 hi69_3 hT hS hl
          refine lv_iload hx hb dX12_planFrom_69 (lv_at hl 9 rfl) ?_
          refine lv_aload_n hx hb dX12_planFrom_71 rfl (lv_at hl 0 rfl) ?_
          refine tw_get (D := (dC, dI)) (v := .int (y_L69 (a 50) 51)) (C := RX12) (T := TX12) (N := 58) hx hb hts (fun _ hh => (List.mem_cons_of_mem _ (List.mem_append_right _ (List.mem_append_left _ hh)))) hown hK hT (fx_50 hX) (by decide) cl_e60 rfl 51 (by decide) (hts (.fieldLink RX12 349 "TypingPoolModel" "planPieceMany" "I") (List.mem_cons_of_mem _ (List.mem_append_left _ (List.mem_of_getElem? (i := 5) rfl)))) (fun _ h9 => h9) rfl dX12_planFrom_72 ?_
          refine lv_icmp_ge (tgt := 229) hx hb dX12_planFrom_75 (by decide) (fun c_263 => ?_) (fun c_263 => ?_)
          · have nc_263 := z_le rfl rfl c_263
            exact W.vret hx hb hr (fun t ht hW9 => ⟨⟨(), rfl, trivial, ⟨y_L69, g_L69, hG, hGg, hI, by omega, by omega, tw_at ht hT⟩⟩, hS.F ht⟩) hS.2.2 dX12_planFrom_229
          · have nc_263 := z_nle rfl rfl c_263
            refine lv_aload_n hx hb dX12_planFrom_78 rfl (lv_at hl 0 rfl) ?_
            refine tw_get (D := (dC, dI)) (v := .ref (a 100)) (C := RX12) (T := TX12) (N := 58) hx hb hts (fun _ hh => (List.mem_cons_of_mem _ (List.mem_append_right _ (List.mem_append_left _ hh)))) hown hK hT (fx_50 hX) (by decide) cl_e60 rfl 49 (by decide) (hts (.fieldLink RX12 123 "TypingPoolModel" "planPieces" "[I") (List.mem_cons_of_mem _ (List.mem_append_left _ (List.mem_of_getElem? (i := 6) rfl)))) (fun _ h9 => h9) rfl dX12_planFrom_79 ?_
            refine lv_iload hx hb dX12_planFrom_82 (lv_at hl 9 rfl) ?_
            refine tw_iald hx hb hK hT 0 (fx_100 hX) (by decide) cl_e110 rfl (z_in rfl (by omega) (by omega)) dX12_planFrom_84 ?_
            have hv_2640 : vl nP (u 2) (y_L69 (a 100)) := (by rw [hG.at (fx_100 hX) (by decide)]; exact gp)
            have hv_264 := vl_at hv_2640 (x := i9) rfl (by omega) (by omega)
            refine lv_istore (lv' := [(10, .int (y_L69 (a 100) i9.toNatClampNeg)), (0, .ref (a 50)), (1, .int p0), (2, .int p1), (3, .int p2), (4, .int p3), (5, .int p4), (6, .int p5), (7, .int p6), (8, .int (y (a 101) p0.toNatClampNeg)), (9, .int i9)]) hx hb dX12_planFrom_85 hl (by decide) rfl (fun ls hl => ?_)
            refine lv_iload_n hx hb dX12_planFrom_87 rfl (lv_at hl 3 rfl) ?_
            refine lv_iload hx hb dX12_planFrom_88 (lv_at hl 10 rfl) ?_
            refine lv_ishr hx hb dX12_planFrom_90 ?_
            refine lv_topi (fun x_265 ex_265 => ?_)
            refine lv_iconst (v := 1) hx hb dX12_planFrom_91 (by decide) ?_
            refine lv_iand hx hb dX12_planFrom_92 ?_
            refine lv_topi (fun x_266 ex_266 => ?_)
            have hx_266 := z_and (x := x_265) (zk (x := 1) 1 rfl) (by omega)
            rw [← ex_266] at hx_266
            refine lv_iconst (v := 1) hx hb dX12_planFrom_93 (by decide) ?_
            refine lv_icmp_eq (tgt := 223) hx hb dX12_planFrom_94 (by decide) (fun c_267 => ?_) (fun c_267 => ?_)
            · have nc_267 := z_eq rfl (zk (x := 1) 1 rfl) c_267
              obtain ⟨x_268, ex_268⟩ : ∃ y : Int32, y = i9 + Int32.ofInt 1 := ⟨_, rfl⟩
              have hx_268 := z_add ex_268 rfl (zk (x := Int32.ofInt 1) 1 rfl) (by omega) (by omega)
              refine lv_iinc (v := x_268) (lv' := [(9, .int x_268), (10, .int (y_L69 (a 100) i9.toNatClampNeg)), (0, .ref (a 50)), (1, .int p0), (2, .int p1), (3, .int p2), (4, .int p3), (5, .int p4), (6, .int p5), (7, .int p6), (8, .int (y (a 101) p0.toNatClampNeg))]) hx hb dX12_planFrom_223 hl (k := 10) rfl ex_268.symm (by decide) rfl (fun ls hl => ?_)
              refine lv_goto (tgt := 69) hx hb dX12_planFrom_226 (by decide) ?_
              exact ih_69  x_268 y_L69 g_L69 H _ ls (by omega) hG hI hGg hW (by omega) (by omega) (by omega) (by omega) hT hS (lv_sub hl [2, 3, 4, 5, 6, 7, 8, 9, 10, 0] rfl)
            · have nc_267 := z_ne rfl (zk (x := 1) 1 rfl) c_267
              refine lv_aload_n hx hb dX12_planFrom_97 rfl (lv_at hl 1 rfl) ?_
              refine lv_iload hx hb dX12_planFrom_98 (lv_at hl 9 rfl) ?_
              refine lv_iload hx hb dX12_planFrom_100 (lv_at hl 0 rfl) ?_
              have hFc := tw_free hF hS hA
              refine va_calli (va_runV (As := [.int (y (a 101) p0.toNatClampNeg), .int (y_L69 (a 100) i9.toNatClampNeg)]) (rest := []) ⟨hx, hb, hml, hown, hts⟩ (m_mayDo l dC dI ad av H.size a k τ ln y_L69 g_L69 u (y (a 101) p0.toNatClampNeg) (y_L69 (a 100) i9.toNatClampNeg) hI (by omega) (by omega) (by omega) (by omega) hW) (cwV 2 hts (gi_4 (List.mem_cons_of_mem _ (List.mem_append_left _ (List.mem_of_getElem? (i := 7) rfl))) (List.mem_cons_of_mem _ (List.mem_append_left _ (List.mem_of_getElem? (i := 8) rfl))) (List.mem_cons_of_mem _ (List.mem_append_left _ (List.mem_of_getElem? (i := 9) rfl))) (List.mem_cons_of_mem _ (List.mem_append_left _ (List.mem_of_getElem? (i := 10) rfl))) (fun _ hh => (List.mem_cons_of_mem _ (List.mem_append_right _ (List.mem_append_right _ (List.mem_append_left _ hh))))) gd_m_mayDo) rfl rfl rfl (by decide +kernel) ⟨by show 385 + 1 ≤ 2 * (N + 1) + 405; omega, by show 8 + (3 + 11) + (25220) ≤ 200 * (N + 1) + 25620; omega⟩) ⟨pw_blind, tw_recv hK hT (fx_50 hX) (by decide) cl_e60 rfl, pw_use hT hK hFc hS hM⟩ rfl rfl hl.1 rfl (lv_room (Nat.le_of_ble_eq_true rfl)) dX12_planFrom_102 ⟨Nat.le_of_ble_eq_true rfl, Nat.le_of_ble_eq_true rfl⟩) hS (fun q _ h => hFc q h) hFc (fun r0 r_269 t H locs ht hvm hw hB hz1 hk1 hS => ?_)
              refine W.widen (k := 0) (n := 0) (Nat.le_of_ble_eq_true rfl) (Nat.le_of_ble_eq_true rfl) ?_
              clear hvm hz1 hk1
              subst hw
              rcases hB with ⟨y_270, g_271, hre, hgy_270, hggg_271, hI, hf_272, hT⟩ | ⟨y_273, g_274, hre, hgy_273, hggg_274, hI, hf_275, hT⟩
              · refine lq_top (v := 1) hre ?_
                rw [ht] at hT
                have hG := hG.tr hgy_270 (by decide)
                have hGg := hGg.tr hggg_271
                have hW : IW (u 1) (u 2) (u 9) (y_270 (a 89)) := by rw [hgy_270.at (fx_89 hX) (by decide)]; exact hW
                have : (y_270 (a 50) 51).toInt = (y_L69 (a 50) 51).toInt := congrArg Int32.toInt (hf_272 51 (by decide))
                have : (y_270 (a 50) 52).toInt = (y_L69 (a 50) 52).toInt := congrArg Int32.toInt (hf_272 52 (by decide))
                refine lv_if_ne (tgt := 111) hx hb dX12_planFrom_105 (by decide) (fun c_276 => ?_) (fun c_276 => absurd c_276 (by decide))
                refine lv_aload_n hx hb dX12_planFrom_111 rfl (lv_at hl 1 rfl) ?_
                refine lv_iload hx hb dX12_planFrom_112 (lv_at hl 9 rfl) ?_
                refine lv_iload hx hb dX12_planFrom_114 (lv_at hl 5 rfl) ?_
                refine lv_aload_n hx hb dX12_planFrom_116 rfl (lv_at hl 1 rfl) ?_
                refine lv_iload hx hb dX12_planFrom_117 (lv_at hl 0 rfl) ?_
                have hFc := tw_free hF hS hA
                refine va_calli (va_runV (As := [.int (y_L69 (a 100) i9.toNatClampNeg)]) (rest := [.int p3, .int (y (a 101) p0.toNatClampNeg), .ref (a 50)]) ⟨hx, hb, hml, hown, hts⟩ (m_work l dC dI ad av H.size a k τ ln y_270 g_271 u (y_L69 (a 100) i9.toNatClampNeg) hI (by omega) (by omega) (vb_at (im_a63 hI) (x := (y_L69 (a 100) i9.toNatClampNeg)) rfl (by omega) (by omega)) (vb_at (im_a69 hI) (x := (y_L69 (a 100) i9.toNatClampNeg)) rfl (by omega) (by omega)) hW) (cwV 1 hts (gi_4 (List.mem_cons_of_mem _ (List.mem_append_left _ (List.mem_of_getElem? (i := 11) rfl))) (List.mem_cons_of_mem _ (List.mem_append_left _ (List.mem_of_getElem? (i := 12) rfl))) (List.mem_cons_of_mem _ (List.mem_append_left _ (List.mem_of_getElem? (i := 13) rfl))) (List.mem_cons_of_mem _ (List.mem_append_left _ (List.mem_of_getElem? (i := 10) rfl))) (fun _ hh => (List.mem_cons_of_mem _ (List.mem_append_right _ (List.mem_append_right _ (List.mem_append_right _ (List.mem_append_left _ hh)))))) gd_m_work) rfl rfl rfl (by decide +kernel) ⟨by show 0 + 1 ≤ 2 * (N + 1) + 405; omega, by show 8 + (2 + 11) + (0) ≤ 200 * (N + 1) + 25620; omega⟩) ⟨pw_blind, tw_recv hK hT (fx_50 hX) (by decide) cl_e60 rfl, pw_use hT hK hFc hS hM⟩ rfl rfl hl.1 rfl (lv_room (Nat.le_of_ble_eq_true rfl)) dX12_planFrom_119 ⟨Nat.le_of_ble_eq_true rfl, Nat.le_of_ble_eq_true rfl⟩) hS (fun q _ h => hFc q h) hFc (fun r0 r_277 t H locs ht hvm hw hB hz1 hk1 hS => ?_)
                refine W.widen (k := 0) (n := 0) (Nat.le_of_ble_eq_true rfl) (Nat.le_of_ble_eq_true rfl) ?_
                clear hvm hz1 hk1
                subst hw
                obtain ⟨hf_278, hf_279, hT⟩ := hB
                rw [ht] at hT
                refine lv_aload_n hx hb dX12_planFrom_122 rfl (lv_at hl 1 rfl) ?_
                refine tw_get (D := (dC, dI)) (v := .ref (a 53)) (C := RX12) (T := TX12) (N := 58) hx hb hts (fun _ hh => (List.mem_cons_of_mem _ (List.mem_append_right _ (List.mem_append_left _ hh)))) hown hK hT (fx_50 hX) (by decide) cl_e60 rfl 2 (by decide) (hts (.fieldLink RX12 13 "TypingPoolModel" "speed" "[I") (List.mem_cons_of_mem _ (List.mem_append_left _ (List.mem_of_getElem? (i := 14) rfl)))) (fun _ h9 => h9) rfl dX12_planFrom_123 ?_
                refine lv_iload hx hb dX12_planFrom_126 (lv_at hl 9 rfl) ?_
                refine tw_iald hx hb hK hT 0 (fx_53 hX) (by decide) cl_e63 rfl (z_in rfl (by omega) (by omega)) dX12_planFrom_128 ?_
                have hv_280 := vb_at (im_a53 hI) (x := (y (a 101) p0.toNatClampNeg)) rfl (by omega) (by omega)
                refine lv_aload_n hx hb dX12_planFrom_129 rfl (lv_at hl 1 rfl) ?_
                refine tw_get (D := (dC, dI)) (v := .ref (a 68)) (C := RX12) (T := TX12) (N := 58) hx hb hts (fun _ hh => (List.mem_cons_of_mem _ (List.mem_append_right _ (List.mem_append_left _ hh)))) hown hK hT (fx_50 hX) (by decide) cl_e60 rfl 17 (by decide) (hts (.fieldLink RX12 52 "TypingPoolModel" "words" "[I") (List.mem_cons_of_mem _ (List.mem_append_left _ (List.mem_of_getElem? (i := 15) rfl)))) (fun _ h9 => h9) rfl dX12_planFrom_130 ?_
                refine lv_iload hx hb dX12_planFrom_133 (lv_at hl 0 rfl) ?_
                refine tw_iald hx hb hK hT 0 (fx_68 hX) (by decide) cl_e78 rfl (z_in rfl (by omega) (by omega)) dX12_planFrom_135 ?_
                refine lv_iload hx hb dX12_planFrom_136 (lv_at hl 6 rfl) ?_
                refine lv_iconst (v := (-1)) hx hb dX12_planFrom_138 (by decide) ?_
                refine lv_ixor hx hb dX12_planFrom_139 ?_
                refine lv_topi (fun x_281 ex_281 => ?_)
                refine lv_iand hx hb dX12_planFrom_140 ?_
                refine lv_topi (fun x_282 ex_282 => ?_)
                have hFc := tw_free hF hS hA
                refine va_calli (va_runS (As := [.int (y_270 (a 53) (y (a 101) p0.toNatClampNeg).toNatClampNeg), .int x_282]) (rest := [.int r_277, .int p3, .int (y (a 101) p0.toNatClampNeg), .ref (a 50)]) ⟨hx, hb, hml, hown, hts⟩ (m_rate l dC dI ad av H.size a k τ ln y_270 g_271 u (y_270 (a 53) (y (a 101) p0.toNatClampNeg).toNatClampNeg) x_282  (by omega) (by omega)) (va_cwS 2 hts (gi_3 (List.mem_cons_of_mem _ (List.mem_append_left _ (List.mem_of_getElem? (i := 16) rfl))) (List.mem_cons_of_mem _ (List.mem_append_left _ (List.mem_of_getElem? (i := 17) rfl))) (List.mem_cons_of_mem _ (List.mem_append_left _ (List.mem_of_getElem? (i := 10) rfl))) (fun _ hh => (List.mem_cons_of_mem _ (List.mem_append_right _ (List.mem_append_right _ (List.mem_append_right _ (List.mem_append_right _ (List.mem_append_left _ hh))))))) gd_m_rate) rfl rfl rfl (by decide +kernel) ⟨by show 2 + 1 ≤ 2 * (N + 1) + 405; omega, by show 8 + (2 + 11) + (120) ≤ 200 * (N + 1) + 25620; omega⟩) ⟨pw_blind, pw_use hT hK hFc hS hM⟩ rfl rfl hl.1 rfl (lv_room (Nat.le_of_ble_eq_true rfl)) dX12_planFrom_141 ⟨Nat.le_of_ble_eq_true rfl, Nat.le_of_ble_eq_true rfl⟩) hS (fun q _ h => hFc q h) hFc (fun r0 r_283 t H locs ht hvm hw hB hz1 hk1 hS => ?_)
                refine W.widen (k := 0) (n := 0) (Nat.le_of_ble_eq_true rfl) (Nat.le_of_ble_eq_true rfl) ?_
                clear hvm hz1 hk1
                subst hw
                obtain ⟨hf_284, hf_285, hT⟩ := hB
                rw [ht] at hT
                have hFc := tw_free hF hS hA
                refine va_calli (va_runS (As := [.int r_277, .int r_283]) (rest := [.int p3, .int (y (a 101) p0.toNatClampNeg), .ref (a 50)]) ⟨hx, hb, hml, hown, hts⟩ (m_minutes l dC dI ad av H.size a k τ ln y_270 g_271 u r_277 r_283  (by omega) (by omega) (by omega) (by omega)) (va_cwS 2 hts (gi_3 (List.mem_cons_of_mem _ (List.mem_append_left _ (List.mem_of_getElem? (i := 18) rfl))) (List.mem_cons_of_mem _ (List.mem_append_left _ (List.mem_of_getElem? (i := 19) rfl))) (List.mem_cons_of_mem _ (List.mem_append_left _ (List.mem_of_getElem? (i := 10) rfl))) (fun _ hh => (List.mem_cons_of_mem _ (List.mem_append_right _ (List.mem_append_right _ (List.mem_append_right _ (List.mem_append_right _ (List.mem_append_right _ (List.mem_append_left _ hh)))))))) gd_m_minutes) rfl rfl rfl (by decide +kernel) ⟨by show 0 + 1 ≤ 2 * (N + 1) + 405; omega, by show 8 + (2 + 11) + (0) ≤ 200 * (N + 1) + 25620; omega⟩) ⟨pw_blind, pw_use hT hK hFc hS hM⟩ rfl rfl hl.1 rfl (lv_room (Nat.le_of_ble_eq_true rfl)) dX12_planFrom_144 ⟨Nat.le_of_ble_eq_true rfl, Nat.le_of_ble_eq_true rfl⟩) hS (fun q _ h => hFc q h) hFc (fun r0 r_286 t H locs ht hvm hw hB hz1 hk1 hS => ?_)
                refine W.widen (k := 0) (n := 0) (Nat.le_of_ble_eq_true rfl) (Nat.le_of_ble_eq_true rfl) ?_
                clear hvm hz1 hk1
                subst hw
                obtain ⟨hf_287, hf_288, hT⟩ := hB
                rw [ht] at hT
                have hFc := tw_free hF hS hA
                refine va_calli (va_runV (As := [.int (y (a 101) p0.toNatClampNeg), .int p3, .int r_286]) (rest := []) ⟨hx, hb, hml, hown, hts⟩ (m_ends l dC dI ad av H.size a k τ ln y_270 g_271 u (y (a 101) p0.toNatClampNeg) p3 r_286 hI (by omega) (by omega) (by omega) (by omega) (by omega) (by omega) (show vb 38408 0 4800 (y_270 (a 99)) from by rw [hG.at (fx_99 hX) (by decide)]; exact hth) hW) (cwV 3 hts (gi_4 (List.mem_cons_of_mem _ (List.mem_append_left _ (List.mem_of_getElem? (i := 20) rfl))) (List.mem_cons_of_mem _ (List.mem_append_left _ (List.mem_of_getElem? (i := 21) rfl))) (List.mem_cons_of_mem _ (List.mem_append_left _ (List.mem_of_getElem? (i := 22) rfl))) (List.mem_cons_of_mem _ (List.mem_append_left _ (List.mem_of_getElem? (i := 10) rfl))) (fun _ hh => (List.mem_cons_of_mem _ (List.mem_append_right _ (List.mem_append_right _ (List.mem_append_right _ (List.mem_append_right _ (List.mem_append_right _ (List.mem_append_right _ (List.mem_append_left _ hh))))))))) gd_m_ends) rfl rfl rfl (by decide +kernel) ⟨by show 0 + 1 ≤ 2 * (N + 1) + 405; omega, by show 8 + (9 + 11) + (0) ≤ 200 * (N + 1) + 25620; omega⟩) ⟨pw_blind, tw_recv hK hT (fx_50 hX) (by decide) cl_e60 rfl, pw_use hT hK hFc hS hM⟩ rfl rfl hl.1 rfl (lv_room (Nat.le_of_ble_eq_true rfl)) dX12_planFrom_147 ⟨Nat.le_of_ble_eq_true rfl, Nat.le_of_ble_eq_true rfl⟩) hS (fun q _ h => hFc q h) hFc (fun r0 r_289 t H locs ht hvm hw hB hz1 hk1 hS => ?_)
                refine W.widen (k := 0) (n := 0) (Nat.le_of_ble_eq_true rfl) (Nat.le_of_ble_eq_true rfl) ?_
                clear hvm hz1 hk1
                subst hw
                obtain ⟨hf_290, hf_291, hT⟩ := hB
                rw [ht] at hT
                refine lv_istore (lv' := [(11, .int r_289), (10, .int (y_L69 (a 100) i9.toNatClampNeg)), (0, .ref (a 50)), (1, .int p0), (2, .int p1), (3, .int p2), (4, .int p3), (5, .int p4), (6, .int p5), (7, .int p6), (8, .int (y (a 101) p0.toNatClampNeg)), (9, .int i9)]) hx hb dX12_planFrom_150 hl (by decide) rfl (fun ls hl => ?_)
                refine lv_aload_n hx hb dX12_planFrom_152 rfl (lv_at hl 2 rfl) ?_
                refine tw_get (D := (dC, dI)) (v := .ref (a 104)) (C := RX12) (T := TX12) (N := 58) hx hb hts (fun _ hh => (List.mem_cons_of_mem _ (List.mem_append_right _ (List.mem_append_left _ hh)))) hown hK hT (fx_50 hX) (by decide) cl_e60 rfl 53 (by decide) (hts (.fieldLink RX12 129 "TypingPoolModel" "tryRow" "[I") (List.mem_cons_of_mem _ (List.mem_append_left _ (List.mem_of_getElem? (i := 3) rfl)))) (fun _ h9 => h9) rfl dX12_planFrom_153 ?_
                refine lv_iload_n hx hb dX12_planFrom_156 rfl (lv_at hl 5 rfl) ?_
                refine lv_iload hx hb dX12_planFrom_157 (lv_at hl 1 rfl) ?_
                refine tw_iast hx hb hK hT hF hS 0 (fx_104 hX) (by decide) (fun _ => cl_e114) rfl (z_in rfl (by omega) (by omega)) dX12_planFrom_159 (fun H locs hT hS => ?_)
                obtain ⟨y_292, hy_292, hT⟩ : ∃ z : Nat → Nat → Int32, z = up2 y_270 (a 104) p2.toNatClampNeg (y_L69 (a 100) i9.toNatClampNeg) ∧ tw (dC, dI) a k τ ln z g_271 H := ⟨_, rfl, hT⟩
                have hG : ag τ [60, 102, 114, 115] y y_292 := by rw [hy_292]; exact hG.up (fx_104 hX) (by decide)
                have : (y_292 (a 50) 51).toInt = (y_270 (a 50) 51).toInt := by rw [hy_292, up2_o (kd_ne (fx_50 hX) (fx_104 hX) (by decide))]
                have : (y_292 (a 50) 52).toInt = (y_270 (a 50) 52).toInt := by rw [hy_292, up2_o (kd_ne (fx_50 hX) (fx_104 hX) (by decide))]
                have hW : IW (u 1) (u 2) (u 9) (y_292 (a 89)) := by rw [hy_292, up2_o (kd_ne (fx_89 hX) (fx_104 hX) (by decide))]; exact hW
                have hI := hI.ag (S := [114]) (y' := y_292) (by rw [hy_292]; exact ag.one (fx_104 hX)) (by decide)
                refine lv_aload_n hx hb dX12_planFrom_160 rfl (lv_at hl 2 rfl) ?_
                refine lv_iload_n hx hb dX12_planFrom_161 rfl (lv_at hl 3 rfl) ?_
                refine lv_iload_n hx hb dX12_planFrom_162 rfl (lv_at hl 4 rfl) ?_
                refine lv_iconst (v := 1) hx hb dX12_planFrom_163 (by decide) ?_
                refine lv_iload hx hb dX12_planFrom_164 (lv_at hl 11 rfl) ?_
                refine lv_ishl hx hb dX12_planFrom_166 ?_
                refine lv_topi (fun x_293 ex_293 => ?_)
                refine lv_ior hx hb dX12_planFrom_167 ?_
                refine lv_topi (fun x_294 ex_294 => ?_)
                refine lv_iload_n hx hb dX12_planFrom_168 rfl (lv_at hl 5 rfl) ?_
                refine lv_iconst (v := 1) hx hb dX12_planFrom_169 (by decide) ?_
                refine lv_iadd hx hb dX12_planFrom_170 ?_
                refine lv_topi (fun x_295 ex_295 => ?_)
                have hx_295 := z_add ex_295 rfl (zk (x := 1) 1 rfl) (by omega) (by omega)
                refine lv_iload hx hb dX12_planFrom_171 (lv_at hl 0 rfl) ?_
                refine lv_iload hx hb dX12_planFrom_173 (lv_at hl 7 rfl) ?_
                refine lv_aload_n hx hb dX12_planFrom_175 rfl (lv_at hl 2 rfl) ?_
                refine tw_get (D := (dC, dI)) (v := .ref (a 68)) (C := RX12) (T := TX12) (N := 58) hx hb hts (fun _ hh => (List.mem_cons_of_mem _ (List.mem_append_right _ (List.mem_append_left _ hh)))) hown hK hT (fx_50 hX) (by decide) cl_e60 rfl 17 (by decide) (hts (.fieldLink RX12 52 "TypingPoolModel" "words" "[I") (List.mem_cons_of_mem _ (List.mem_append_left _ (List.mem_of_getElem? (i := 15) rfl)))) (fun _ h9 => h9) rfl dX12_planFrom_176 ?_
                refine lv_iload hx hb dX12_planFrom_179 (lv_at hl 1 rfl) ?_
                refine tw_iald hx hb hK hT 0 (fx_68 hX) (by decide) cl_e78 rfl (z_in rfl (by omega) (by omega)) dX12_planFrom_181 ?_
                refine lv_ior hx hb dX12_planFrom_182 ?_
                refine lv_topi (fun x_296 ex_296 => ?_)
                refine lv_iload hx hb dX12_planFrom_183 (lv_at hl 8 rfl) ?_
                refine lv_iload hx hb dX12_planFrom_185 (lv_at hl 0 rfl) ?_
                refine lv_aload_n hx hb dX12_planFrom_187 rfl (lv_at hl 2 rfl) ?_
                refine tw_get (D := (dC, dI)) (v := .ref (a 67)) (C := RX12) (T := TX12) (N := 58) hx hb hts (fun _ hh => (List.mem_cons_of_mem _ (List.mem_append_right _ (List.mem_append_left _ hh)))) hown hK hT (fx_50 hX) (by decide) cl_e60 rfl 16 (by decide) (hts (.fieldLink RX12 49 "TypingPoolModel" "due" "[I") (List.mem_cons_of_mem _ (List.mem_append_left _ (List.mem_of_getElem? (i := 23) rfl)))) (fun _ h9 => h9) rfl dX12_planFrom_188 ?_
                refine lv_iload hx hb dX12_planFrom_191 (lv_at hl 1 rfl) ?_
                refine tw_iald hx hb hK hT 0 (fx_67 hX) (by decide) cl_e77 rfl (z_in rfl (by omega) (by omega)) dX12_planFrom_193 ?_
                refine lv_icmp_le (tgt := 201) hx hb dX12_planFrom_194 (by decide) (fun c_297 => ?_) (fun c_297 => ?_)
                · have nc_297 := z_le rfl rfl c_297
                  refine lv_iconst (v := 0) hx hb dX12_planFrom_201 (by decide) ?_
                  refine lv_iadd hx hb dX12_planFrom_202 ?_
                  refine lv_topi (fun x_298 ex_298 => ?_)
                  refine lv_iload hx hb dX12_planFrom_203 (lv_at hl 9 rfl) ?_
                  refine lv_iconst (v := 0) hx hb dX12_planFrom_205 (by decide) ?_
                  refine lv_iload hx hb dX12_planFrom_206 (lv_at hl 0 rfl) ?_
                  refine lv_aload_n hx hb dX12_planFrom_208 rfl (lv_at hl 2 rfl) ?_
                  refine tw_get (D := (dC, dI)) (v := .ref (a 67)) (C := RX12) (T := TX12) (N := 58) hx hb hts (fun _ hh => (List.mem_cons_of_mem _ (List.mem_append_right _ (List.mem_append_left _ hh)))) hown hK hT (fx_50 hX) (by decide) cl_e60 rfl 16 (by decide) (hts (.fieldLink RX12 49 "TypingPoolModel" "due" "[I") (List.mem_cons_of_mem _ (List.mem_append_left _ (List.mem_of_getElem? (i := 23) rfl)))) (fun _ h9 => h9) rfl dX12_planFrom_209 ?_
                  refine lv_iload hx hb dX12_planFrom_212 (lv_at hl 1 rfl) ?_
                  refine tw_iald hx hb hK hT 0 (fx_67 hX) (by decide) cl_e77 rfl (z_in rfl (by omega) (by omega)) dX12_planFrom_214 ?_
                  refine lv_isub hx hb dX12_planFrom_215 ?_
                  refine lv_topi (fun x_299 ex_299 => ?_)
                  refine va_mmax hx hb (by rw [hml]; exact hl.1.symm) hown (hts (.methodLink RX12 281 Lib.Math.max.name) (List.mem_cons_of_mem _ (List.mem_append_left _ (List.mem_of_getElem? (i := 24) rfl)))) (hts (.static Lib.Math.max.name) (List.mem_cons_of_mem _ (List.mem_append_left _ (List.mem_of_getElem? (i := 25) rfl)))) (hts (.initialized "java/lang/Math") (List.mem_cons_of_mem _ (List.mem_append_left _ (List.mem_of_getElem? (i := 26) rfl)))) (hts (.code Lib.Math.max.name Lib.Math.max.code 2 (some .int)) (List.mem_cons_of_mem _ (List.mem_append_left _ (List.mem_of_getElem? (i := 27) rfl)))) (Nat.le_of_ble_eq_true rfl) (Nat.le_of_ble_eq_true rfl) (Nat.le_of_ble_eq_true rfl) (Nat.le_of_ble_eq_true rfl) dX12_planFrom_216 ?_
                  refine lv_topi (fun x_300 ex_300 => ?_)
                  have hx_300 := z_max ex_300 (zk (x := 0) 0 rfl) rfl
                  refine lv_iadd hx hb dX12_planFrom_219 ?_
                  refine lv_topi (fun x_301 ex_301 => ?_)
                  have h5_302 := pc5_step (i := i9) huA huB (by omega) (by omega) ex_265 ex_266 nc_267 ex_293 ex_294
                  have hFc := tw_free hF hS hA
                  refine va_callv (va_runV (As := [.int p0, .int x_294, .int x_295, .int r_289, .int x_296, .int x_298, .int x_301]) (rest := []) ⟨hx, hb, hml, hown, hts⟩ (ih1 l dC dI ad av H.size a k τ ln y_292 g_271 u p0 x_294 x_295 r_289 x_296 x_298 x_301 nP nH hI (by omega) (by omega) gn (by rw [hG.at (fx_100 hX) (by decide)]; exact gp) (by rw [hG.at (fx_101 hX) (by decide)]; exact gh) (show vb 38408 0 4800 (y_292 (a 99)) from by rw [hG.at (fx_99 hX) (by decide)]; exact hth) (by omega) (by omega) (by omega) (by omega) (by omega) (by omega) (by omega) (by omega) hW) (cwV 7 hts (gi_4 (List.mem_cons_of_mem _ (List.mem_append_left _ (List.mem_of_getElem? (i := 28) rfl))) (List.mem_cons_of_mem _ (List.mem_append_left _ (List.mem_of_getElem? (i := 29) rfl))) (List.mem_cons_of_mem _ (List.mem_append_left _ (List.mem_of_getElem? (i := 30) rfl))) (List.mem_cons_of_mem _ (List.mem_append_left _ (List.mem_of_getElem? (i := 10) rfl))) (fun _ hh => (List.mem_cons.mp hh).elim (fun ee => by rw [ee]; exact (List.mem_cons_of_mem _ (List.mem_append_left _ (List.mem_of_getElem? (i := 0) rfl)))) (fun h9 => List.mem_cons_of_mem _ h9)) gd_g_planFrom) rfl rfl rfl (by decide +kernel) ⟨by show 2 * N + 405 + 1 ≤ 2 * (N + 1) + 405; omega, by show 8 + (12 + 11) + (200 * N + 25620) ≤ 200 * (N + 1) + 25620; omega⟩) ⟨pw_blind, tw_recv hK hT (fx_50 hX) (by decide) cl_e60 rfl, pw_use hT hK hFc hS hM⟩ rfl rfl hl.1 rfl (lv_room (Nat.le_of_ble_eq_true rfl)) dX12_planFrom_220 ⟨Nat.le_of_ble_eq_true rfl, Nat.le_of_ble_eq_true rfl⟩) hS (fun q _ h => hFc q h) hFc (fun u0 t H locs ht hvm hw hB hz1 hk1 hS => ?_)
                  refine W.widen (k := 0) (n := 0) (Nat.le_of_ble_eq_true rfl) (Nat.le_of_ble_eq_true rfl) ?_
                  clear hvm hz1 hk1
                  obtain ⟨y_304, g_305, hgy_304, hggg_305, hI, hf_306, hf_307, hT⟩ := hB
                  rw [ht] at hT
                  have hG := hG.tr hgy_304 (by decide)
                  have hGg := hGg.tr hggg_305
                  have hW : IW (u 1) (u 2) (u 9) (y_304 (a 89)) := by rw [hgy_304.at (fx_89 hX) (by decide)]; exact hW
                  obtain ⟨x_308, ex_308⟩ : ∃ y : Int32, y = i9 + Int32.ofInt 1 := ⟨_, rfl⟩
                  have hx_308 := z_add ex_308 rfl (zk (x := Int32.ofInt 1) 1 rfl) (by omega) (by omega)
                  refine lv_iinc (v := x_308) (lv' := [(9, .int x_308), (11, .int r_289), (10, .int (y_L69 (a 100) i9.toNatClampNeg)), (0, .ref (a 50)), (1, .int p0), (2, .int p1), (3, .int p2), (4, .int p3), (5, .int p4), (6, .int p5), (7, .int p6), (8, .int (y (a 101) p0.toNatClampNeg))]) hx hb dX12_planFrom_223 hl (k := 11) rfl ex_308.symm (by decide) rfl (fun ls hl => ?_)
                  refine lv_goto (tgt := 69) hx hb dX12_planFrom_226 (by decide) ?_
                  exact ih_69  x_308 y_304 g_305 H _ ls (by omega) hG hI hGg hW (by omega) (by omega) (by omega) (by omega) hT hS (lv_sub hl [3, 4, 5, 6, 7, 8, 9, 10, 11, 0] rfl)
                · have nc_297 := z_nle rfl rfl c_297
                  refine lv_iconst (v := 1) hx hb dX12_planFrom_197 (by decide) ?_
                  refine lv_goto (tgt := 202) hx hb dX12_planFrom_198 (by decide) ?_
                  refine lv_iadd hx hb dX12_planFrom_202 ?_
                  refine lv_topi (fun x_309 ex_309 => ?_)
                  refine lv_iload hx hb dX12_planFrom_203 (lv_at hl 9 rfl) ?_
                  refine lv_iconst (v := 0) hx hb dX12_planFrom_205 (by decide) ?_
                  refine lv_iload hx hb dX12_planFrom_206 (lv_at hl 0 rfl) ?_
                  refine lv_aload_n hx hb dX12_planFrom_208 rfl (lv_at hl 2 rfl) ?_
                  refine tw_get (D := (dC, dI)) (v := .ref (a 67)) (C := RX12) (T := TX12) (N := 58) hx hb hts (fun _ hh => (List.mem_cons_of_mem _ (List.mem_append_right _ (List.mem_append_left _ hh)))) hown hK hT (fx_50 hX) (by decide) cl_e60 rfl 16 (by decide) (hts (.fieldLink RX12 49 "TypingPoolModel" "due" "[I") (List.mem_cons_of_mem _ (List.mem_append_left _ (List.mem_of_getElem? (i := 23) rfl)))) (fun _ h9 => h9) rfl dX12_planFrom_209 ?_
                  refine lv_iload hx hb dX12_planFrom_212 (lv_at hl 1 rfl) ?_
                  refine tw_iald hx hb hK hT 0 (fx_67 hX) (by decide) cl_e77 rfl (z_in rfl (by omega) (by omega)) dX12_planFrom_214 ?_
                  refine lv_isub hx hb dX12_planFrom_215 ?_
                  refine lv_topi (fun x_310 ex_310 => ?_)
                  refine va_mmax hx hb (by rw [hml]; exact hl.1.symm) hown (hts (.methodLink RX12 281 Lib.Math.max.name) (List.mem_cons_of_mem _ (List.mem_append_left _ (List.mem_of_getElem? (i := 24) rfl)))) (hts (.static Lib.Math.max.name) (List.mem_cons_of_mem _ (List.mem_append_left _ (List.mem_of_getElem? (i := 25) rfl)))) (hts (.initialized "java/lang/Math") (List.mem_cons_of_mem _ (List.mem_append_left _ (List.mem_of_getElem? (i := 26) rfl)))) (hts (.code Lib.Math.max.name Lib.Math.max.code 2 (some .int)) (List.mem_cons_of_mem _ (List.mem_append_left _ (List.mem_of_getElem? (i := 27) rfl)))) (Nat.le_of_ble_eq_true rfl) (Nat.le_of_ble_eq_true rfl) (Nat.le_of_ble_eq_true rfl) (Nat.le_of_ble_eq_true rfl) dX12_planFrom_216 ?_
                  refine lv_topi (fun x_311 ex_311 => ?_)
                  have hx_311 := z_max ex_311 (zk (x := 0) 0 rfl) rfl
                  refine lv_iadd hx hb dX12_planFrom_219 ?_
                  refine lv_topi (fun x_312 ex_312 => ?_)
                  have h5_313 := pc5_step (i := i9) huA huB (by omega) (by omega) ex_265 ex_266 nc_267 ex_293 ex_294
                  have hFc := tw_free hF hS hA
                  refine va_callv (va_runV (As := [.int p0, .int x_294, .int x_295, .int r_289, .int x_296, .int x_309, .int x_312]) (rest := []) ⟨hx, hb, hml, hown, hts⟩ (ih1 l dC dI ad av H.size a k τ ln y_292 g_271 u p0 x_294 x_295 r_289 x_296 x_309 x_312 nP nH hI (by omega) (by omega) gn (by rw [hG.at (fx_100 hX) (by decide)]; exact gp) (by rw [hG.at (fx_101 hX) (by decide)]; exact gh) (show vb 38408 0 4800 (y_292 (a 99)) from by rw [hG.at (fx_99 hX) (by decide)]; exact hth) (by omega) (by omega) (by omega) (by omega) (by omega) (by omega) (by omega) (by omega) hW) (cwV 7 hts (gi_4 (List.mem_cons_of_mem _ (List.mem_append_left _ (List.mem_of_getElem? (i := 28) rfl))) (List.mem_cons_of_mem _ (List.mem_append_left _ (List.mem_of_getElem? (i := 29) rfl))) (List.mem_cons_of_mem _ (List.mem_append_left _ (List.mem_of_getElem? (i := 30) rfl))) (List.mem_cons_of_mem _ (List.mem_append_left _ (List.mem_of_getElem? (i := 10) rfl))) (fun _ hh => (List.mem_cons.mp hh).elim (fun ee => by rw [ee]; exact (List.mem_cons_of_mem _ (List.mem_append_left _ (List.mem_of_getElem? (i := 0) rfl)))) (fun h9 => List.mem_cons_of_mem _ h9)) gd_g_planFrom) rfl rfl rfl (by decide +kernel) ⟨by show 2 * N + 405 + 1 ≤ 2 * (N + 1) + 405; omega, by show 8 + (12 + 11) + (200 * N + 25620) ≤ 200 * (N + 1) + 25620; omega⟩) ⟨pw_blind, tw_recv hK hT (fx_50 hX) (by decide) cl_e60 rfl, pw_use hT hK hFc hS hM⟩ rfl rfl hl.1 rfl (lv_room (Nat.le_of_ble_eq_true rfl)) dX12_planFrom_220 ⟨Nat.le_of_ble_eq_true rfl, Nat.le_of_ble_eq_true rfl⟩) hS (fun q _ h => hFc q h) hFc (fun u0 t H locs ht hvm hw hB hz1 hk1 hS => ?_)
                  refine W.widen (k := 0) (n := 0) (Nat.le_of_ble_eq_true rfl) (Nat.le_of_ble_eq_true rfl) ?_
                  clear hvm hz1 hk1
                  obtain ⟨y_315, g_316, hgy_315, hggg_316, hI, hf_317, hf_318, hT⟩ := hB
                  rw [ht] at hT
                  have hG := hG.tr hgy_315 (by decide)
                  have hGg := hGg.tr hggg_316
                  have hW : IW (u 1) (u 2) (u 9) (y_315 (a 89)) := by rw [hgy_315.at (fx_89 hX) (by decide)]; exact hW
                  obtain ⟨x_319, ex_319⟩ : ∃ y : Int32, y = i9 + Int32.ofInt 1 := ⟨_, rfl⟩
                  have hx_319 := z_add ex_319 rfl (zk (x := Int32.ofInt 1) 1 rfl) (by omega) (by omega)
                  refine lv_iinc (v := x_319) (lv' := [(9, .int x_319), (11, .int r_289), (10, .int (y_L69 (a 100) i9.toNatClampNeg)), (0, .ref (a 50)), (1, .int p0), (2, .int p1), (3, .int p2), (4, .int p3), (5, .int p4), (6, .int p5), (7, .int p6), (8, .int (y (a 101) p0.toNatClampNeg))]) hx hb dX12_planFrom_223 hl (k := 11) rfl ex_319.symm (by decide) rfl (fun ls hl => ?_)
                  refine lv_goto (tgt := 69) hx hb dX12_planFrom_226 (by decide) ?_
                  exact ih_69  x_319 y_315 g_316 H _ ls (by omega) hG hI hGg hW (by omega) (by omega) (by omega) (by omega) hT hS (lv_sub hl [3, 4, 5, 6, 7, 8, 9, 10, 11, 0] rfl)
              · refine lq_top (v := 0) hre ?_
                rw [ht] at hT
                have hG := hG.tr hgy_273 (by decide)
                have hGg := hGg.tr hggg_274
                have hW : IW (u 1) (u 2) (u 9) (y_273 (a 89)) := by rw [hgy_273.at (fx_89 hX) (by decide)]; exact hW
                have : (y_273 (a 50) 51).toInt = (y_L69 (a 50) 51).toInt := congrArg Int32.toInt (hf_275 51 (by decide))
                have : (y_273 (a 50) 52).toInt = (y_L69 (a 50) 52).toInt := congrArg Int32.toInt (hf_275 52 (by decide))
                refine lv_if_ne (tgt := 111) hx hb dX12_planFrom_105 (by decide) (fun c_320 => absurd c_320 (by decide)) (fun c_320 => ?_)
                refine lv_goto (tgt := 223) hx hb dX12_planFrom_108 (by decide) ?_
                obtain ⟨x_321, ex_321⟩ : ∃ y : Int32, y = i9 + Int32.ofInt 1 := ⟨_, rfl⟩
                have hx_321 := z_add ex_321 rfl (zk (x := Int32.ofInt 1) 1 rfl) (by omega) (by omega)
                refine lv_iinc (v := x_321) (lv' := [(9, .int x_321), (10, .int (y_L69 (a 100) i9.toNatClampNeg)), (0, .ref (a 50)), (1, .int p0), (2, .int p1), (3, .int p2), (4, .int p3), (5, .int p4), (6, .int p5), (7, .int p6), (8, .int (y (a 101) p0.toNatClampNeg))]) hx hb dX12_planFrom_223 hl (k := 10) rfl ex_321.symm (by decide) rfl (fun ls hl => ?_)
                refine lv_goto (tgt := 69) hx hb dX12_planFrom_226 (by decide) ?_
                exact ih_69  x_321 y_273 g_274 H _ ls (by omega) hG hI hGg hW (by omega) (by omega) (by omega) (by omega) hT hS (lv_sub hl [2, 3, 4, 5, 6, 7, 8, 9, 10, 0] rfl)
      have hp_322 : (0 : Int32).toInt = 0 := (zk (x := 0) 0 rfl)
      exact loop_69 _ (0 : Int32) y_257 g H _ ls (Nat.lt_succ_self _) hG hI hGg hW (by omega) (by omega) (by omega) (by omega) hT hS (lv_sub hl [2, 3, 4, 5, 6, 7, 8, 9, 1, 0] rfl)
    · have nc_262 := z_eq rfl rfl c_262
      refine lv_aload_n hx hb dX12_planFrom_55 rfl (lv_at hl 1 rfl) ?_
      refine lv_iload_n hx hb dX12_planFrom_56 rfl (lv_at hl 4 rfl) ?_
      refine lv_iconst (v := 1) hx hb dX12_planFrom_57 (by decide) ?_
      refine lv_iadd hx hb dX12_planFrom_58 ?_
      refine lv_topi (fun x_323 ex_323 => ?_)
      have hx_323 := z_add ex_323 rfl (zk (x := 1) 1 rfl) (by omega) (by omega)
      refine lv_iload hx hb dX12_planFrom_59 (lv_at hl 7 rfl) ?_
      refine lv_iload hx hb dX12_planFrom_61 (lv_at hl 8 rfl) ?_
      have hFc := tw_free hF hS hA
      refine va_callv (va_runV (As := [.int x_323, .int p5, .int p6]) (rest := []) ⟨hx, hb, hml, hown, hts⟩ (m_keep l dC dI ad av H.size a k τ ln y_257 g u x_323 p5 p6 hI (by omega) (by omega) hW) (cwV 3 hts (gi_4 (List.mem_cons_of_mem _ (List.mem_append_left _ (List.mem_of_getElem? (i := 31) rfl))) (List.mem_cons_of_mem _ (List.mem_append_left _ (List.mem_of_getElem? (i := 32) rfl))) (List.mem_cons_of_mem _ (List.mem_append_left _ (List.mem_of_getElem? (i := 33) rfl))) (List.mem_cons_of_mem _ (List.mem_append_left _ (List.mem_of_getElem? (i := 10) rfl))) (fun _ hh => (List.mem_cons_of_mem _ (List.mem_append_right _ (List.mem_append_right _ (List.mem_append_right _ (List.mem_append_right _ (List.mem_append_right _ (List.mem_append_right _ (List.mem_append_right _ (List.mem_append_left _ hh)))))))))) gd_m_keep) rfl rfl rfl (by decide +kernel) ⟨by show 0 + 1 ≤ 2 * (N + 1) + 405; omega, by show 8 + (5 + 11) + (0) ≤ 200 * (N + 1) + 25620; omega⟩) ⟨pw_blind, tw_recv hK hT (fx_50 hX) (by decide) cl_e60 rfl, pw_use hT hK hFc hS hM⟩ rfl rfl hl.1 rfl (lv_room (Nat.le_of_ble_eq_true rfl)) dX12_planFrom_63 ⟨Nat.le_of_ble_eq_true rfl, Nat.le_of_ble_eq_true rfl⟩) hS (fun q _ h => hFc q h) hFc (fun u0 t H locs ht hvm hw hB hz1 hk1 hS => ?_)
      refine W.widen (k := 0) (n := 0) (Nat.le_of_ble_eq_true rfl) (Nat.le_of_ble_eq_true rfl) ?_
      clear hvm hz1 hk1
      obtain ⟨y_325, hgy_325, hI, hf_326, hf_327, hT⟩ := hB
      rw [ht] at hT
      have hG := hG.tr hgy_325 (by decide)
      have hW : IW (u 1) (u 2) (u 9) (y_325 (a 89)) := by rw [hgy_325.at (fx_89 hX) (by decide)]; exact hW
      refine lv_iconst (v := 0) hx hb dX12_planFrom_66 (by decide) ?_
      refine lv_istore (lv' := [(9, .int 0), (8, .int (y (a 101) p0.toNatClampNeg)), (0, .ref (a 50)), (1, .int p0), (2, .int p1), (3, .int p2), (4, .int p3), (5, .int p4), (6, .int p5), (7, .int p6)]) hx hb dX12_planFrom_67 hl (by decide) rfl (fun ls hl => ?_)
      have loop_69 : ∀ (n : Nat) (i9 : Int32) (y_L69 : Nat → Nat → Int32) (g_L69 : Nat → Nat → Option Nat) (H : Heap) (locs : List Loc) (ls : Array Slot), (nP - i9.toInt).toNat < n → ag τ [60, 102, 114, 115] y y_L69 → IM a u τ y_L69 → agg τ g g_L69 → IW (u 1) (u 2) (u 9) (y_L69 (a 89)) → 0 ≤ i9.toInt → i9.toInt ≤ nP → (y_L69 (a 50) 51).toInt = (y (a 50) 51).toInt → (y_L69 (a 50) 52).toInt = (y (a 50) 52).toInt → tw (dC, dI) a k τ ln y_L69 g_L69 H → va_S A s.heap H locs → lv_has ls 12 [(0, .ref (a 50)), (1, .int p0), (2, .int p1), (3, .int p2), (4, .int p3), (5, .int p4), (6, .int p5), (7, .int p6), (8, .int (y (a 101) p0.toNatClampNeg)), (9, .int i9)] → W p l e (headSpec wm_g_planFrom ({ frames := 2 * (N + 1) + 405, cells := 0, slots := 0, locals := 200 * (N + 1) + 25620 })).room s m ([.ref (a 50), .int p0, .int p1, .int p2, .int p3, .int p4, .int p5, .int p6] : List Value).toArray below meth c H locs 0 0 (MQ below (va_Qv (fun (_ : Unit) => True) (fun (_ : Unit) (t : State) => (∃ (y' : Nat → Nat → Int32) (g' : Nat → Nat → Option Nat), ag τ [60, 102, 114, 115] y y' ∧ agg τ g g' ∧ IM a u τ y' ∧ (y' (a 50) 51).toInt = (y (a 50) 51).toInt ∧ (y' (a 50) 52).toInt = (y (a 50) 52).toInt ∧ tw (dC, dI) a k τ ln y' g' t.heap)) A) ([.ref (a 50), .int p0, .int p1, .int p2, .int p3, .int p4, .int p5, .int p6] : List Value).toArray s 0 0 A) (F0 m 69 ls []) := by
        intro n
        induction n with
        | zero => intro i9 y_L69 g_L69 H locs ls hlt; exact absurd hlt (Nat.not_lt_zero _)
        | succ n ih_69 =>
          intro i9 y_L69 g_L69 H locs ls hlt hG hI hGg hW hi69_0 hi69_1 hi69_2 hi69_3 hT hS hl
          refine lv_iload hx hb dX12_planFrom_69 (lv_at hl 9 rfl) ?_
          refine lv_aload_n hx hb dX12_planFrom_71 rfl (lv_at hl 0 rfl) ?_
          refine tw_get (D := (dC, dI)) (v := .int (y_L69 (a 50) 51)) (C := RX12) (T := TX12) (N := 58) hx hb hts (fun _ hh => (List.mem_cons_of_mem _ (List.mem_append_right _ (List.mem_append_left _ hh)))) hown hK hT (fx_50 hX) (by decide) cl_e60 rfl 51 (by decide) (hts (.fieldLink RX12 349 "TypingPoolModel" "planPieceMany" "I") (List.mem_cons_of_mem _ (List.mem_append_left _ (List.mem_of_getElem? (i := 5) rfl)))) (fun _ h9 => h9) rfl dX12_planFrom_72 ?_
          refine lv_icmp_ge (tgt := 229) hx hb dX12_planFrom_75 (by decide) (fun c_328 => ?_) (fun c_328 => ?_)
          · have nc_328 := z_le rfl rfl c_328
            exact W.vret hx hb hr (fun t ht hW9 => ⟨⟨(), rfl, trivial, ⟨y_L69, g_L69, hG, hGg, hI, by omega, by omega, tw_at ht hT⟩⟩, hS.F ht⟩) hS.2.2 dX12_planFrom_229
          · have nc_328 := z_nle rfl rfl c_328
            refine lv_aload_n hx hb dX12_planFrom_78 rfl (lv_at hl 0 rfl) ?_
            refine tw_get (D := (dC, dI)) (v := .ref (a 100)) (C := RX12) (T := TX12) (N := 58) hx hb hts (fun _ hh => (List.mem_cons_of_mem _ (List.mem_append_right _ (List.mem_append_left _ hh)))) hown hK hT (fx_50 hX) (by decide) cl_e60 rfl 49 (by decide) (hts (.fieldLink RX12 123 "TypingPoolModel" "planPieces" "[I") (List.mem_cons_of_mem _ (List.mem_append_left _ (List.mem_of_getElem? (i := 6) rfl)))) (fun _ h9 => h9) rfl dX12_planFrom_79 ?_
            refine lv_iload hx hb dX12_planFrom_82 (lv_at hl 9 rfl) ?_
            refine tw_iald hx hb hK hT 0 (fx_100 hX) (by decide) cl_e110 rfl (z_in rfl (by omega) (by omega)) dX12_planFrom_84 ?_
            have hv_3290 : vl nP (u 2) (y_L69 (a 100)) := (by rw [hG.at (fx_100 hX) (by decide)]; exact gp)
            have hv_329 := vl_at hv_3290 (x := i9) rfl (by omega) (by omega)
            refine lv_istore (lv' := [(10, .int (y_L69 (a 100) i9.toNatClampNeg)), (0, .ref (a 50)), (1, .int p0), (2, .int p1), (3, .int p2), (4, .int p3), (5, .int p4), (6, .int p5), (7, .int p6), (8, .int (y (a 101) p0.toNatClampNeg)), (9, .int i9)]) hx hb dX12_planFrom_85 hl (by decide) rfl (fun ls hl => ?_)
            refine lv_iload_n hx hb dX12_planFrom_87 rfl (lv_at hl 3 rfl) ?_
            refine lv_iload hx hb dX12_planFrom_88 (lv_at hl 10 rfl) ?_
            refine lv_ishr hx hb dX12_planFrom_90 ?_
            refine lv_topi (fun x_330 ex_330 => ?_)
            refine lv_iconst (v := 1) hx hb dX12_planFrom_91 (by decide) ?_
            refine lv_iand hx hb dX12_planFrom_92 ?_
            refine lv_topi (fun x_331 ex_331 => ?_)
            have hx_331 := z_and (x := x_330) (zk (x := 1) 1 rfl) (by omega)
            rw [← ex_331] at hx_331
            refine lv_iconst (v := 1) hx hb dX12_planFrom_93 (by decide) ?_
            refine lv_icmp_eq (tgt := 223) hx hb dX12_planFrom_94 (by decide) (fun c_332 => ?_) (fun c_332 => ?_)
            · have nc_332 := z_eq rfl (zk (x := 1) 1 rfl) c_332
              obtain ⟨x_333, ex_333⟩ : ∃ y : Int32, y = i9 + Int32.ofInt 1 := ⟨_, rfl⟩
              have hx_333 := z_add ex_333 rfl (zk (x := Int32.ofInt 1) 1 rfl) (by omega) (by omega)
              refine lv_iinc (v := x_333) (lv' := [(9, .int x_333), (10, .int (y_L69 (a 100) i9.toNatClampNeg)), (0, .ref (a 50)), (1, .int p0), (2, .int p1), (3, .int p2), (4, .int p3), (5, .int p4), (6, .int p5), (7, .int p6), (8, .int (y (a 101) p0.toNatClampNeg))]) hx hb dX12_planFrom_223 hl (k := 10) rfl ex_333.symm (by decide) rfl (fun ls hl => ?_)
              refine lv_goto (tgt := 69) hx hb dX12_planFrom_226 (by decide) ?_
              exact ih_69  x_333 y_L69 g_L69 H _ ls (by omega) hG hI hGg hW (by omega) (by omega) (by omega) (by omega) hT hS (lv_sub hl [2, 3, 4, 5, 6, 7, 8, 9, 10, 0] rfl)
            · have nc_332 := z_ne rfl (zk (x := 1) 1 rfl) c_332
              refine lv_aload_n hx hb dX12_planFrom_97 rfl (lv_at hl 1 rfl) ?_
              refine lv_iload hx hb dX12_planFrom_98 (lv_at hl 9 rfl) ?_
              refine lv_iload hx hb dX12_planFrom_100 (lv_at hl 0 rfl) ?_
              have hFc := tw_free hF hS hA
              refine va_calli (va_runV (As := [.int (y (a 101) p0.toNatClampNeg), .int (y_L69 (a 100) i9.toNatClampNeg)]) (rest := []) ⟨hx, hb, hml, hown, hts⟩ (m_mayDo l dC dI ad av H.size a k τ ln y_L69 g_L69 u (y (a 101) p0.toNatClampNeg) (y_L69 (a 100) i9.toNatClampNeg) hI (by omega) (by omega) (by omega) (by omega) hW) (cwV 2 hts (gi_4 (List.mem_cons_of_mem _ (List.mem_append_left _ (List.mem_of_getElem? (i := 7) rfl))) (List.mem_cons_of_mem _ (List.mem_append_left _ (List.mem_of_getElem? (i := 8) rfl))) (List.mem_cons_of_mem _ (List.mem_append_left _ (List.mem_of_getElem? (i := 9) rfl))) (List.mem_cons_of_mem _ (List.mem_append_left _ (List.mem_of_getElem? (i := 10) rfl))) (fun _ hh => (List.mem_cons_of_mem _ (List.mem_append_right _ (List.mem_append_right _ (List.mem_append_left _ hh))))) gd_m_mayDo) rfl rfl rfl (by decide +kernel) ⟨by show 385 + 1 ≤ 2 * (N + 1) + 405; omega, by show 8 + (3 + 11) + (25220) ≤ 200 * (N + 1) + 25620; omega⟩) ⟨pw_blind, tw_recv hK hT (fx_50 hX) (by decide) cl_e60 rfl, pw_use hT hK hFc hS hM⟩ rfl rfl hl.1 rfl (lv_room (Nat.le_of_ble_eq_true rfl)) dX12_planFrom_102 ⟨Nat.le_of_ble_eq_true rfl, Nat.le_of_ble_eq_true rfl⟩) hS (fun q _ h => hFc q h) hFc (fun r0 r_334 t H locs ht hvm hw hB hz1 hk1 hS => ?_)
              refine W.widen (k := 0) (n := 0) (Nat.le_of_ble_eq_true rfl) (Nat.le_of_ble_eq_true rfl) ?_
              clear hvm hz1 hk1
              subst hw
              rcases hB with ⟨y_335, g_336, hre, hgy_335, hggg_336, hI, hf_337, hT⟩ | ⟨y_338, g_339, hre, hgy_338, hggg_339, hI, hf_340, hT⟩
              · refine lq_top (v := 1) hre ?_
                rw [ht] at hT
                have hG := hG.tr hgy_335 (by decide)
                have hGg := hGg.tr hggg_336
                have hW : IW (u 1) (u 2) (u 9) (y_335 (a 89)) := by rw [hgy_335.at (fx_89 hX) (by decide)]; exact hW
                have : (y_335 (a 50) 51).toInt = (y_L69 (a 50) 51).toInt := congrArg Int32.toInt (hf_337 51 (by decide))
                have : (y_335 (a 50) 52).toInt = (y_L69 (a 50) 52).toInt := congrArg Int32.toInt (hf_337 52 (by decide))
                refine lv_if_ne (tgt := 111) hx hb dX12_planFrom_105 (by decide) (fun c_341 => ?_) (fun c_341 => absurd c_341 (by decide))
                refine lv_aload_n hx hb dX12_planFrom_111 rfl (lv_at hl 1 rfl) ?_
                refine lv_iload hx hb dX12_planFrom_112 (lv_at hl 9 rfl) ?_
                refine lv_iload hx hb dX12_planFrom_114 (lv_at hl 5 rfl) ?_
                refine lv_aload_n hx hb dX12_planFrom_116 rfl (lv_at hl 1 rfl) ?_
                refine lv_iload hx hb dX12_planFrom_117 (lv_at hl 0 rfl) ?_
                have hFc := tw_free hF hS hA
                refine va_calli (va_runV (As := [.int (y_L69 (a 100) i9.toNatClampNeg)]) (rest := [.int p3, .int (y (a 101) p0.toNatClampNeg), .ref (a 50)]) ⟨hx, hb, hml, hown, hts⟩ (m_work l dC dI ad av H.size a k τ ln y_335 g_336 u (y_L69 (a 100) i9.toNatClampNeg) hI (by omega) (by omega) (vb_at (im_a63 hI) (x := (y_L69 (a 100) i9.toNatClampNeg)) rfl (by omega) (by omega)) (vb_at (im_a69 hI) (x := (y_L69 (a 100) i9.toNatClampNeg)) rfl (by omega) (by omega)) hW) (cwV 1 hts (gi_4 (List.mem_cons_of_mem _ (List.mem_append_left _ (List.mem_of_getElem? (i := 11) rfl))) (List.mem_cons_of_mem _ (List.mem_append_left _ (List.mem_of_getElem? (i := 12) rfl))) (List.mem_cons_of_mem _ (List.mem_append_left _ (List.mem_of_getElem? (i := 13) rfl))) (List.mem_cons_of_mem _ (List.mem_append_left _ (List.mem_of_getElem? (i := 10) rfl))) (fun _ hh => (List.mem_cons_of_mem _ (List.mem_append_right _ (List.mem_append_right _ (List.mem_append_right _ (List.mem_append_left _ hh)))))) gd_m_work) rfl rfl rfl (by decide +kernel) ⟨by show 0 + 1 ≤ 2 * (N + 1) + 405; omega, by show 8 + (2 + 11) + (0) ≤ 200 * (N + 1) + 25620; omega⟩) ⟨pw_blind, tw_recv hK hT (fx_50 hX) (by decide) cl_e60 rfl, pw_use hT hK hFc hS hM⟩ rfl rfl hl.1 rfl (lv_room (Nat.le_of_ble_eq_true rfl)) dX12_planFrom_119 ⟨Nat.le_of_ble_eq_true rfl, Nat.le_of_ble_eq_true rfl⟩) hS (fun q _ h => hFc q h) hFc (fun r0 r_342 t H locs ht hvm hw hB hz1 hk1 hS => ?_)
                refine W.widen (k := 0) (n := 0) (Nat.le_of_ble_eq_true rfl) (Nat.le_of_ble_eq_true rfl) ?_
                clear hvm hz1 hk1
                subst hw
                obtain ⟨hf_343, hf_344, hT⟩ := hB
                rw [ht] at hT
                refine lv_aload_n hx hb dX12_planFrom_122 rfl (lv_at hl 1 rfl) ?_
                refine tw_get (D := (dC, dI)) (v := .ref (a 53)) (C := RX12) (T := TX12) (N := 58) hx hb hts (fun _ hh => (List.mem_cons_of_mem _ (List.mem_append_right _ (List.mem_append_left _ hh)))) hown hK hT (fx_50 hX) (by decide) cl_e60 rfl 2 (by decide) (hts (.fieldLink RX12 13 "TypingPoolModel" "speed" "[I") (List.mem_cons_of_mem _ (List.mem_append_left _ (List.mem_of_getElem? (i := 14) rfl)))) (fun _ h9 => h9) rfl dX12_planFrom_123 ?_
                refine lv_iload hx hb dX12_planFrom_126 (lv_at hl 9 rfl) ?_
                refine tw_iald hx hb hK hT 0 (fx_53 hX) (by decide) cl_e63 rfl (z_in rfl (by omega) (by omega)) dX12_planFrom_128 ?_
                have hv_345 := vb_at (im_a53 hI) (x := (y (a 101) p0.toNatClampNeg)) rfl (by omega) (by omega)
                refine lv_aload_n hx hb dX12_planFrom_129 rfl (lv_at hl 1 rfl) ?_
                refine tw_get (D := (dC, dI)) (v := .ref (a 68)) (C := RX12) (T := TX12) (N := 58) hx hb hts (fun _ hh => (List.mem_cons_of_mem _ (List.mem_append_right _ (List.mem_append_left _ hh)))) hown hK hT (fx_50 hX) (by decide) cl_e60 rfl 17 (by decide) (hts (.fieldLink RX12 52 "TypingPoolModel" "words" "[I") (List.mem_cons_of_mem _ (List.mem_append_left _ (List.mem_of_getElem? (i := 15) rfl)))) (fun _ h9 => h9) rfl dX12_planFrom_130 ?_
                refine lv_iload hx hb dX12_planFrom_133 (lv_at hl 0 rfl) ?_
                refine tw_iald hx hb hK hT 0 (fx_68 hX) (by decide) cl_e78 rfl (z_in rfl (by omega) (by omega)) dX12_planFrom_135 ?_
                refine lv_iload hx hb dX12_planFrom_136 (lv_at hl 6 rfl) ?_
                refine lv_iconst (v := (-1)) hx hb dX12_planFrom_138 (by decide) ?_
                refine lv_ixor hx hb dX12_planFrom_139 ?_
                refine lv_topi (fun x_346 ex_346 => ?_)
                refine lv_iand hx hb dX12_planFrom_140 ?_
                refine lv_topi (fun x_347 ex_347 => ?_)
                have hFc := tw_free hF hS hA
                refine va_calli (va_runS (As := [.int (y_335 (a 53) (y (a 101) p0.toNatClampNeg).toNatClampNeg), .int x_347]) (rest := [.int r_342, .int p3, .int (y (a 101) p0.toNatClampNeg), .ref (a 50)]) ⟨hx, hb, hml, hown, hts⟩ (m_rate l dC dI ad av H.size a k τ ln y_335 g_336 u (y_335 (a 53) (y (a 101) p0.toNatClampNeg).toNatClampNeg) x_347  (by omega) (by omega)) (va_cwS 2 hts (gi_3 (List.mem_cons_of_mem _ (List.mem_append_left _ (List.mem_of_getElem? (i := 16) rfl))) (List.mem_cons_of_mem _ (List.mem_append_left _ (List.mem_of_getElem? (i := 17) rfl))) (List.mem_cons_of_mem _ (List.mem_append_left _ (List.mem_of_getElem? (i := 10) rfl))) (fun _ hh => (List.mem_cons_of_mem _ (List.mem_append_right _ (List.mem_append_right _ (List.mem_append_right _ (List.mem_append_right _ (List.mem_append_left _ hh))))))) gd_m_rate) rfl rfl rfl (by decide +kernel) ⟨by show 2 + 1 ≤ 2 * (N + 1) + 405; omega, by show 8 + (2 + 11) + (120) ≤ 200 * (N + 1) + 25620; omega⟩) ⟨pw_blind, pw_use hT hK hFc hS hM⟩ rfl rfl hl.1 rfl (lv_room (Nat.le_of_ble_eq_true rfl)) dX12_planFrom_141 ⟨Nat.le_of_ble_eq_true rfl, Nat.le_of_ble_eq_true rfl⟩) hS (fun q _ h => hFc q h) hFc (fun r0 r_348 t H locs ht hvm hw hB hz1 hk1 hS => ?_)
                refine W.widen (k := 0) (n := 0) (Nat.le_of_ble_eq_true rfl) (Nat.le_of_ble_eq_true rfl) ?_
                clear hvm hz1 hk1
                subst hw
                obtain ⟨hf_349, hf_350, hT⟩ := hB
                rw [ht] at hT
                have hFc := tw_free hF hS hA
                refine va_calli (va_runS (As := [.int r_342, .int r_348]) (rest := [.int p3, .int (y (a 101) p0.toNatClampNeg), .ref (a 50)]) ⟨hx, hb, hml, hown, hts⟩ (m_minutes l dC dI ad av H.size a k τ ln y_335 g_336 u r_342 r_348  (by omega) (by omega) (by omega) (by omega)) (va_cwS 2 hts (gi_3 (List.mem_cons_of_mem _ (List.mem_append_left _ (List.mem_of_getElem? (i := 18) rfl))) (List.mem_cons_of_mem _ (List.mem_append_left _ (List.mem_of_getElem? (i := 19) rfl))) (List.mem_cons_of_mem _ (List.mem_append_left _ (List.mem_of_getElem? (i := 10) rfl))) (fun _ hh => (List.mem_cons_of_mem _ (List.mem_append_right _ (List.mem_append_right _ (List.mem_append_right _ (List.mem_append_right _ (List.mem_append_right _ (List.mem_append_left _ hh)))))))) gd_m_minutes) rfl rfl rfl (by decide +kernel) ⟨by show 0 + 1 ≤ 2 * (N + 1) + 405; omega, by show 8 + (2 + 11) + (0) ≤ 200 * (N + 1) + 25620; omega⟩) ⟨pw_blind, pw_use hT hK hFc hS hM⟩ rfl rfl hl.1 rfl (lv_room (Nat.le_of_ble_eq_true rfl)) dX12_planFrom_144 ⟨Nat.le_of_ble_eq_true rfl, Nat.le_of_ble_eq_true rfl⟩) hS (fun q _ h => hFc q h) hFc (fun r0 r_351 t H locs ht hvm hw hB hz1 hk1 hS => ?_)
                refine W.widen (k := 0) (n := 0) (Nat.le_of_ble_eq_true rfl) (Nat.le_of_ble_eq_true rfl) ?_
                clear hvm hz1 hk1
                subst hw
                obtain ⟨hf_352, hf_353, hT⟩ := hB
                rw [ht] at hT
                have hFc := tw_free hF hS hA
                refine va_calli (va_runV (As := [.int (y (a 101) p0.toNatClampNeg), .int p3, .int r_351]) (rest := []) ⟨hx, hb, hml, hown, hts⟩ (m_ends l dC dI ad av H.size a k τ ln y_335 g_336 u (y (a 101) p0.toNatClampNeg) p3 r_351 hI (by omega) (by omega) (by omega) (by omega) (by omega) (by omega) (show vb 38408 0 4800 (y_335 (a 99)) from by rw [hG.at (fx_99 hX) (by decide)]; exact hth) hW) (cwV 3 hts (gi_4 (List.mem_cons_of_mem _ (List.mem_append_left _ (List.mem_of_getElem? (i := 20) rfl))) (List.mem_cons_of_mem _ (List.mem_append_left _ (List.mem_of_getElem? (i := 21) rfl))) (List.mem_cons_of_mem _ (List.mem_append_left _ (List.mem_of_getElem? (i := 22) rfl))) (List.mem_cons_of_mem _ (List.mem_append_left _ (List.mem_of_getElem? (i := 10) rfl))) (fun _ hh => (List.mem_cons_of_mem _ (List.mem_append_right _ (List.mem_append_right _ (List.mem_append_right _ (List.mem_append_right _ (List.mem_append_right _ (List.mem_append_right _ (List.mem_append_left _ hh))))))))) gd_m_ends) rfl rfl rfl (by decide +kernel) ⟨by show 0 + 1 ≤ 2 * (N + 1) + 405; omega, by show 8 + (9 + 11) + (0) ≤ 200 * (N + 1) + 25620; omega⟩) ⟨pw_blind, tw_recv hK hT (fx_50 hX) (by decide) cl_e60 rfl, pw_use hT hK hFc hS hM⟩ rfl rfl hl.1 rfl (lv_room (Nat.le_of_ble_eq_true rfl)) dX12_planFrom_147 ⟨Nat.le_of_ble_eq_true rfl, Nat.le_of_ble_eq_true rfl⟩) hS (fun q _ h => hFc q h) hFc (fun r0 r_354 t H locs ht hvm hw hB hz1 hk1 hS => ?_)
                refine W.widen (k := 0) (n := 0) (Nat.le_of_ble_eq_true rfl) (Nat.le_of_ble_eq_true rfl) ?_
                clear hvm hz1 hk1
                subst hw
                obtain ⟨hf_355, hf_356, hT⟩ := hB
                rw [ht] at hT
                refine lv_istore (lv' := [(11, .int r_354), (10, .int (y_L69 (a 100) i9.toNatClampNeg)), (0, .ref (a 50)), (1, .int p0), (2, .int p1), (3, .int p2), (4, .int p3), (5, .int p4), (6, .int p5), (7, .int p6), (8, .int (y (a 101) p0.toNatClampNeg)), (9, .int i9)]) hx hb dX12_planFrom_150 hl (by decide) rfl (fun ls hl => ?_)
                refine lv_aload_n hx hb dX12_planFrom_152 rfl (lv_at hl 2 rfl) ?_
                refine tw_get (D := (dC, dI)) (v := .ref (a 104)) (C := RX12) (T := TX12) (N := 58) hx hb hts (fun _ hh => (List.mem_cons_of_mem _ (List.mem_append_right _ (List.mem_append_left _ hh)))) hown hK hT (fx_50 hX) (by decide) cl_e60 rfl 53 (by decide) (hts (.fieldLink RX12 129 "TypingPoolModel" "tryRow" "[I") (List.mem_cons_of_mem _ (List.mem_append_left _ (List.mem_of_getElem? (i := 3) rfl)))) (fun _ h9 => h9) rfl dX12_planFrom_153 ?_
                refine lv_iload_n hx hb dX12_planFrom_156 rfl (lv_at hl 5 rfl) ?_
                refine lv_iload hx hb dX12_planFrom_157 (lv_at hl 1 rfl) ?_
                refine tw_iast hx hb hK hT hF hS 0 (fx_104 hX) (by decide) (fun _ => cl_e114) rfl (z_in rfl (by omega) (by omega)) dX12_planFrom_159 (fun H locs hT hS => ?_)
                obtain ⟨y_357, hy_357, hT⟩ : ∃ z : Nat → Nat → Int32, z = up2 y_335 (a 104) p2.toNatClampNeg (y_L69 (a 100) i9.toNatClampNeg) ∧ tw (dC, dI) a k τ ln z g_336 H := ⟨_, rfl, hT⟩
                have hG : ag τ [60, 102, 114, 115] y y_357 := by rw [hy_357]; exact hG.up (fx_104 hX) (by decide)
                have : (y_357 (a 50) 51).toInt = (y_335 (a 50) 51).toInt := by rw [hy_357, up2_o (kd_ne (fx_50 hX) (fx_104 hX) (by decide))]
                have : (y_357 (a 50) 52).toInt = (y_335 (a 50) 52).toInt := by rw [hy_357, up2_o (kd_ne (fx_50 hX) (fx_104 hX) (by decide))]
                have hW : IW (u 1) (u 2) (u 9) (y_357 (a 89)) := by rw [hy_357, up2_o (kd_ne (fx_89 hX) (fx_104 hX) (by decide))]; exact hW
                have hI := hI.ag (S := [114]) (y' := y_357) (by rw [hy_357]; exact ag.one (fx_104 hX)) (by decide)
                refine lv_aload_n hx hb dX12_planFrom_160 rfl (lv_at hl 2 rfl) ?_
                refine lv_iload_n hx hb dX12_planFrom_161 rfl (lv_at hl 3 rfl) ?_
                refine lv_iload_n hx hb dX12_planFrom_162 rfl (lv_at hl 4 rfl) ?_
                refine lv_iconst (v := 1) hx hb dX12_planFrom_163 (by decide) ?_
                refine lv_iload hx hb dX12_planFrom_164 (lv_at hl 11 rfl) ?_
                refine lv_ishl hx hb dX12_planFrom_166 ?_
                refine lv_topi (fun x_358 ex_358 => ?_)
                refine lv_ior hx hb dX12_planFrom_167 ?_
                refine lv_topi (fun x_359 ex_359 => ?_)
                refine lv_iload_n hx hb dX12_planFrom_168 rfl (lv_at hl 5 rfl) ?_
                refine lv_iconst (v := 1) hx hb dX12_planFrom_169 (by decide) ?_
                refine lv_iadd hx hb dX12_planFrom_170 ?_
                refine lv_topi (fun x_360 ex_360 => ?_)
                have hx_360 := z_add ex_360 rfl (zk (x := 1) 1 rfl) (by omega) (by omega)
                refine lv_iload hx hb dX12_planFrom_171 (lv_at hl 0 rfl) ?_
                refine lv_iload hx hb dX12_planFrom_173 (lv_at hl 7 rfl) ?_
                refine lv_aload_n hx hb dX12_planFrom_175 rfl (lv_at hl 2 rfl) ?_
                refine tw_get (D := (dC, dI)) (v := .ref (a 68)) (C := RX12) (T := TX12) (N := 58) hx hb hts (fun _ hh => (List.mem_cons_of_mem _ (List.mem_append_right _ (List.mem_append_left _ hh)))) hown hK hT (fx_50 hX) (by decide) cl_e60 rfl 17 (by decide) (hts (.fieldLink RX12 52 "TypingPoolModel" "words" "[I") (List.mem_cons_of_mem _ (List.mem_append_left _ (List.mem_of_getElem? (i := 15) rfl)))) (fun _ h9 => h9) rfl dX12_planFrom_176 ?_
                refine lv_iload hx hb dX12_planFrom_179 (lv_at hl 1 rfl) ?_
                refine tw_iald hx hb hK hT 0 (fx_68 hX) (by decide) cl_e78 rfl (z_in rfl (by omega) (by omega)) dX12_planFrom_181 ?_
                refine lv_ior hx hb dX12_planFrom_182 ?_
                refine lv_topi (fun x_361 ex_361 => ?_)
                refine lv_iload hx hb dX12_planFrom_183 (lv_at hl 8 rfl) ?_
                refine lv_iload hx hb dX12_planFrom_185 (lv_at hl 0 rfl) ?_
                refine lv_aload_n hx hb dX12_planFrom_187 rfl (lv_at hl 2 rfl) ?_
                refine tw_get (D := (dC, dI)) (v := .ref (a 67)) (C := RX12) (T := TX12) (N := 58) hx hb hts (fun _ hh => (List.mem_cons_of_mem _ (List.mem_append_right _ (List.mem_append_left _ hh)))) hown hK hT (fx_50 hX) (by decide) cl_e60 rfl 16 (by decide) (hts (.fieldLink RX12 49 "TypingPoolModel" "due" "[I") (List.mem_cons_of_mem _ (List.mem_append_left _ (List.mem_of_getElem? (i := 23) rfl)))) (fun _ h9 => h9) rfl dX12_planFrom_188 ?_
                refine lv_iload hx hb dX12_planFrom_191 (lv_at hl 1 rfl) ?_
                refine tw_iald hx hb hK hT 0 (fx_67 hX) (by decide) cl_e77 rfl (z_in rfl (by omega) (by omega)) dX12_planFrom_193 ?_
                refine lv_icmp_le (tgt := 201) hx hb dX12_planFrom_194 (by decide) (fun c_362 => ?_) (fun c_362 => ?_)
                · have nc_362 := z_le rfl rfl c_362
                  refine lv_iconst (v := 0) hx hb dX12_planFrom_201 (by decide) ?_
                  refine lv_iadd hx hb dX12_planFrom_202 ?_
                  refine lv_topi (fun x_363 ex_363 => ?_)
                  refine lv_iload hx hb dX12_planFrom_203 (lv_at hl 9 rfl) ?_
                  refine lv_iconst (v := 0) hx hb dX12_planFrom_205 (by decide) ?_
                  refine lv_iload hx hb dX12_planFrom_206 (lv_at hl 0 rfl) ?_
                  refine lv_aload_n hx hb dX12_planFrom_208 rfl (lv_at hl 2 rfl) ?_
                  refine tw_get (D := (dC, dI)) (v := .ref (a 67)) (C := RX12) (T := TX12) (N := 58) hx hb hts (fun _ hh => (List.mem_cons_of_mem _ (List.mem_append_right _ (List.mem_append_left _ hh)))) hown hK hT (fx_50 hX) (by decide) cl_e60 rfl 16 (by decide) (hts (.fieldLink RX12 49 "TypingPoolModel" "due" "[I") (List.mem_cons_of_mem _ (List.mem_append_left _ (List.mem_of_getElem? (i := 23) rfl)))) (fun _ h9 => h9) rfl dX12_planFrom_209 ?_
                  refine lv_iload hx hb dX12_planFrom_212 (lv_at hl 1 rfl) ?_
                  refine tw_iald hx hb hK hT 0 (fx_67 hX) (by decide) cl_e77 rfl (z_in rfl (by omega) (by omega)) dX12_planFrom_214 ?_
                  refine lv_isub hx hb dX12_planFrom_215 ?_
                  refine lv_topi (fun x_364 ex_364 => ?_)
                  refine va_mmax hx hb (by rw [hml]; exact hl.1.symm) hown (hts (.methodLink RX12 281 Lib.Math.max.name) (List.mem_cons_of_mem _ (List.mem_append_left _ (List.mem_of_getElem? (i := 24) rfl)))) (hts (.static Lib.Math.max.name) (List.mem_cons_of_mem _ (List.mem_append_left _ (List.mem_of_getElem? (i := 25) rfl)))) (hts (.initialized "java/lang/Math") (List.mem_cons_of_mem _ (List.mem_append_left _ (List.mem_of_getElem? (i := 26) rfl)))) (hts (.code Lib.Math.max.name Lib.Math.max.code 2 (some .int)) (List.mem_cons_of_mem _ (List.mem_append_left _ (List.mem_of_getElem? (i := 27) rfl)))) (Nat.le_of_ble_eq_true rfl) (Nat.le_of_ble_eq_true rfl) (Nat.le_of_ble_eq_true rfl) (Nat.le_of_ble_eq_true rfl) dX12_planFrom_216 ?_
                  refine lv_topi (fun x_365 ex_365 => ?_)
                  have hx_365 := z_max ex_365 (zk (x := 0) 0 rfl) rfl
                  refine lv_iadd hx hb dX12_planFrom_219 ?_
                  refine lv_topi (fun x_366 ex_366 => ?_)
                  have h5_367 := pc5_step (i := i9) huA huB (by omega) (by omega) ex_330 ex_331 nc_332 ex_358 ex_359
                  have hFc := tw_free hF hS hA
                  refine va_callv (va_runV (As := [.int p0, .int x_359, .int x_360, .int r_354, .int x_361, .int x_363, .int x_366]) (rest := []) ⟨hx, hb, hml, hown, hts⟩ (ih1 l dC dI ad av H.size a k τ ln y_357 g_336 u p0 x_359 x_360 r_354 x_361 x_363 x_366 nP nH hI (by omega) (by omega) gn (by rw [hG.at (fx_100 hX) (by decide)]; exact gp) (by rw [hG.at (fx_101 hX) (by decide)]; exact gh) (show vb 38408 0 4800 (y_357 (a 99)) from by rw [hG.at (fx_99 hX) (by decide)]; exact hth) (by omega) (by omega) (by omega) (by omega) (by omega) (by omega) (by omega) (by omega) hW) (cwV 7 hts (gi_4 (List.mem_cons_of_mem _ (List.mem_append_left _ (List.mem_of_getElem? (i := 28) rfl))) (List.mem_cons_of_mem _ (List.mem_append_left _ (List.mem_of_getElem? (i := 29) rfl))) (List.mem_cons_of_mem _ (List.mem_append_left _ (List.mem_of_getElem? (i := 30) rfl))) (List.mem_cons_of_mem _ (List.mem_append_left _ (List.mem_of_getElem? (i := 10) rfl))) (fun _ hh => (List.mem_cons.mp hh).elim (fun ee => by rw [ee]; exact (List.mem_cons_of_mem _ (List.mem_append_left _ (List.mem_of_getElem? (i := 0) rfl)))) (fun h9 => List.mem_cons_of_mem _ h9)) gd_g_planFrom) rfl rfl rfl (by decide +kernel) ⟨by show 2 * N + 405 + 1 ≤ 2 * (N + 1) + 405; omega, by show 8 + (12 + 11) + (200 * N + 25620) ≤ 200 * (N + 1) + 25620; omega⟩) ⟨pw_blind, tw_recv hK hT (fx_50 hX) (by decide) cl_e60 rfl, pw_use hT hK hFc hS hM⟩ rfl rfl hl.1 rfl (lv_room (Nat.le_of_ble_eq_true rfl)) dX12_planFrom_220 ⟨Nat.le_of_ble_eq_true rfl, Nat.le_of_ble_eq_true rfl⟩) hS (fun q _ h => hFc q h) hFc (fun u0 t H locs ht hvm hw hB hz1 hk1 hS => ?_)
                  refine W.widen (k := 0) (n := 0) (Nat.le_of_ble_eq_true rfl) (Nat.le_of_ble_eq_true rfl) ?_
                  clear hvm hz1 hk1
                  obtain ⟨y_369, g_370, hgy_369, hggg_370, hI, hf_371, hf_372, hT⟩ := hB
                  rw [ht] at hT
                  have hG := hG.tr hgy_369 (by decide)
                  have hGg := hGg.tr hggg_370
                  have hW : IW (u 1) (u 2) (u 9) (y_369 (a 89)) := by rw [hgy_369.at (fx_89 hX) (by decide)]; exact hW
                  obtain ⟨x_373, ex_373⟩ : ∃ y : Int32, y = i9 + Int32.ofInt 1 := ⟨_, rfl⟩
                  have hx_373 := z_add ex_373 rfl (zk (x := Int32.ofInt 1) 1 rfl) (by omega) (by omega)
                  refine lv_iinc (v := x_373) (lv' := [(9, .int x_373), (11, .int r_354), (10, .int (y_L69 (a 100) i9.toNatClampNeg)), (0, .ref (a 50)), (1, .int p0), (2, .int p1), (3, .int p2), (4, .int p3), (5, .int p4), (6, .int p5), (7, .int p6), (8, .int (y (a 101) p0.toNatClampNeg))]) hx hb dX12_planFrom_223 hl (k := 11) rfl ex_373.symm (by decide) rfl (fun ls hl => ?_)
                  refine lv_goto (tgt := 69) hx hb dX12_planFrom_226 (by decide) ?_
                  exact ih_69  x_373 y_369 g_370 H _ ls (by omega) hG hI hGg hW (by omega) (by omega) (by omega) (by omega) hT hS (lv_sub hl [3, 4, 5, 6, 7, 8, 9, 10, 11, 0] rfl)
                · have nc_362 := z_nle rfl rfl c_362
                  refine lv_iconst (v := 1) hx hb dX12_planFrom_197 (by decide) ?_
                  refine lv_goto (tgt := 202) hx hb dX12_planFrom_198 (by decide) ?_
                  refine lv_iadd hx hb dX12_planFrom_202 ?_
                  refine lv_topi (fun x_374 ex_374 => ?_)
                  refine lv_iload hx hb dX12_planFrom_203 (lv_at hl 9 rfl) ?_
                  refine lv_iconst (v := 0) hx hb dX12_planFrom_205 (by decide) ?_
                  refine lv_iload hx hb dX12_planFrom_206 (lv_at hl 0 rfl) ?_
                  refine lv_aload_n hx hb dX12_planFrom_208 rfl (lv_at hl 2 rfl) ?_
                  refine tw_get (D := (dC, dI)) (v := .ref (a 67)) (C := RX12) (T := TX12) (N := 58) hx hb hts (fun _ hh => (List.mem_cons_of_mem _ (List.mem_append_right _ (List.mem_append_left _ hh)))) hown hK hT (fx_50 hX) (by decide) cl_e60 rfl 16 (by decide) (hts (.fieldLink RX12 49 "TypingPoolModel" "due" "[I") (List.mem_cons_of_mem _ (List.mem_append_left _ (List.mem_of_getElem? (i := 23) rfl)))) (fun _ h9 => h9) rfl dX12_planFrom_209 ?_
                  refine lv_iload hx hb dX12_planFrom_212 (lv_at hl 1 rfl) ?_
                  refine tw_iald hx hb hK hT 0 (fx_67 hX) (by decide) cl_e77 rfl (z_in rfl (by omega) (by omega)) dX12_planFrom_214 ?_
                  refine lv_isub hx hb dX12_planFrom_215 ?_
                  refine lv_topi (fun x_375 ex_375 => ?_)
                  refine va_mmax hx hb (by rw [hml]; exact hl.1.symm) hown (hts (.methodLink RX12 281 Lib.Math.max.name) (List.mem_cons_of_mem _ (List.mem_append_left _ (List.mem_of_getElem? (i := 24) rfl)))) (hts (.static Lib.Math.max.name) (List.mem_cons_of_mem _ (List.mem_append_left _ (List.mem_of_getElem? (i := 25) rfl)))) (hts (.initialized "java/lang/Math") (List.mem_cons_of_mem _ (List.mem_append_left _ (List.mem_of_getElem? (i := 26) rfl)))) (hts (.code Lib.Math.max.name Lib.Math.max.code 2 (some .int)) (List.mem_cons_of_mem _ (List.mem_append_left _ (List.mem_of_getElem? (i := 27) rfl)))) (Nat.le_of_ble_eq_true rfl) (Nat.le_of_ble_eq_true rfl) (Nat.le_of_ble_eq_true rfl) (Nat.le_of_ble_eq_true rfl) dX12_planFrom_216 ?_
                  refine lv_topi (fun x_376 ex_376 => ?_)
                  have hx_376 := z_max ex_376 (zk (x := 0) 0 rfl) rfl
                  refine lv_iadd hx hb dX12_planFrom_219 ?_
                  refine lv_topi (fun x_377 ex_377 => ?_)
                  have h5_378 := pc5_step (i := i9) huA huB (by omega) (by omega) ex_330 ex_331 nc_332 ex_358 ex_359
                  have hFc := tw_free hF hS hA
                  refine va_callv (va_runV (As := [.int p0, .int x_359, .int x_360, .int r_354, .int x_361, .int x_374, .int x_377]) (rest := []) ⟨hx, hb, hml, hown, hts⟩ (ih1 l dC dI ad av H.size a k τ ln y_357 g_336 u p0 x_359 x_360 r_354 x_361 x_374 x_377 nP nH hI (by omega) (by omega) gn (by rw [hG.at (fx_100 hX) (by decide)]; exact gp) (by rw [hG.at (fx_101 hX) (by decide)]; exact gh) (show vb 38408 0 4800 (y_357 (a 99)) from by rw [hG.at (fx_99 hX) (by decide)]; exact hth) (by omega) (by omega) (by omega) (by omega) (by omega) (by omega) (by omega) (by omega) hW) (cwV 7 hts (gi_4 (List.mem_cons_of_mem _ (List.mem_append_left _ (List.mem_of_getElem? (i := 28) rfl))) (List.mem_cons_of_mem _ (List.mem_append_left _ (List.mem_of_getElem? (i := 29) rfl))) (List.mem_cons_of_mem _ (List.mem_append_left _ (List.mem_of_getElem? (i := 30) rfl))) (List.mem_cons_of_mem _ (List.mem_append_left _ (List.mem_of_getElem? (i := 10) rfl))) (fun _ hh => (List.mem_cons.mp hh).elim (fun ee => by rw [ee]; exact (List.mem_cons_of_mem _ (List.mem_append_left _ (List.mem_of_getElem? (i := 0) rfl)))) (fun h9 => List.mem_cons_of_mem _ h9)) gd_g_planFrom) rfl rfl rfl (by decide +kernel) ⟨by show 2 * N + 405 + 1 ≤ 2 * (N + 1) + 405; omega, by show 8 + (12 + 11) + (200 * N + 25620) ≤ 200 * (N + 1) + 25620; omega⟩) ⟨pw_blind, tw_recv hK hT (fx_50 hX) (by decide) cl_e60 rfl, pw_use hT hK hFc hS hM⟩ rfl rfl hl.1 rfl (lv_room (Nat.le_of_ble_eq_true rfl)) dX12_planFrom_220 ⟨Nat.le_of_ble_eq_true rfl, Nat.le_of_ble_eq_true rfl⟩) hS (fun q _ h => hFc q h) hFc (fun u0 t H locs ht hvm hw hB hz1 hk1 hS => ?_)
                  refine W.widen (k := 0) (n := 0) (Nat.le_of_ble_eq_true rfl) (Nat.le_of_ble_eq_true rfl) ?_
                  clear hvm hz1 hk1
                  obtain ⟨y_380, g_381, hgy_380, hggg_381, hI, hf_382, hf_383, hT⟩ := hB
                  rw [ht] at hT
                  have hG := hG.tr hgy_380 (by decide)
                  have hGg := hGg.tr hggg_381
                  have hW : IW (u 1) (u 2) (u 9) (y_380 (a 89)) := by rw [hgy_380.at (fx_89 hX) (by decide)]; exact hW
                  obtain ⟨x_384, ex_384⟩ : ∃ y : Int32, y = i9 + Int32.ofInt 1 := ⟨_, rfl⟩
                  have hx_384 := z_add ex_384 rfl (zk (x := Int32.ofInt 1) 1 rfl) (by omega) (by omega)
                  refine lv_iinc (v := x_384) (lv' := [(9, .int x_384), (11, .int r_354), (10, .int (y_L69 (a 100) i9.toNatClampNeg)), (0, .ref (a 50)), (1, .int p0), (2, .int p1), (3, .int p2), (4, .int p3), (5, .int p4), (6, .int p5), (7, .int p6), (8, .int (y (a 101) p0.toNatClampNeg))]) hx hb dX12_planFrom_223 hl (k := 11) rfl ex_384.symm (by decide) rfl (fun ls hl => ?_)
                  refine lv_goto (tgt := 69) hx hb dX12_planFrom_226 (by decide) ?_
                  exact ih_69  x_384 y_380 g_381 H _ ls (by omega) hG hI hGg hW (by omega) (by omega) (by omega) (by omega) hT hS (lv_sub hl [3, 4, 5, 6, 7, 8, 9, 10, 11, 0] rfl)
              · refine lq_top (v := 0) hre ?_
                rw [ht] at hT
                have hG := hG.tr hgy_338 (by decide)
                have hGg := hGg.tr hggg_339
                have hW : IW (u 1) (u 2) (u 9) (y_338 (a 89)) := by rw [hgy_338.at (fx_89 hX) (by decide)]; exact hW
                have : (y_338 (a 50) 51).toInt = (y_L69 (a 50) 51).toInt := congrArg Int32.toInt (hf_340 51 (by decide))
                have : (y_338 (a 50) 52).toInt = (y_L69 (a 50) 52).toInt := congrArg Int32.toInt (hf_340 52 (by decide))
                refine lv_if_ne (tgt := 111) hx hb dX12_planFrom_105 (by decide) (fun c_385 => absurd c_385 (by decide)) (fun c_385 => ?_)
                refine lv_goto (tgt := 223) hx hb dX12_planFrom_108 (by decide) ?_
                obtain ⟨x_386, ex_386⟩ : ∃ y : Int32, y = i9 + Int32.ofInt 1 := ⟨_, rfl⟩
                have hx_386 := z_add ex_386 rfl (zk (x := Int32.ofInt 1) 1 rfl) (by omega) (by omega)
                refine lv_iinc (v := x_386) (lv' := [(9, .int x_386), (10, .int (y_L69 (a 100) i9.toNatClampNeg)), (0, .ref (a 50)), (1, .int p0), (2, .int p1), (3, .int p2), (4, .int p3), (5, .int p4), (6, .int p5), (7, .int p6), (8, .int (y (a 101) p0.toNatClampNeg))]) hx hb dX12_planFrom_223 hl (k := 10) rfl ex_386.symm (by decide) rfl (fun ls hl => ?_)
                refine lv_goto (tgt := 69) hx hb dX12_planFrom_226 (by decide) ?_
                exact ih_69  x_386 y_338 g_339 H _ ls (by omega) hG hI hGg hW (by omega) (by omega) (by omega) (by omega) hT hS (lv_sub hl [2, 3, 4, 5, 6, 7, 8, 9, 10, 0] rfl)
      have hp_387 : (0 : Int32).toInt = 0 := (zk (x := 0) 0 rfl)
      exact loop_69 _ (0 : Int32) y_325 g H _ ls (Nat.lt_succ_self _) hG hI hGg hW (by omega) (by omega) (by omega) (by omega) hT hS (lv_sub hl [2, 3, 4, 5, 6, 7, 8, 9, 1, 0] rfl)
  · have nc_259 := z_nle rfl rfl c_259
    refine lv_aload_n hx hb dX12_planFrom_25 rfl (lv_at hl 1 rfl) ?_
    refine lv_iload_n hx hb dX12_planFrom_26 rfl (lv_at hl 2 rfl) ?_
    refine lv_iconst (v := 1) hx hb dX12_planFrom_27 (by decide) ?_
    refine lv_iadd hx hb dX12_planFrom_28 ?_
    refine lv_topi (fun x_388 ex_388 => ?_)
    have hx_388 := z_add ex_388 rfl (zk (x := 1) 1 rfl) (by omega) (by omega)
    refine lv_iload_n hx hb dX12_planFrom_29 rfl (lv_at hl 3 rfl) ?_
    refine lv_iload_n hx hb dX12_planFrom_30 rfl (lv_at hl 4 rfl) ?_
    refine lv_iconst (v := 1) hx hb dX12_planFrom_31 (by decide) ?_
    refine lv_iadd hx hb dX12_planFrom_32 ?_
    refine lv_topi (fun x_389 ex_389 => ?_)
    have hx_389 := z_add ex_389 rfl (zk (x := 1) 1 rfl) (by omega) (by omega)
    refine lv_iload hx hb dX12_planFrom_33 (lv_at hl 7 rfl) ?_
    refine lv_iload hx hb dX12_planFrom_35 (lv_at hl 8 rfl) ?_
    have hFc := tw_free hF hS hA
    refine va_callv (va_runV (As := [.int x_388, .int p1, .int x_389, .int p5, .int p6]) (rest := []) ⟨hx, hb, hml, hown, hts⟩ (ih2 l dC dI ad av H.size a k τ ln y_257 g u x_388 p1 x_389 p5 p6 nP nH hI (by omega) (by omega) gn (by rw [hG.at (fx_100 hX) (by decide)]; exact gp) (by rw [hG.at (fx_101 hX) (by decide)]; exact gh) (show vb 38408 0 4800 (y_257 (a 99)) from by rw [hG.at (fx_99 hX) (by decide)]; exact hth) (by omega) (by omega) (by omega) (by omega) (by omega) (by omega) hW) (cwV 5 hts (gi_4 (List.mem_cons_of_mem _ (List.mem_append_left _ (List.mem_of_getElem? (i := 34) rfl))) (List.mem_cons_of_mem _ (List.mem_append_left _ (List.mem_of_getElem? (i := 35) rfl))) (List.mem_cons_of_mem _ (List.mem_append_left _ (List.mem_of_getElem? (i := 36) rfl))) (List.mem_cons_of_mem _ (List.mem_append_left _ (List.mem_of_getElem? (i := 10) rfl))) (fun _ hh => (List.mem_cons.mp hh).elim (fun ee => by rw [ee]; exact (List.mem_cons_of_mem _ (List.mem_append_left _ (List.mem_of_getElem? (i := 1) rfl)))) (fun h9 => List.mem_cons_of_mem _ h9)) gd_g_beginHand) rfl rfl rfl (by decide +kernel) ⟨by show 2 * N + 406 + 1 ≤ 2 * (N + 1) + 405; omega, by show 8 + (9 + 11) + (200 * N + 25720) ≤ 200 * (N + 1) + 25620; omega⟩) ⟨pw_blind, tw_recv hK hT (fx_50 hX) (by decide) cl_e60 rfl, pw_use hT hK hFc hS hM⟩ rfl rfl hl.1 rfl (lv_room (Nat.le_of_ble_eq_true rfl)) dX12_planFrom_37 ⟨Nat.le_of_ble_eq_true rfl, Nat.le_of_ble_eq_true rfl⟩) hS (fun q _ h => hFc q h) hFc (fun u0 t H locs ht hvm hw hB hz1 hk1 hS => ?_)
    refine W.widen (k := 0) (n := 0) (Nat.le_of_ble_eq_true rfl) (Nat.le_of_ble_eq_true rfl) ?_
    clear hvm hz1 hk1
    obtain ⟨y_391, g_392, hgy_391, hggg_392, hI, hf_393, hf_394, hT⟩ := hB
    rw [ht] at hT
    have hG := hG.tr hgy_391 (by decide)
    have hGg := hGg.tr hggg_392
    have hW : IW (u 1) (u 2) (u 9) (y_391 (a 89)) := by rw [hgy_391.at (fx_89 hX) (by decide)]; exact hW
    refine lv_goto (tgt := 66) hx hb dX12_planFrom_40 (by decide) ?_
    refine lv_iconst (v := 0) hx hb dX12_planFrom_66 (by decide) ?_
    refine lv_istore (lv' := [(9, .int 0), (8, .int (y (a 101) p0.toNatClampNeg)), (0, .ref (a 50)), (1, .int p0), (2, .int p1), (3, .int p2), (4, .int p3), (5, .int p4), (6, .int p5), (7, .int p6)]) hx hb dX12_planFrom_67 hl (by decide) rfl (fun ls hl => ?_)
    have loop_69 : ∀ (n : Nat) (i9 : Int32) (y_L69 : Nat → Nat → Int32) (g_L69 : Nat → Nat → Option Nat) (H : Heap) (locs : List Loc) (ls : Array Slot), (nP - i9.toInt).toNat < n → ag τ [60, 102, 114, 115] y y_L69 → IM a u τ y_L69 → agg τ g g_L69 → IW (u 1) (u 2) (u 9) (y_L69 (a 89)) → 0 ≤ i9.toInt → i9.toInt ≤ nP → (y_L69 (a 50) 51).toInt = (y (a 50) 51).toInt → (y_L69 (a 50) 52).toInt = (y (a 50) 52).toInt → tw (dC, dI) a k τ ln y_L69 g_L69 H → va_S A s.heap H locs → lv_has ls 12 [(0, .ref (a 50)), (1, .int p0), (2, .int p1), (3, .int p2), (4, .int p3), (5, .int p4), (6, .int p5), (7, .int p6), (8, .int (y (a 101) p0.toNatClampNeg)), (9, .int i9)] → W p l e (headSpec wm_g_planFrom ({ frames := 2 * (N + 1) + 405, cells := 0, slots := 0, locals := 200 * (N + 1) + 25620 })).room s m ([.ref (a 50), .int p0, .int p1, .int p2, .int p3, .int p4, .int p5, .int p6] : List Value).toArray below meth c H locs 0 0 (MQ below (va_Qv (fun (_ : Unit) => True) (fun (_ : Unit) (t : State) => (∃ (y' : Nat → Nat → Int32) (g' : Nat → Nat → Option Nat), ag τ [60, 102, 114, 115] y y' ∧ agg τ g g' ∧ IM a u τ y' ∧ (y' (a 50) 51).toInt = (y (a 50) 51).toInt ∧ (y' (a 50) 52).toInt = (y (a 50) 52).toInt ∧ tw (dC, dI) a k τ ln y' g' t.heap)) A) ([.ref (a 50), .int p0, .int p1, .int p2, .int p3, .int p4, .int p5, .int p6] : List Value).toArray s 0 0 A) (F0 m 69 ls []) := by
      intro n
      induction n with
      | zero => intro i9 y_L69 g_L69 H locs ls hlt; exact absurd hlt (Nat.not_lt_zero _)
      | succ n ih_69 =>
        intro i9 y_L69 g_L69 H locs ls hlt hG hI hGg hW hi69_0 hi69_1 hi69_2 hi69_3 hT hS hl
        refine lv_iload hx hb dX12_planFrom_69 (lv_at hl 9 rfl) ?_
        refine lv_aload_n hx hb dX12_planFrom_71 rfl (lv_at hl 0 rfl) ?_
        refine tw_get (D := (dC, dI)) (v := .int (y_L69 (a 50) 51)) (C := RX12) (T := TX12) (N := 58) hx hb hts (fun _ hh => (List.mem_cons_of_mem _ (List.mem_append_right _ (List.mem_append_left _ hh)))) hown hK hT (fx_50 hX) (by decide) cl_e60 rfl 51 (by decide) (hts (.fieldLink RX12 349 "TypingPoolModel" "planPieceMany" "I") (List.mem_cons_of_mem _ (List.mem_append_left _ (List.mem_of_getElem? (i := 5) rfl)))) (fun _ h9 => h9) rfl dX12_planFrom_72 ?_
        refine lv_icmp_ge (tgt := 229) hx hb dX12_planFrom_75 (by decide) (fun c_395 => ?_) (fun c_395 => ?_)
        · have nc_395 := z_le rfl rfl c_395
          exact W.vret hx hb hr (fun t ht hW9 => ⟨⟨(), rfl, trivial, ⟨y_L69, g_L69, hG, hGg, hI, by omega, by omega, tw_at ht hT⟩⟩, hS.F ht⟩) hS.2.2 dX12_planFrom_229
        · have nc_395 := z_nle rfl rfl c_395
          refine lv_aload_n hx hb dX12_planFrom_78 rfl (lv_at hl 0 rfl) ?_
          refine tw_get (D := (dC, dI)) (v := .ref (a 100)) (C := RX12) (T := TX12) (N := 58) hx hb hts (fun _ hh => (List.mem_cons_of_mem _ (List.mem_append_right _ (List.mem_append_left _ hh)))) hown hK hT (fx_50 hX) (by decide) cl_e60 rfl 49 (by decide) (hts (.fieldLink RX12 123 "TypingPoolModel" "planPieces" "[I") (List.mem_cons_of_mem _ (List.mem_append_left _ (List.mem_of_getElem? (i := 6) rfl)))) (fun _ h9 => h9) rfl dX12_planFrom_79 ?_
          refine lv_iload hx hb dX12_planFrom_82 (lv_at hl 9 rfl) ?_
          refine tw_iald hx hb hK hT 0 (fx_100 hX) (by decide) cl_e110 rfl (z_in rfl (by omega) (by omega)) dX12_planFrom_84 ?_
          have hv_3960 : vl nP (u 2) (y_L69 (a 100)) := (by rw [hG.at (fx_100 hX) (by decide)]; exact gp)
          have hv_396 := vl_at hv_3960 (x := i9) rfl (by omega) (by omega)
          refine lv_istore (lv' := [(10, .int (y_L69 (a 100) i9.toNatClampNeg)), (0, .ref (a 50)), (1, .int p0), (2, .int p1), (3, .int p2), (4, .int p3), (5, .int p4), (6, .int p5), (7, .int p6), (8, .int (y (a 101) p0.toNatClampNeg)), (9, .int i9)]) hx hb dX12_planFrom_85 hl (by decide) rfl (fun ls hl => ?_)
          refine lv_iload_n hx hb dX12_planFrom_87 rfl (lv_at hl 3 rfl) ?_
          refine lv_iload hx hb dX12_planFrom_88 (lv_at hl 10 rfl) ?_
          refine lv_ishr hx hb dX12_planFrom_90 ?_
          refine lv_topi (fun x_397 ex_397 => ?_)
          refine lv_iconst (v := 1) hx hb dX12_planFrom_91 (by decide) ?_
          refine lv_iand hx hb dX12_planFrom_92 ?_
          refine lv_topi (fun x_398 ex_398 => ?_)
          have hx_398 := z_and (x := x_397) (zk (x := 1) 1 rfl) (by omega)
          rw [← ex_398] at hx_398
          refine lv_iconst (v := 1) hx hb dX12_planFrom_93 (by decide) ?_
          refine lv_icmp_eq (tgt := 223) hx hb dX12_planFrom_94 (by decide) (fun c_399 => ?_) (fun c_399 => ?_)
          · have nc_399 := z_eq rfl (zk (x := 1) 1 rfl) c_399
            obtain ⟨x_400, ex_400⟩ : ∃ y : Int32, y = i9 + Int32.ofInt 1 := ⟨_, rfl⟩
            have hx_400 := z_add ex_400 rfl (zk (x := Int32.ofInt 1) 1 rfl) (by omega) (by omega)
            refine lv_iinc (v := x_400) (lv' := [(9, .int x_400), (10, .int (y_L69 (a 100) i9.toNatClampNeg)), (0, .ref (a 50)), (1, .int p0), (2, .int p1), (3, .int p2), (4, .int p3), (5, .int p4), (6, .int p5), (7, .int p6), (8, .int (y (a 101) p0.toNatClampNeg))]) hx hb dX12_planFrom_223 hl (k := 10) rfl ex_400.symm (by decide) rfl (fun ls hl => ?_)
            refine lv_goto (tgt := 69) hx hb dX12_planFrom_226 (by decide) ?_
            exact ih_69  x_400 y_L69 g_L69 H _ ls (by omega) hG hI hGg hW (by omega) (by omega) (by omega) (by omega) hT hS (lv_sub hl [2, 3, 4, 5, 6, 7, 8, 9, 10, 0] rfl)
          · have nc_399 := z_ne rfl (zk (x := 1) 1 rfl) c_399
            refine lv_aload_n hx hb dX12_planFrom_97 rfl (lv_at hl 1 rfl) ?_
            refine lv_iload hx hb dX12_planFrom_98 (lv_at hl 9 rfl) ?_
            refine lv_iload hx hb dX12_planFrom_100 (lv_at hl 0 rfl) ?_
            have hFc := tw_free hF hS hA
            refine va_calli (va_runV (As := [.int (y (a 101) p0.toNatClampNeg), .int (y_L69 (a 100) i9.toNatClampNeg)]) (rest := []) ⟨hx, hb, hml, hown, hts⟩ (m_mayDo l dC dI ad av H.size a k τ ln y_L69 g_L69 u (y (a 101) p0.toNatClampNeg) (y_L69 (a 100) i9.toNatClampNeg) hI (by omega) (by omega) (by omega) (by omega) hW) (cwV 2 hts (gi_4 (List.mem_cons_of_mem _ (List.mem_append_left _ (List.mem_of_getElem? (i := 7) rfl))) (List.mem_cons_of_mem _ (List.mem_append_left _ (List.mem_of_getElem? (i := 8) rfl))) (List.mem_cons_of_mem _ (List.mem_append_left _ (List.mem_of_getElem? (i := 9) rfl))) (List.mem_cons_of_mem _ (List.mem_append_left _ (List.mem_of_getElem? (i := 10) rfl))) (fun _ hh => (List.mem_cons_of_mem _ (List.mem_append_right _ (List.mem_append_right _ (List.mem_append_left _ hh))))) gd_m_mayDo) rfl rfl rfl (by decide +kernel) ⟨by show 385 + 1 ≤ 2 * (N + 1) + 405; omega, by show 8 + (3 + 11) + (25220) ≤ 200 * (N + 1) + 25620; omega⟩) ⟨pw_blind, tw_recv hK hT (fx_50 hX) (by decide) cl_e60 rfl, pw_use hT hK hFc hS hM⟩ rfl rfl hl.1 rfl (lv_room (Nat.le_of_ble_eq_true rfl)) dX12_planFrom_102 ⟨Nat.le_of_ble_eq_true rfl, Nat.le_of_ble_eq_true rfl⟩) hS (fun q _ h => hFc q h) hFc (fun r0 r_401 t H locs ht hvm hw hB hz1 hk1 hS => ?_)
            refine W.widen (k := 0) (n := 0) (Nat.le_of_ble_eq_true rfl) (Nat.le_of_ble_eq_true rfl) ?_
            clear hvm hz1 hk1
            subst hw
            rcases hB with ⟨y_402, g_403, hre, hgy_402, hggg_403, hI, hf_404, hT⟩ | ⟨y_405, g_406, hre, hgy_405, hggg_406, hI, hf_407, hT⟩
            · refine lq_top (v := 1) hre ?_
              rw [ht] at hT
              have hG := hG.tr hgy_402 (by decide)
              have hGg := hGg.tr hggg_403
              have hW : IW (u 1) (u 2) (u 9) (y_402 (a 89)) := by rw [hgy_402.at (fx_89 hX) (by decide)]; exact hW
              have : (y_402 (a 50) 51).toInt = (y_L69 (a 50) 51).toInt := congrArg Int32.toInt (hf_404 51 (by decide))
              have : (y_402 (a 50) 52).toInt = (y_L69 (a 50) 52).toInt := congrArg Int32.toInt (hf_404 52 (by decide))
              refine lv_if_ne (tgt := 111) hx hb dX12_planFrom_105 (by decide) (fun c_408 => ?_) (fun c_408 => absurd c_408 (by decide))
              refine lv_aload_n hx hb dX12_planFrom_111 rfl (lv_at hl 1 rfl) ?_
              refine lv_iload hx hb dX12_planFrom_112 (lv_at hl 9 rfl) ?_
              refine lv_iload hx hb dX12_planFrom_114 (lv_at hl 5 rfl) ?_
              refine lv_aload_n hx hb dX12_planFrom_116 rfl (lv_at hl 1 rfl) ?_
              refine lv_iload hx hb dX12_planFrom_117 (lv_at hl 0 rfl) ?_
              have hFc := tw_free hF hS hA
              refine va_calli (va_runV (As := [.int (y_L69 (a 100) i9.toNatClampNeg)]) (rest := [.int p3, .int (y (a 101) p0.toNatClampNeg), .ref (a 50)]) ⟨hx, hb, hml, hown, hts⟩ (m_work l dC dI ad av H.size a k τ ln y_402 g_403 u (y_L69 (a 100) i9.toNatClampNeg) hI (by omega) (by omega) (vb_at (im_a63 hI) (x := (y_L69 (a 100) i9.toNatClampNeg)) rfl (by omega) (by omega)) (vb_at (im_a69 hI) (x := (y_L69 (a 100) i9.toNatClampNeg)) rfl (by omega) (by omega)) hW) (cwV 1 hts (gi_4 (List.mem_cons_of_mem _ (List.mem_append_left _ (List.mem_of_getElem? (i := 11) rfl))) (List.mem_cons_of_mem _ (List.mem_append_left _ (List.mem_of_getElem? (i := 12) rfl))) (List.mem_cons_of_mem _ (List.mem_append_left _ (List.mem_of_getElem? (i := 13) rfl))) (List.mem_cons_of_mem _ (List.mem_append_left _ (List.mem_of_getElem? (i := 10) rfl))) (fun _ hh => (List.mem_cons_of_mem _ (List.mem_append_right _ (List.mem_append_right _ (List.mem_append_right _ (List.mem_append_left _ hh)))))) gd_m_work) rfl rfl rfl (by decide +kernel) ⟨by show 0 + 1 ≤ 2 * (N + 1) + 405; omega, by show 8 + (2 + 11) + (0) ≤ 200 * (N + 1) + 25620; omega⟩) ⟨pw_blind, tw_recv hK hT (fx_50 hX) (by decide) cl_e60 rfl, pw_use hT hK hFc hS hM⟩ rfl rfl hl.1 rfl (lv_room (Nat.le_of_ble_eq_true rfl)) dX12_planFrom_119 ⟨Nat.le_of_ble_eq_true rfl, Nat.le_of_ble_eq_true rfl⟩) hS (fun q _ h => hFc q h) hFc (fun r0 r_409 t H locs ht hvm hw hB hz1 hk1 hS => ?_)
              refine W.widen (k := 0) (n := 0) (Nat.le_of_ble_eq_true rfl) (Nat.le_of_ble_eq_true rfl) ?_
              clear hvm hz1 hk1
              subst hw
              obtain ⟨hf_410, hf_411, hT⟩ := hB
              rw [ht] at hT
              refine lv_aload_n hx hb dX12_planFrom_122 rfl (lv_at hl 1 rfl) ?_
              refine tw_get (D := (dC, dI)) (v := .ref (a 53)) (C := RX12) (T := TX12) (N := 58) hx hb hts (fun _ hh => (List.mem_cons_of_mem _ (List.mem_append_right _ (List.mem_append_left _ hh)))) hown hK hT (fx_50 hX) (by decide) cl_e60 rfl 2 (by decide) (hts (.fieldLink RX12 13 "TypingPoolModel" "speed" "[I") (List.mem_cons_of_mem _ (List.mem_append_left _ (List.mem_of_getElem? (i := 14) rfl)))) (fun _ h9 => h9) rfl dX12_planFrom_123 ?_
              refine lv_iload hx hb dX12_planFrom_126 (lv_at hl 9 rfl) ?_
              refine tw_iald hx hb hK hT 0 (fx_53 hX) (by decide) cl_e63 rfl (z_in rfl (by omega) (by omega)) dX12_planFrom_128 ?_
              have hv_412 := vb_at (im_a53 hI) (x := (y (a 101) p0.toNatClampNeg)) rfl (by omega) (by omega)
              refine lv_aload_n hx hb dX12_planFrom_129 rfl (lv_at hl 1 rfl) ?_
              refine tw_get (D := (dC, dI)) (v := .ref (a 68)) (C := RX12) (T := TX12) (N := 58) hx hb hts (fun _ hh => (List.mem_cons_of_mem _ (List.mem_append_right _ (List.mem_append_left _ hh)))) hown hK hT (fx_50 hX) (by decide) cl_e60 rfl 17 (by decide) (hts (.fieldLink RX12 52 "TypingPoolModel" "words" "[I") (List.mem_cons_of_mem _ (List.mem_append_left _ (List.mem_of_getElem? (i := 15) rfl)))) (fun _ h9 => h9) rfl dX12_planFrom_130 ?_
              refine lv_iload hx hb dX12_planFrom_133 (lv_at hl 0 rfl) ?_
              refine tw_iald hx hb hK hT 0 (fx_68 hX) (by decide) cl_e78 rfl (z_in rfl (by omega) (by omega)) dX12_planFrom_135 ?_
              refine lv_iload hx hb dX12_planFrom_136 (lv_at hl 6 rfl) ?_
              refine lv_iconst (v := (-1)) hx hb dX12_planFrom_138 (by decide) ?_
              refine lv_ixor hx hb dX12_planFrom_139 ?_
              refine lv_topi (fun x_413 ex_413 => ?_)
              refine lv_iand hx hb dX12_planFrom_140 ?_
              refine lv_topi (fun x_414 ex_414 => ?_)
              have hFc := tw_free hF hS hA
              refine va_calli (va_runS (As := [.int (y_402 (a 53) (y (a 101) p0.toNatClampNeg).toNatClampNeg), .int x_414]) (rest := [.int r_409, .int p3, .int (y (a 101) p0.toNatClampNeg), .ref (a 50)]) ⟨hx, hb, hml, hown, hts⟩ (m_rate l dC dI ad av H.size a k τ ln y_402 g_403 u (y_402 (a 53) (y (a 101) p0.toNatClampNeg).toNatClampNeg) x_414  (by omega) (by omega)) (va_cwS 2 hts (gi_3 (List.mem_cons_of_mem _ (List.mem_append_left _ (List.mem_of_getElem? (i := 16) rfl))) (List.mem_cons_of_mem _ (List.mem_append_left _ (List.mem_of_getElem? (i := 17) rfl))) (List.mem_cons_of_mem _ (List.mem_append_left _ (List.mem_of_getElem? (i := 10) rfl))) (fun _ hh => (List.mem_cons_of_mem _ (List.mem_append_right _ (List.mem_append_right _ (List.mem_append_right _ (List.mem_append_right _ (List.mem_append_left _ hh))))))) gd_m_rate) rfl rfl rfl (by decide +kernel) ⟨by show 2 + 1 ≤ 2 * (N + 1) + 405; omega, by show 8 + (2 + 11) + (120) ≤ 200 * (N + 1) + 25620; omega⟩) ⟨pw_blind, pw_use hT hK hFc hS hM⟩ rfl rfl hl.1 rfl (lv_room (Nat.le_of_ble_eq_true rfl)) dX12_planFrom_141 ⟨Nat.le_of_ble_eq_true rfl, Nat.le_of_ble_eq_true rfl⟩) hS (fun q _ h => hFc q h) hFc (fun r0 r_415 t H locs ht hvm hw hB hz1 hk1 hS => ?_)
              refine W.widen (k := 0) (n := 0) (Nat.le_of_ble_eq_true rfl) (Nat.le_of_ble_eq_true rfl) ?_
              clear hvm hz1 hk1
              subst hw
              obtain ⟨hf_416, hf_417, hT⟩ := hB
              rw [ht] at hT
              have hFc := tw_free hF hS hA
              refine va_calli (va_runS (As := [.int r_409, .int r_415]) (rest := [.int p3, .int (y (a 101) p0.toNatClampNeg), .ref (a 50)]) ⟨hx, hb, hml, hown, hts⟩ (m_minutes l dC dI ad av H.size a k τ ln y_402 g_403 u r_409 r_415  (by omega) (by omega) (by omega) (by omega)) (va_cwS 2 hts (gi_3 (List.mem_cons_of_mem _ (List.mem_append_left _ (List.mem_of_getElem? (i := 18) rfl))) (List.mem_cons_of_mem _ (List.mem_append_left _ (List.mem_of_getElem? (i := 19) rfl))) (List.mem_cons_of_mem _ (List.mem_append_left _ (List.mem_of_getElem? (i := 10) rfl))) (fun _ hh => (List.mem_cons_of_mem _ (List.mem_append_right _ (List.mem_append_right _ (List.mem_append_right _ (List.mem_append_right _ (List.mem_append_right _ (List.mem_append_left _ hh)))))))) gd_m_minutes) rfl rfl rfl (by decide +kernel) ⟨by show 0 + 1 ≤ 2 * (N + 1) + 405; omega, by show 8 + (2 + 11) + (0) ≤ 200 * (N + 1) + 25620; omega⟩) ⟨pw_blind, pw_use hT hK hFc hS hM⟩ rfl rfl hl.1 rfl (lv_room (Nat.le_of_ble_eq_true rfl)) dX12_planFrom_144 ⟨Nat.le_of_ble_eq_true rfl, Nat.le_of_ble_eq_true rfl⟩) hS (fun q _ h => hFc q h) hFc (fun r0 r_418 t H locs ht hvm hw hB hz1 hk1 hS => ?_)
              refine W.widen (k := 0) (n := 0) (Nat.le_of_ble_eq_true rfl) (Nat.le_of_ble_eq_true rfl) ?_
              clear hvm hz1 hk1
              subst hw
              obtain ⟨hf_419, hf_420, hT⟩ := hB
              rw [ht] at hT
              have hFc := tw_free hF hS hA
              refine va_calli (va_runV (As := [.int (y (a 101) p0.toNatClampNeg), .int p3, .int r_418]) (rest := []) ⟨hx, hb, hml, hown, hts⟩ (m_ends l dC dI ad av H.size a k τ ln y_402 g_403 u (y (a 101) p0.toNatClampNeg) p3 r_418 hI (by omega) (by omega) (by omega) (by omega) (by omega) (by omega) (show vb 38408 0 4800 (y_402 (a 99)) from by rw [hG.at (fx_99 hX) (by decide)]; exact hth) hW) (cwV 3 hts (gi_4 (List.mem_cons_of_mem _ (List.mem_append_left _ (List.mem_of_getElem? (i := 20) rfl))) (List.mem_cons_of_mem _ (List.mem_append_left _ (List.mem_of_getElem? (i := 21) rfl))) (List.mem_cons_of_mem _ (List.mem_append_left _ (List.mem_of_getElem? (i := 22) rfl))) (List.mem_cons_of_mem _ (List.mem_append_left _ (List.mem_of_getElem? (i := 10) rfl))) (fun _ hh => (List.mem_cons_of_mem _ (List.mem_append_right _ (List.mem_append_right _ (List.mem_append_right _ (List.mem_append_right _ (List.mem_append_right _ (List.mem_append_right _ (List.mem_append_left _ hh))))))))) gd_m_ends) rfl rfl rfl (by decide +kernel) ⟨by show 0 + 1 ≤ 2 * (N + 1) + 405; omega, by show 8 + (9 + 11) + (0) ≤ 200 * (N + 1) + 25620; omega⟩) ⟨pw_blind, tw_recv hK hT (fx_50 hX) (by decide) cl_e60 rfl, pw_use hT hK hFc hS hM⟩ rfl rfl hl.1 rfl (lv_room (Nat.le_of_ble_eq_true rfl)) dX12_planFrom_147 ⟨Nat.le_of_ble_eq_true rfl, Nat.le_of_ble_eq_true rfl⟩) hS (fun q _ h => hFc q h) hFc (fun r0 r_421 t H locs ht hvm hw hB hz1 hk1 hS => ?_)
              refine W.widen (k := 0) (n := 0) (Nat.le_of_ble_eq_true rfl) (Nat.le_of_ble_eq_true rfl) ?_
              clear hvm hz1 hk1
              subst hw
              obtain ⟨hf_422, hf_423, hT⟩ := hB
              rw [ht] at hT
              refine lv_istore (lv' := [(11, .int r_421), (10, .int (y_L69 (a 100) i9.toNatClampNeg)), (0, .ref (a 50)), (1, .int p0), (2, .int p1), (3, .int p2), (4, .int p3), (5, .int p4), (6, .int p5), (7, .int p6), (8, .int (y (a 101) p0.toNatClampNeg)), (9, .int i9)]) hx hb dX12_planFrom_150 hl (by decide) rfl (fun ls hl => ?_)
              refine lv_aload_n hx hb dX12_planFrom_152 rfl (lv_at hl 2 rfl) ?_
              refine tw_get (D := (dC, dI)) (v := .ref (a 104)) (C := RX12) (T := TX12) (N := 58) hx hb hts (fun _ hh => (List.mem_cons_of_mem _ (List.mem_append_right _ (List.mem_append_left _ hh)))) hown hK hT (fx_50 hX) (by decide) cl_e60 rfl 53 (by decide) (hts (.fieldLink RX12 129 "TypingPoolModel" "tryRow" "[I") (List.mem_cons_of_mem _ (List.mem_append_left _ (List.mem_of_getElem? (i := 3) rfl)))) (fun _ h9 => h9) rfl dX12_planFrom_153 ?_
              refine lv_iload_n hx hb dX12_planFrom_156 rfl (lv_at hl 5 rfl) ?_
              refine lv_iload hx hb dX12_planFrom_157 (lv_at hl 1 rfl) ?_
              refine tw_iast hx hb hK hT hF hS 0 (fx_104 hX) (by decide) (fun _ => cl_e114) rfl (z_in rfl (by omega) (by omega)) dX12_planFrom_159 (fun H locs hT hS => ?_)
              obtain ⟨y_424, hy_424, hT⟩ : ∃ z : Nat → Nat → Int32, z = up2 y_402 (a 104) p2.toNatClampNeg (y_L69 (a 100) i9.toNatClampNeg) ∧ tw (dC, dI) a k τ ln z g_403 H := ⟨_, rfl, hT⟩
              have hG : ag τ [60, 102, 114, 115] y y_424 := by rw [hy_424]; exact hG.up (fx_104 hX) (by decide)
              have : (y_424 (a 50) 51).toInt = (y_402 (a 50) 51).toInt := by rw [hy_424, up2_o (kd_ne (fx_50 hX) (fx_104 hX) (by decide))]
              have : (y_424 (a 50) 52).toInt = (y_402 (a 50) 52).toInt := by rw [hy_424, up2_o (kd_ne (fx_50 hX) (fx_104 hX) (by decide))]
              have hW : IW (u 1) (u 2) (u 9) (y_424 (a 89)) := by rw [hy_424, up2_o (kd_ne (fx_89 hX) (fx_104 hX) (by decide))]; exact hW
              have hI := hI.ag (S := [114]) (y' := y_424) (by rw [hy_424]; exact ag.one (fx_104 hX)) (by decide)
              refine lv_aload_n hx hb dX12_planFrom_160 rfl (lv_at hl 2 rfl) ?_
              refine lv_iload_n hx hb dX12_planFrom_161 rfl (lv_at hl 3 rfl) ?_
              refine lv_iload_n hx hb dX12_planFrom_162 rfl (lv_at hl 4 rfl) ?_
              refine lv_iconst (v := 1) hx hb dX12_planFrom_163 (by decide) ?_
              refine lv_iload hx hb dX12_planFrom_164 (lv_at hl 11 rfl) ?_
              refine lv_ishl hx hb dX12_planFrom_166 ?_
              refine lv_topi (fun x_425 ex_425 => ?_)
              refine lv_ior hx hb dX12_planFrom_167 ?_
              refine lv_topi (fun x_426 ex_426 => ?_)
              refine lv_iload_n hx hb dX12_planFrom_168 rfl (lv_at hl 5 rfl) ?_
              refine lv_iconst (v := 1) hx hb dX12_planFrom_169 (by decide) ?_
              refine lv_iadd hx hb dX12_planFrom_170 ?_
              refine lv_topi (fun x_427 ex_427 => ?_)
              have hx_427 := z_add ex_427 rfl (zk (x := 1) 1 rfl) (by omega) (by omega)
              refine lv_iload hx hb dX12_planFrom_171 (lv_at hl 0 rfl) ?_
              refine lv_iload hx hb dX12_planFrom_173 (lv_at hl 7 rfl) ?_
              refine lv_aload_n hx hb dX12_planFrom_175 rfl (lv_at hl 2 rfl) ?_
              refine tw_get (D := (dC, dI)) (v := .ref (a 68)) (C := RX12) (T := TX12) (N := 58) hx hb hts (fun _ hh => (List.mem_cons_of_mem _ (List.mem_append_right _ (List.mem_append_left _ hh)))) hown hK hT (fx_50 hX) (by decide) cl_e60 rfl 17 (by decide) (hts (.fieldLink RX12 52 "TypingPoolModel" "words" "[I") (List.mem_cons_of_mem _ (List.mem_append_left _ (List.mem_of_getElem? (i := 15) rfl)))) (fun _ h9 => h9) rfl dX12_planFrom_176 ?_
              refine lv_iload hx hb dX12_planFrom_179 (lv_at hl 1 rfl) ?_
              refine tw_iald hx hb hK hT 0 (fx_68 hX) (by decide) cl_e78 rfl (z_in rfl (by omega) (by omega)) dX12_planFrom_181 ?_
              refine lv_ior hx hb dX12_planFrom_182 ?_
              refine lv_topi (fun x_428 ex_428 => ?_)
              refine lv_iload hx hb dX12_planFrom_183 (lv_at hl 8 rfl) ?_
              refine lv_iload hx hb dX12_planFrom_185 (lv_at hl 0 rfl) ?_
              refine lv_aload_n hx hb dX12_planFrom_187 rfl (lv_at hl 2 rfl) ?_
              refine tw_get (D := (dC, dI)) (v := .ref (a 67)) (C := RX12) (T := TX12) (N := 58) hx hb hts (fun _ hh => (List.mem_cons_of_mem _ (List.mem_append_right _ (List.mem_append_left _ hh)))) hown hK hT (fx_50 hX) (by decide) cl_e60 rfl 16 (by decide) (hts (.fieldLink RX12 49 "TypingPoolModel" "due" "[I") (List.mem_cons_of_mem _ (List.mem_append_left _ (List.mem_of_getElem? (i := 23) rfl)))) (fun _ h9 => h9) rfl dX12_planFrom_188 ?_
              refine lv_iload hx hb dX12_planFrom_191 (lv_at hl 1 rfl) ?_
              refine tw_iald hx hb hK hT 0 (fx_67 hX) (by decide) cl_e77 rfl (z_in rfl (by omega) (by omega)) dX12_planFrom_193 ?_
              refine lv_icmp_le (tgt := 201) hx hb dX12_planFrom_194 (by decide) (fun c_429 => ?_) (fun c_429 => ?_)
              · have nc_429 := z_le rfl rfl c_429
                refine lv_iconst (v := 0) hx hb dX12_planFrom_201 (by decide) ?_
                refine lv_iadd hx hb dX12_planFrom_202 ?_
                refine lv_topi (fun x_430 ex_430 => ?_)
                refine lv_iload hx hb dX12_planFrom_203 (lv_at hl 9 rfl) ?_
                refine lv_iconst (v := 0) hx hb dX12_planFrom_205 (by decide) ?_
                refine lv_iload hx hb dX12_planFrom_206 (lv_at hl 0 rfl) ?_
                refine lv_aload_n hx hb dX12_planFrom_208 rfl (lv_at hl 2 rfl) ?_
                refine tw_get (D := (dC, dI)) (v := .ref (a 67)) (C := RX12) (T := TX12) (N := 58) hx hb hts (fun _ hh => (List.mem_cons_of_mem _ (List.mem_append_right _ (List.mem_append_left _ hh)))) hown hK hT (fx_50 hX) (by decide) cl_e60 rfl 16 (by decide) (hts (.fieldLink RX12 49 "TypingPoolModel" "due" "[I") (List.mem_cons_of_mem _ (List.mem_append_left _ (List.mem_of_getElem? (i := 23) rfl)))) (fun _ h9 => h9) rfl dX12_planFrom_209 ?_
                refine lv_iload hx hb dX12_planFrom_212 (lv_at hl 1 rfl) ?_
                refine tw_iald hx hb hK hT 0 (fx_67 hX) (by decide) cl_e77 rfl (z_in rfl (by omega) (by omega)) dX12_planFrom_214 ?_
                refine lv_isub hx hb dX12_planFrom_215 ?_
                refine lv_topi (fun x_431 ex_431 => ?_)
                refine va_mmax hx hb (by rw [hml]; exact hl.1.symm) hown (hts (.methodLink RX12 281 Lib.Math.max.name) (List.mem_cons_of_mem _ (List.mem_append_left _ (List.mem_of_getElem? (i := 24) rfl)))) (hts (.static Lib.Math.max.name) (List.mem_cons_of_mem _ (List.mem_append_left _ (List.mem_of_getElem? (i := 25) rfl)))) (hts (.initialized "java/lang/Math") (List.mem_cons_of_mem _ (List.mem_append_left _ (List.mem_of_getElem? (i := 26) rfl)))) (hts (.code Lib.Math.max.name Lib.Math.max.code 2 (some .int)) (List.mem_cons_of_mem _ (List.mem_append_left _ (List.mem_of_getElem? (i := 27) rfl)))) (Nat.le_of_ble_eq_true rfl) (Nat.le_of_ble_eq_true rfl) (Nat.le_of_ble_eq_true rfl) (Nat.le_of_ble_eq_true rfl) dX12_planFrom_216 ?_
                refine lv_topi (fun x_432 ex_432 => ?_)
                have hx_432 := z_max ex_432 (zk (x := 0) 0 rfl) rfl
                refine lv_iadd hx hb dX12_planFrom_219 ?_
                refine lv_topi (fun x_433 ex_433 => ?_)
                have h5_434 := pc5_step (i := i9) huA huB (by omega) (by omega) ex_397 ex_398 nc_399 ex_425 ex_426
                have hFc := tw_free hF hS hA
                refine va_callv (va_runV (As := [.int p0, .int x_426, .int x_427, .int r_421, .int x_428, .int x_430, .int x_433]) (rest := []) ⟨hx, hb, hml, hown, hts⟩ (ih1 l dC dI ad av H.size a k τ ln y_424 g_403 u p0 x_426 x_427 r_421 x_428 x_430 x_433 nP nH hI (by omega) (by omega) gn (by rw [hG.at (fx_100 hX) (by decide)]; exact gp) (by rw [hG.at (fx_101 hX) (by decide)]; exact gh) (show vb 38408 0 4800 (y_424 (a 99)) from by rw [hG.at (fx_99 hX) (by decide)]; exact hth) (by omega) (by omega) (by omega) (by omega) (by omega) (by omega) (by omega) (by omega) hW) (cwV 7 hts (gi_4 (List.mem_cons_of_mem _ (List.mem_append_left _ (List.mem_of_getElem? (i := 28) rfl))) (List.mem_cons_of_mem _ (List.mem_append_left _ (List.mem_of_getElem? (i := 29) rfl))) (List.mem_cons_of_mem _ (List.mem_append_left _ (List.mem_of_getElem? (i := 30) rfl))) (List.mem_cons_of_mem _ (List.mem_append_left _ (List.mem_of_getElem? (i := 10) rfl))) (fun _ hh => (List.mem_cons.mp hh).elim (fun ee => by rw [ee]; exact (List.mem_cons_of_mem _ (List.mem_append_left _ (List.mem_of_getElem? (i := 0) rfl)))) (fun h9 => List.mem_cons_of_mem _ h9)) gd_g_planFrom) rfl rfl rfl (by decide +kernel) ⟨by show 2 * N + 405 + 1 ≤ 2 * (N + 1) + 405; omega, by show 8 + (12 + 11) + (200 * N + 25620) ≤ 200 * (N + 1) + 25620; omega⟩) ⟨pw_blind, tw_recv hK hT (fx_50 hX) (by decide) cl_e60 rfl, pw_use hT hK hFc hS hM⟩ rfl rfl hl.1 rfl (lv_room (Nat.le_of_ble_eq_true rfl)) dX12_planFrom_220 ⟨Nat.le_of_ble_eq_true rfl, Nat.le_of_ble_eq_true rfl⟩) hS (fun q _ h => hFc q h) hFc (fun u0 t H locs ht hvm hw hB hz1 hk1 hS => ?_)
                refine W.widen (k := 0) (n := 0) (Nat.le_of_ble_eq_true rfl) (Nat.le_of_ble_eq_true rfl) ?_
                clear hvm hz1 hk1
                obtain ⟨y_436, g_437, hgy_436, hggg_437, hI, hf_438, hf_439, hT⟩ := hB
                rw [ht] at hT
                have hG := hG.tr hgy_436 (by decide)
                have hGg := hGg.tr hggg_437
                have hW : IW (u 1) (u 2) (u 9) (y_436 (a 89)) := by rw [hgy_436.at (fx_89 hX) (by decide)]; exact hW
                obtain ⟨x_440, ex_440⟩ : ∃ y : Int32, y = i9 + Int32.ofInt 1 := ⟨_, rfl⟩
                have hx_440 := z_add ex_440 rfl (zk (x := Int32.ofInt 1) 1 rfl) (by omega) (by omega)
                refine lv_iinc (v := x_440) (lv' := [(9, .int x_440), (11, .int r_421), (10, .int (y_L69 (a 100) i9.toNatClampNeg)), (0, .ref (a 50)), (1, .int p0), (2, .int p1), (3, .int p2), (4, .int p3), (5, .int p4), (6, .int p5), (7, .int p6), (8, .int (y (a 101) p0.toNatClampNeg))]) hx hb dX12_planFrom_223 hl (k := 11) rfl ex_440.symm (by decide) rfl (fun ls hl => ?_)
                refine lv_goto (tgt := 69) hx hb dX12_planFrom_226 (by decide) ?_
                exact ih_69  x_440 y_436 g_437 H _ ls (by omega) hG hI hGg hW (by omega) (by omega) (by omega) (by omega) hT hS (lv_sub hl [3, 4, 5, 6, 7, 8, 9, 10, 11, 0] rfl)
              · have nc_429 := z_nle rfl rfl c_429
                refine lv_iconst (v := 1) hx hb dX12_planFrom_197 (by decide) ?_
                refine lv_goto (tgt := 202) hx hb dX12_planFrom_198 (by decide) ?_
                refine lv_iadd hx hb dX12_planFrom_202 ?_
                refine lv_topi (fun x_441 ex_441 => ?_)
                refine lv_iload hx hb dX12_planFrom_203 (lv_at hl 9 rfl) ?_
                refine lv_iconst (v := 0) hx hb dX12_planFrom_205 (by decide) ?_
                refine lv_iload hx hb dX12_planFrom_206 (lv_at hl 0 rfl) ?_
                refine lv_aload_n hx hb dX12_planFrom_208 rfl (lv_at hl 2 rfl) ?_
                refine tw_get (D := (dC, dI)) (v := .ref (a 67)) (C := RX12) (T := TX12) (N := 58) hx hb hts (fun _ hh => (List.mem_cons_of_mem _ (List.mem_append_right _ (List.mem_append_left _ hh)))) hown hK hT (fx_50 hX) (by decide) cl_e60 rfl 16 (by decide) (hts (.fieldLink RX12 49 "TypingPoolModel" "due" "[I") (List.mem_cons_of_mem _ (List.mem_append_left _ (List.mem_of_getElem? (i := 23) rfl)))) (fun _ h9 => h9) rfl dX12_planFrom_209 ?_
                refine lv_iload hx hb dX12_planFrom_212 (lv_at hl 1 rfl) ?_
                refine tw_iald hx hb hK hT 0 (fx_67 hX) (by decide) cl_e77 rfl (z_in rfl (by omega) (by omega)) dX12_planFrom_214 ?_
                refine lv_isub hx hb dX12_planFrom_215 ?_
                refine lv_topi (fun x_442 ex_442 => ?_)
                refine va_mmax hx hb (by rw [hml]; exact hl.1.symm) hown (hts (.methodLink RX12 281 Lib.Math.max.name) (List.mem_cons_of_mem _ (List.mem_append_left _ (List.mem_of_getElem? (i := 24) rfl)))) (hts (.static Lib.Math.max.name) (List.mem_cons_of_mem _ (List.mem_append_left _ (List.mem_of_getElem? (i := 25) rfl)))) (hts (.initialized "java/lang/Math") (List.mem_cons_of_mem _ (List.mem_append_left _ (List.mem_of_getElem? (i := 26) rfl)))) (hts (.code Lib.Math.max.name Lib.Math.max.code 2 (some .int)) (List.mem_cons_of_mem _ (List.mem_append_left _ (List.mem_of_getElem? (i := 27) rfl)))) (Nat.le_of_ble_eq_true rfl) (Nat.le_of_ble_eq_true rfl) (Nat.le_of_ble_eq_true rfl) (Nat.le_of_ble_eq_true rfl) dX12_planFrom_216 ?_
                refine lv_topi (fun x_443 ex_443 => ?_)
                have hx_443 := z_max ex_443 (zk (x := 0) 0 rfl) rfl
                refine lv_iadd hx hb dX12_planFrom_219 ?_
                refine lv_topi (fun x_444 ex_444 => ?_)
                have h5_445 := pc5_step (i := i9) huA huB (by omega) (by omega) ex_397 ex_398 nc_399 ex_425 ex_426
                have hFc := tw_free hF hS hA
                refine va_callv (va_runV (As := [.int p0, .int x_426, .int x_427, .int r_421, .int x_428, .int x_441, .int x_444]) (rest := []) ⟨hx, hb, hml, hown, hts⟩ (ih1 l dC dI ad av H.size a k τ ln y_424 g_403 u p0 x_426 x_427 r_421 x_428 x_441 x_444 nP nH hI (by omega) (by omega) gn (by rw [hG.at (fx_100 hX) (by decide)]; exact gp) (by rw [hG.at (fx_101 hX) (by decide)]; exact gh) (show vb 38408 0 4800 (y_424 (a 99)) from by rw [hG.at (fx_99 hX) (by decide)]; exact hth) (by omega) (by omega) (by omega) (by omega) (by omega) (by omega) (by omega) (by omega) hW) (cwV 7 hts (gi_4 (List.mem_cons_of_mem _ (List.mem_append_left _ (List.mem_of_getElem? (i := 28) rfl))) (List.mem_cons_of_mem _ (List.mem_append_left _ (List.mem_of_getElem? (i := 29) rfl))) (List.mem_cons_of_mem _ (List.mem_append_left _ (List.mem_of_getElem? (i := 30) rfl))) (List.mem_cons_of_mem _ (List.mem_append_left _ (List.mem_of_getElem? (i := 10) rfl))) (fun _ hh => (List.mem_cons.mp hh).elim (fun ee => by rw [ee]; exact (List.mem_cons_of_mem _ (List.mem_append_left _ (List.mem_of_getElem? (i := 0) rfl)))) (fun h9 => List.mem_cons_of_mem _ h9)) gd_g_planFrom) rfl rfl rfl (by decide +kernel) ⟨by show 2 * N + 405 + 1 ≤ 2 * (N + 1) + 405; omega, by show 8 + (12 + 11) + (200 * N + 25620) ≤ 200 * (N + 1) + 25620; omega⟩) ⟨pw_blind, tw_recv hK hT (fx_50 hX) (by decide) cl_e60 rfl, pw_use hT hK hFc hS hM⟩ rfl rfl hl.1 rfl (lv_room (Nat.le_of_ble_eq_true rfl)) dX12_planFrom_220 ⟨Nat.le_of_ble_eq_true rfl, Nat.le_of_ble_eq_true rfl⟩) hS (fun q _ h => hFc q h) hFc (fun u0 t H locs ht hvm hw hB hz1 hk1 hS => ?_)
                refine W.widen (k := 0) (n := 0) (Nat.le_of_ble_eq_true rfl) (Nat.le_of_ble_eq_true rfl) ?_
                clear hvm hz1 hk1
                obtain ⟨y_447, g_448, hgy_447, hggg_448, hI, hf_449, hf_450, hT⟩ := hB
                rw [ht] at hT
                have hG := hG.tr hgy_447 (by decide)
                have hGg := hGg.tr hggg_448
                have hW : IW (u 1) (u 2) (u 9) (y_447 (a 89)) := by rw [hgy_447.at (fx_89 hX) (by decide)]; exact hW
                obtain ⟨x_451, ex_451⟩ : ∃ y : Int32, y = i9 + Int32.ofInt 1 := ⟨_, rfl⟩
                have hx_451 := z_add ex_451 rfl (zk (x := Int32.ofInt 1) 1 rfl) (by omega) (by omega)
                refine lv_iinc (v := x_451) (lv' := [(9, .int x_451), (11, .int r_421), (10, .int (y_L69 (a 100) i9.toNatClampNeg)), (0, .ref (a 50)), (1, .int p0), (2, .int p1), (3, .int p2), (4, .int p3), (5, .int p4), (6, .int p5), (7, .int p6), (8, .int (y (a 101) p0.toNatClampNeg))]) hx hb dX12_planFrom_223 hl (k := 11) rfl ex_451.symm (by decide) rfl (fun ls hl => ?_)
                refine lv_goto (tgt := 69) hx hb dX12_planFrom_226 (by decide) ?_
                exact ih_69  x_451 y_447 g_448 H _ ls (by omega) hG hI hGg hW (by omega) (by omega) (by omega) (by omega) hT hS (lv_sub hl [3, 4, 5, 6, 7, 8, 9, 10, 11, 0] rfl)
            · refine lq_top (v := 0) hre ?_
              rw [ht] at hT
              have hG := hG.tr hgy_405 (by decide)
              have hGg := hGg.tr hggg_406
              have hW : IW (u 1) (u 2) (u 9) (y_405 (a 89)) := by rw [hgy_405.at (fx_89 hX) (by decide)]; exact hW
              have : (y_405 (a 50) 51).toInt = (y_L69 (a 50) 51).toInt := congrArg Int32.toInt (hf_407 51 (by decide))
              have : (y_405 (a 50) 52).toInt = (y_L69 (a 50) 52).toInt := congrArg Int32.toInt (hf_407 52 (by decide))
              refine lv_if_ne (tgt := 111) hx hb dX12_planFrom_105 (by decide) (fun c_452 => absurd c_452 (by decide)) (fun c_452 => ?_)
              refine lv_goto (tgt := 223) hx hb dX12_planFrom_108 (by decide) ?_
              obtain ⟨x_453, ex_453⟩ : ∃ y : Int32, y = i9 + Int32.ofInt 1 := ⟨_, rfl⟩
              have hx_453 := z_add ex_453 rfl (zk (x := Int32.ofInt 1) 1 rfl) (by omega) (by omega)
              refine lv_iinc (v := x_453) (lv' := [(9, .int x_453), (10, .int (y_L69 (a 100) i9.toNatClampNeg)), (0, .ref (a 50)), (1, .int p0), (2, .int p1), (3, .int p2), (4, .int p3), (5, .int p4), (6, .int p5), (7, .int p6), (8, .int (y (a 101) p0.toNatClampNeg))]) hx hb dX12_planFrom_223 hl (k := 10) rfl ex_453.symm (by decide) rfl (fun ls hl => ?_)
              refine lv_goto (tgt := 69) hx hb dX12_planFrom_226 (by decide) ?_
              exact ih_69  x_453 y_405 g_406 H _ ls (by omega) hG hI hGg hW (by omega) (by omega) (by omega) (by omega) hT hS (lv_sub hl [2, 3, 4, 5, 6, 7, 8, 9, 10, 0] rfl)
    have hp_454 : (0 : Int32).toInt = 0 := (zk (x := 0) 0 rfl)
    exact loop_69 _ (0 : Int32) y_391 g_392 H _ ls (Nat.lt_succ_self _) hG hI hGg hW (by omega) (by omega) (by omega) (by omega) hT hS (lv_sub hl [2, 3, 4, 5, 6, 7, 8, 9, 1, 0] rfl)

set_option maxHeartbeats 4000000 in
set_option maxRecDepth 100000 in
theorem g_beginHand_step (N : Nat) (ih1 : St_g_planFrom N) : St_g_beginHand N := by
  intro l dC dI ad av sz a k τ ln y g u p0 p1 p2 p3 p4 nP nH hI g51 g52 gn gp gh hth hkA hkB huA huB hmn hN hW
  refine Met.ofW (cc := cX12_beginHand) (maxL := 9) (ret := none) (by decide) rfl ?_
  intro p e s m args below meth c s₁ B hml hv
  obtain ⟨rfl, hsz, hT, hK, hM⟩ := hv
  have hx := B.exec
  have hb := B.bytes
  have hr := B.returns
  have hts := atoms_spec (ws := wm_g_beginHand) B.pre
  have hown : s.vm.findClass RX12 = some m.cls := findClass_of_methodNamed B.named
  have hlocks := B.notSynchronized
  subst hsz
  generalize hAe : fr τ s.heap.size = A at hM ⊢
  have hA : ∀ q : Nat, s.heap.size ≤ q → A q := fun q h => by rw [← hAe]; exact Or.inr h
  have hF : ∀ q, τ q ≠ 0 → A q := fun q h => by rw [← hAe]; exact Or.inl h
  have hS : va_S A s.heap s.heap [] := va_S.rf
  have hX := hI.1
  have hR := im_r hI
  have hG : ag τ [60, 102, 114, 115] y y := ag.rf
  have hGg : agg τ g g := agg.rf
  have hl := lv_entry ([.ref (a 50), .int p0, .int p1, .int p2, .int p3, .int p4]) (n := 9) (Nat.le_of_ble_eq_true rfl)
  rw [lg_entry_eq]
  generalize (lg_sl ([.ref (a 50), .int p0, .int p1, .int p2, .int p3, .int p4]) ++ List.replicate (9 - (lg_sl ([.ref (a 50), .int p0, .int p1, .int p2, .int p3, .int p4])).length) Slot.unset).toArray = ls at hl ⊢
  have hl : lv_has ls 9 [(0, .ref (a 50)), (1, .int p0), (2, .int p1), (3, .int p2), (4, .int p3), (5, .int p4)] := hl
  have hp5 := pc5_rg p1
  refine lv_aload_n hx hb dX12_beginHand_0 rfl (lv_at hl 0 rfl) ?_
  refine tw_get (D := (dC, dI)) (v := .ref (a 101)) (C := RX12) (T := TX12) (N := 58) hx hb hts (fun _ hh => (List.mem_cons_of_mem _ (List.mem_append_right _ (List.mem_append_left _ hh)))) hown hK hT (fx_50 hX) (by decide) cl_e60 rfl 50 (by decide) (hts (.fieldLink RX12 126 "TypingPoolModel" "planHands" "[I") (List.mem_cons_of_mem _ (List.mem_append_left _ (List.mem_of_getElem? (i := 2) rfl)))) (fun _ h9 => h9) rfl dX12_beginHand_1 ?_
  refine lv_iload_n hx hb dX12_beginHand_4 rfl (lv_at hl 1 rfl) ?_
  refine tw_iald hx hb hK hT 0 (fx_101 hX) (by decide) cl_e111 rfl (z_in rfl (by omega) (by omega)) dX12_beginHand_5 ?_
  have hv_4550 : vl nH (u 1) (y (a 101)) := gh
  have hv_455 := vl_at hv_4550 (x := p0) rfl (by omega) (by omega)
  refine lv_istore (lv' := [(6, .int (y (a 101) p0.toNatClampNeg)), (0, .ref (a 50)), (1, .int p0), (2, .int p1), (3, .int p2), (4, .int p3), (5, .int p4)]) hx hb dX12_beginHand_6 hl (by decide) rfl (fun ls hl => ?_)
  refine lv_aload_n hx hb dX12_beginHand_8 rfl (lv_at hl 1 rfl) ?_
  refine lv_iload hx hb dX12_beginHand_9 (lv_at hl 0 rfl) ?_
  refine lv_iconst (v := 0) hx hb dX12_beginHand_11 (by decide) ?_
  have hFc := tw_free hF hS hA
  have hp_456 : (0 : Int32).toInt = 0 := (zk (x := 0) 0 rfl)
  refine va_calli (va_runV (As := [.int (y (a 101) p0.toNatClampNeg), .int 0]) (rest := []) ⟨hx, hb, hml, hown, hts⟩ (m_get l dC dI ad av s.heap.size a k τ ln y g u (y (a 101) p0.toNatClampNeg) (0 : Int32) hI (by omega) (by omega) (by decide) (by decide) hW) (cwV 2 hts (gi_4 (List.mem_cons_of_mem _ (List.mem_append_left _ (List.mem_of_getElem? (i := 37) rfl))) (List.mem_cons_of_mem _ (List.mem_append_left _ (List.mem_of_getElem? (i := 38) rfl))) (List.mem_cons_of_mem _ (List.mem_append_left _ (List.mem_of_getElem? (i := 39) rfl))) (List.mem_cons_of_mem _ (List.mem_append_left _ (List.mem_of_getElem? (i := 10) rfl))) (fun _ hh => (List.mem_cons_of_mem _ (List.mem_append_right _ (List.mem_append_right _ (List.mem_append_right _ (List.mem_append_right _ (List.mem_append_right _ (List.mem_append_right _ (List.mem_append_right _ (List.mem_append_right _ (List.mem_append_left _ hh))))))))))) gd_m_get) rfl rfl rfl (by decide +kernel) ⟨by show 0 + 1 ≤ 2 * N + 406; omega, by show 8 + (3 + 11) + (0) ≤ 200 * N + 25720; omega⟩) ⟨pw_blind, tw_recv hK hT (fx_50 hX) (by decide) cl_e60 rfl, pw_use hT hK hFc hS hM⟩ rfl rfl hl.1 rfl (lv_room (Nat.le_of_ble_eq_true rfl)) dX12_beginHand_12 ⟨Nat.le_of_ble_eq_true rfl, Nat.le_of_ble_eq_true rfl⟩) hS (fun q _ h => hFc q h) hFc (fun r0 r_457 t H locs ht hvm hw hB hz1 hk1 hS => ?_)
  refine W.widen (k := 0) (n := 0) (Nat.le_of_ble_eq_true rfl) (Nat.le_of_ble_eq_true rfl) ?_
  clear hvm hz1 hk1
  subst hw
  obtain ⟨hf_458, hT⟩ := hB
  rw [ht] at hT
  try simp only [hp_456] at hf_458
  clear hp_456
  have hiw_459 := iw_rt hW (z := (y (a 101) p0.toNatClampNeg).toInt) (by omega) (by omega)
  refine lv_istore (lv' := [(7, .int r_457), (6, .int (y (a 101) p0.toNatClampNeg)), (0, .ref (a 50)), (1, .int p0), (2, .int p1), (3, .int p2), (4, .int p3), (5, .int p4)]) hx hb dX12_beginHand_15 hl (by decide) rfl (fun ls hl => ?_)
  refine lv_iload hx hb dX12_beginHand_17 (lv_at hl 0 rfl) ?_
  refine lv_iconst (v := (-1)) hx hb dX12_beginHand_19 (by decide) ?_
  refine lv_icmp_ne (tgt := 30) hx hb dX12_beginHand_20 (by decide) (fun c_460 => ?_) (fun c_460 => ?_)
  · have nc_460 := z_ne rfl (zk (x := (-1)) (-1) rfl) c_460
    refine lv_aload_n hx hb dX12_beginHand_30 rfl (lv_at hl 2 rfl) ?_
    refine lv_iload hx hb dX12_beginHand_31 (lv_at hl 1 rfl) ?_
    refine lv_aload_n hx hb dX12_beginHand_33 rfl (lv_at hl 2 rfl) ?_
    have hFc := tw_free hF hS hA
    refine va_calli (va_runV (As := []) (rest := [.int (y (a 101) p0.toNatClampNeg), .ref (a 50)]) ⟨hx, hb, hml, hown, hts⟩ (m_now l dC dI ad av H.size a k τ ln y g u  hI hW) (cwV 0 hts (gi_4 (List.mem_cons_of_mem _ (List.mem_append_left _ (List.mem_of_getElem? (i := 40) rfl))) (List.mem_cons_of_mem _ (List.mem_append_left _ (List.mem_of_getElem? (i := 41) rfl))) (List.mem_cons_of_mem _ (List.mem_append_left _ (List.mem_of_getElem? (i := 42) rfl))) (List.mem_cons_of_mem _ (List.mem_append_left _ (List.mem_of_getElem? (i := 10) rfl))) (fun _ hh => (List.mem_cons_of_mem _ (List.mem_append_right _ (List.mem_append_right _ (List.mem_append_right _ (List.mem_append_right _ (List.mem_append_right _ (List.mem_append_right _ (List.mem_append_right _ (List.mem_append_right _ (List.mem_append_right _ (List.mem_append_left _ hh)))))))))))) gd_m_now) rfl rfl rfl (by decide +kernel) ⟨by show 0 + 1 ≤ 2 * N + 406; omega, by show 8 + (1 + 11) + (0) ≤ 200 * N + 25720; omega⟩) ⟨pw_blind, tw_recv hK hT (fx_50 hX) (by decide) cl_e60 rfl, pw_use hT hK hFc hS hM⟩ rfl rfl hl.1 rfl (lv_room (Nat.le_of_ble_eq_true rfl)) dX12_beginHand_34 ⟨Nat.le_of_ble_eq_true rfl, Nat.le_of_ble_eq_true rfl⟩) hS (fun q _ h => hFc q h) hFc (fun r0 r_461 t H locs ht hvm hw hB hz1 hk1 hS => ?_)
    refine W.widen (k := 0) (n := 0) (Nat.le_of_ble_eq_true rfl) (Nat.le_of_ble_eq_true rfl) ?_
    clear hvm hz1 hk1
    subst hw
    obtain ⟨hf_462, hT⟩ := hB
    rw [ht] at hT
    refine lv_aload_n hx hb dX12_beginHand_37 rfl (lv_at hl 2 rfl) ?_
    refine lv_iload hx hb dX12_beginHand_38 (lv_at hl 0 rfl) ?_
    refine lv_iconst (v := 3) hx hb dX12_beginHand_40 (by decide) ?_
    have hFc := tw_free hF hS hA
    have hp_463 : (3 : Int32).toInt = 3 := (zk (x := 3) 3 rfl)
    refine va_calli (va_runV (As := [.int r_457, .int 3]) (rest := [.int r_461, .int (y (a 101) p0.toNatClampNeg), .ref (a 50)]) ⟨hx, hb, hml, hown, hts⟩ (m_pieceG l dC dI ad av H.size a k τ ln y g u r_457 (3 : Int32) hI (by omega) (by omega) (by decide) (by decide) hW) (cwV 2 hts (gi_4 (List.mem_cons_of_mem _ (List.mem_append_left _ (List.mem_of_getElem? (i := 43) rfl))) (List.mem_cons_of_mem _ (List.mem_append_left _ (List.mem_of_getElem? (i := 44) rfl))) (List.mem_cons_of_mem _ (List.mem_append_left _ (List.mem_of_getElem? (i := 45) rfl))) (List.mem_cons_of_mem _ (List.mem_append_left _ (List.mem_of_getElem? (i := 10) rfl))) (fun _ hh => (List.mem_cons_of_mem _ (List.mem_append_right _ (List.mem_append_right _ (List.mem_append_right _ (List.mem_append_right _ (List.mem_append_right _ (List.mem_append_right _ (List.mem_append_right _ (List.mem_append_right _ (List.mem_append_right _ (List.mem_append_right _ (List.mem_append_left _ hh))))))))))))) gd_m_pieceG) rfl rfl rfl (by decide +kernel) ⟨by show 0 + 1 ≤ 2 * N + 406; omega, by show 8 + (3 + 11) + (0) ≤ 200 * N + 25720; omega⟩) ⟨pw_blind, tw_recv hK hT (fx_50 hX) (by decide) cl_e60 rfl, pw_use hT hK hFc hS hM⟩ rfl rfl hl.1 rfl (lv_room (Nat.le_of_ble_eq_true rfl)) dX12_beginHand_41 ⟨Nat.le_of_ble_eq_true rfl, Nat.le_of_ble_eq_true rfl⟩) hS (fun q _ h => hFc q h) hFc (fun r0 r_464 t H locs ht hvm hw hB hz1 hk1 hS => ?_)
    refine W.widen (k := 0) (n := 0) (Nat.le_of_ble_eq_true rfl) (Nat.le_of_ble_eq_true rfl) ?_
    clear hvm hz1 hk1
    subst hw
    obtain ⟨hf_465, hT⟩ := hB
    rw [ht] at hT
    try simp only [hp_463] at hf_465
    clear hp_463
    have hiw_466 := iw_lf hW (z := r_457.toInt) (by omega) (by omega)
    refine lv_aload_n hx hb dX12_beginHand_44 rfl (lv_at hl 2 rfl) ?_
    refine lv_iload hx hb dX12_beginHand_45 (lv_at hl 1 rfl) ?_
    refine lv_iconst (v := 1) hx hb dX12_beginHand_47 (by decide) ?_
    have hFc := tw_free hF hS hA
    have hp_467 : (1 : Int32).toInt = 1 := (zk (x := 1) 1 rfl)
    refine va_calli (va_runV (As := [.int (y (a 101) p0.toNatClampNeg), .int 1]) (rest := [.int r_464, .int r_461, .int (y (a 101) p0.toNatClampNeg), .ref (a 50)]) ⟨hx, hb, hml, hown, hts⟩ (m_get l dC dI ad av H.size a k τ ln y g u (y (a 101) p0.toNatClampNeg) (1 : Int32) hI (by omega) (by omega) (by decide) (by decide) hW) (cwV 2 hts (gi_4 (List.mem_cons_of_mem _ (List.mem_append_left _ (List.mem_of_getElem? (i := 37) rfl))) (List.mem_cons_of_mem _ (List.mem_append_left _ (List.mem_of_getElem? (i := 38) rfl))) (List.mem_cons_of_mem _ (List.mem_append_left _ (List.mem_of_getElem? (i := 39) rfl))) (List.mem_cons_of_mem _ (List.mem_append_left _ (List.mem_of_getElem? (i := 10) rfl))) (fun _ hh => (List.mem_cons_of_mem _ (List.mem_append_right _ (List.mem_append_right _ (List.mem_append_right _ (List.mem_append_right _ (List.mem_append_right _ (List.mem_append_right _ (List.mem_append_right _ (List.mem_append_right _ (List.mem_append_left _ hh))))))))))) gd_m_get) rfl rfl rfl (by decide +kernel) ⟨by show 0 + 1 ≤ 2 * N + 406; omega, by show 8 + (3 + 11) + (0) ≤ 200 * N + 25720; omega⟩) ⟨pw_blind, tw_recv hK hT (fx_50 hX) (by decide) cl_e60 rfl, pw_use hT hK hFc hS hM⟩ rfl rfl hl.1 rfl (lv_room (Nat.le_of_ble_eq_true rfl)) dX12_beginHand_48 ⟨Nat.le_of_ble_eq_true rfl, Nat.le_of_ble_eq_true rfl⟩) hS (fun q _ h => hFc q h) hFc (fun r0 r_468 t H locs ht hvm hw hB hz1 hk1 hS => ?_)
    refine W.widen (k := 0) (n := 0) (Nat.le_of_ble_eq_true rfl) (Nat.le_of_ble_eq_true rfl) ?_
    clear hvm hz1 hk1
    subst hw
    obtain ⟨hf_469, hT⟩ := hB
    rw [ht] at hT
    try simp only [hp_467] at hf_469
    clear hp_467
    have hiw_470 := iw_rt hW (z := (y (a 101) p0.toNatClampNeg).toInt) (by omega) (by omega)
    have hFc := tw_free hF hS hA
    refine va_calli (va_runS (As := [.int r_464, .int r_468]) (rest := [.int r_461, .int (y (a 101) p0.toNatClampNeg), .ref (a 50)]) ⟨hx, hb, hml, hown, hts⟩ (m_minutes l dC dI ad av H.size a k τ ln y g u r_464 r_468  (by omega) (by omega) (by omega) (by omega)) (va_cwS 2 hts (gi_3 (List.mem_cons_of_mem _ (List.mem_append_left _ (List.mem_of_getElem? (i := 18) rfl))) (List.mem_cons_of_mem _ (List.mem_append_left _ (List.mem_of_getElem? (i := 19) rfl))) (List.mem_cons_of_mem _ (List.mem_append_left _ (List.mem_of_getElem? (i := 10) rfl))) (fun _ hh => (List.mem_cons_of_mem _ (List.mem_append_right _ (List.mem_append_right _ (List.mem_append_right _ (List.mem_append_right _ (List.mem_append_right _ (List.mem_append_left _ hh)))))))) gd_m_minutes) rfl rfl rfl (by decide +kernel) ⟨by show 0 + 1 ≤ 2 * N + 406; omega, by show 8 + (2 + 11) + (0) ≤ 200 * N + 25720; omega⟩) ⟨pw_blind, pw_use hT hK hFc hS hM⟩ rfl rfl hl.1 rfl (lv_room (Nat.le_of_ble_eq_true rfl)) dX12_beginHand_51 ⟨Nat.le_of_ble_eq_true rfl, Nat.le_of_ble_eq_true rfl⟩) hS (fun q _ h => hFc q h) hFc (fun r0 r_471 t H locs ht hvm hw hB hz1 hk1 hS => ?_)
    refine W.widen (k := 0) (n := 0) (Nat.le_of_ble_eq_true rfl) (Nat.le_of_ble_eq_true rfl) ?_
    clear hvm hz1 hk1
    subst hw
    obtain ⟨hf_472, hf_473, hT⟩ := hB
    rw [ht] at hT
    have hFc := tw_free hF hS hA
    refine va_calli (va_runV (As := [.int (y (a 101) p0.toNatClampNeg), .int r_461, .int r_471]) (rest := []) ⟨hx, hb, hml, hown, hts⟩ (m_ends l dC dI ad av H.size a k τ ln y g u (y (a 101) p0.toNatClampNeg) r_461 r_471 hI (by omega) (by omega) (by omega) (by omega) (by omega) (by omega) hth hW) (cwV 3 hts (gi_4 (List.mem_cons_of_mem _ (List.mem_append_left _ (List.mem_of_getElem? (i := 20) rfl))) (List.mem_cons_of_mem _ (List.mem_append_left _ (List.mem_of_getElem? (i := 21) rfl))) (List.mem_cons_of_mem _ (List.mem_append_left _ (List.mem_of_getElem? (i := 22) rfl))) (List.mem_cons_of_mem _ (List.mem_append_left _ (List.mem_of_getElem? (i := 10) rfl))) (fun _ hh => (List.mem_cons_of_mem _ (List.mem_append_right _ (List.mem_append_right _ (List.mem_append_right _ (List.mem_append_right _ (List.mem_append_right _ (List.mem_append_right _ (List.mem_append_left _ hh))))))))) gd_m_ends) rfl rfl rfl (by decide +kernel) ⟨by show 0 + 1 ≤ 2 * N + 406; omega, by show 8 + (9 + 11) + (0) ≤ 200 * N + 25720; omega⟩) ⟨pw_blind, tw_recv hK hT (fx_50 hX) (by decide) cl_e60 rfl, pw_use hT hK hFc hS hM⟩ rfl rfl hl.1 rfl (lv_room (Nat.le_of_ble_eq_true rfl)) dX12_beginHand_54 ⟨Nat.le_of_ble_eq_true rfl, Nat.le_of_ble_eq_true rfl⟩) hS (fun q _ h => hFc q h) hFc (fun r0 r_474 t H locs ht hvm hw hB hz1 hk1 hS => ?_)
    refine W.widen (k := 0) (n := 0) (Nat.le_of_ble_eq_true rfl) (Nat.le_of_ble_eq_true rfl) ?_
    clear hvm hz1 hk1
    subst hw
    obtain ⟨hf_475, hf_476, hT⟩ := hB
    rw [ht] at hT
    refine lv_istore (lv' := [(8, .int r_474), (7, .int r_457), (6, .int (y (a 101) p0.toNatClampNeg)), (0, .ref (a 50)), (1, .int p0), (2, .int p1), (3, .int p2), (4, .int p3), (5, .int p4)]) hx hb dX12_beginHand_57 hl (by decide) rfl (fun ls hl => ?_)
    refine lv_aload_n hx hb dX12_beginHand_59 rfl (lv_at hl 3 rfl) ?_
    refine lv_iload_n hx hb dX12_beginHand_60 rfl (lv_at hl 4 rfl) ?_
    refine lv_iload_n hx hb dX12_beginHand_61 rfl (lv_at hl 5 rfl) ?_
    refine lv_iload_n hx hb dX12_beginHand_62 rfl (lv_at hl 6 rfl) ?_
    refine lv_iload hx hb dX12_beginHand_63 (lv_at hl 0 rfl) ?_
    refine lv_aload_n hx hb dX12_beginHand_65 rfl (lv_at hl 3 rfl) ?_
    refine lv_iload hx hb dX12_beginHand_66 (lv_at hl 2 rfl) ?_
    refine lv_iconst (v := 2) hx hb dX12_beginHand_68 (by decide) ?_
    have hFc := tw_free hF hS hA
    have hp_477 : (2 : Int32).toInt = 2 := (zk (x := 2) 2 rfl)
    refine va_calli (va_runV (As := [.int (y (a 101) p0.toNatClampNeg), .int 2]) (rest := [.int r_474, .int p2, .int p1, .int p0, .ref (a 50)]) ⟨hx, hb, hml, hown, hts⟩ (m_get l dC dI ad av H.size a k τ ln y g u (y (a 101) p0.toNatClampNeg) (2 : Int32) hI (by omega) (by omega) (by decide) (by decide) hW) (cwV 2 hts (gi_4 (List.mem_cons_of_mem _ (List.mem_append_left _ (List.mem_of_getElem? (i := 37) rfl))) (List.mem_cons_of_mem _ (List.mem_append_left _ (List.mem_of_getElem? (i := 38) rfl))) (List.mem_cons_of_mem _ (List.mem_append_left _ (List.mem_of_getElem? (i := 39) rfl))) (List.mem_cons_of_mem _ (List.mem_append_left _ (List.mem_of_getElem? (i := 10) rfl))) (fun _ hh => (List.mem_cons_of_mem _ (List.mem_append_right _ (List.mem_append_right _ (List.mem_append_right _ (List.mem_append_right _ (List.mem_append_right _ (List.mem_append_right _ (List.mem_append_right _ (List.mem_append_right _ (List.mem_append_left _ hh))))))))))) gd_m_get) rfl rfl rfl (by decide +kernel) ⟨by show 0 + 1 ≤ 2 * N + 406; omega, by show 8 + (3 + 11) + (0) ≤ 200 * N + 25720; omega⟩) ⟨pw_blind, tw_recv hK hT (fx_50 hX) (by decide) cl_e60 rfl, pw_use hT hK hFc hS hM⟩ rfl rfl hl.1 rfl (lv_room (Nat.le_of_ble_eq_true rfl)) dX12_beginHand_69 ⟨Nat.le_of_ble_eq_true rfl, Nat.le_of_ble_eq_true rfl⟩) hS (fun q _ h => hFc q h) hFc (fun r0 r_478 t H locs ht hvm hw hB hz1 hk1 hS => ?_)
    refine W.widen (k := 0) (n := 0) (Nat.le_of_ble_eq_true rfl) (Nat.le_of_ble_eq_true rfl) ?_
    clear hvm hz1 hk1
    subst hw
    obtain ⟨hf_479, hT⟩ := hB
    rw [ht] at hT
    try simp only [hp_477] at hf_479
    clear hp_477
    refine lv_iload hx hb dX12_beginHand_72 (lv_at hl 1 rfl) ?_
    refine lv_iconst (v := (-1)) hx hb dX12_beginHand_74 (by decide) ?_
    refine lv_icmp_ne (tgt := 82) hx hb dX12_beginHand_75 (by decide) (fun c_480 => ?_) (fun c_480 => ?_)
    · have nc_480 := z_ne rfl (zk (x := (-1)) (-1) rfl) c_480
      refine lv_aload_n hx hb dX12_beginHand_82 rfl (lv_at hl 3 rfl) ?_
      refine tw_get (D := (dC, dI)) (v := .ref (a 68)) (C := RX12) (T := TX12) (N := 58) hx hb hts (fun _ hh => (List.mem_cons_of_mem _ (List.mem_append_right _ (List.mem_append_left _ hh)))) hown hK hT (fx_50 hX) (by decide) cl_e60 rfl 17 (by decide) (hts (.fieldLink RX12 52 "TypingPoolModel" "words" "[I") (List.mem_cons_of_mem _ (List.mem_append_left _ (List.mem_of_getElem? (i := 15) rfl)))) (fun _ h9 => h9) rfl dX12_beginHand_83 ?_
      refine lv_iload hx hb dX12_beginHand_86 (lv_at hl 1 rfl) ?_
      refine tw_iald hx hb hK hT 0 (fx_68 hX) (by decide) cl_e78 rfl (z_in rfl (by omega) (by omega)) dX12_beginHand_88 ?_
      refine lv_ior hx hb dX12_beginHand_89 ?_
      refine lv_topi (fun x_481 ex_481 => ?_)
      refine lv_iload hx hb dX12_beginHand_90 (lv_at hl 7 rfl) ?_
      refine lv_iload hx hb dX12_beginHand_92 (lv_at hl 8 rfl) ?_
      have hFc := tw_free hF hS hA
      refine va_callv (va_runV (As := [.int p0, .int p1, .int p2, .int r_474, .int x_481, .int p3, .int p4]) (rest := []) ⟨hx, hb, hml, hown, hts⟩ (ih1 l dC dI ad av H.size a k τ ln y g u p0 p1 p2 r_474 x_481 p3 p4 nP nH hI (by omega) (by omega) gn gp gh hth (by omega) (by omega) (by omega) (by omega) (by omega) (by omega) (by omega) (by omega) hW) (cwV 7 hts (gi_4 (List.mem_cons_of_mem _ (List.mem_append_left _ (List.mem_of_getElem? (i := 28) rfl))) (List.mem_cons_of_mem _ (List.mem_append_left _ (List.mem_of_getElem? (i := 29) rfl))) (List.mem_cons_of_mem _ (List.mem_append_left _ (List.mem_of_getElem? (i := 30) rfl))) (List.mem_cons_of_mem _ (List.mem_append_left _ (List.mem_of_getElem? (i := 10) rfl))) (fun _ hh => (List.mem_cons.mp hh).elim (fun ee => by rw [ee]; exact (List.mem_cons_of_mem _ (List.mem_append_left _ (List.mem_of_getElem? (i := 0) rfl)))) (fun h9 => List.mem_cons_of_mem _ h9)) gd_g_planFrom) rfl rfl rfl (by decide +kernel) ⟨by show 2 * N + 405 + 1 ≤ 2 * N + 406; omega, by show 8 + (12 + 11) + (200 * N + 25620) ≤ 200 * N + 25720; omega⟩) ⟨pw_blind, tw_recv hK hT (fx_50 hX) (by decide) cl_e60 rfl, pw_use hT hK hFc hS hM⟩ rfl rfl hl.1 rfl (lv_room (Nat.le_of_ble_eq_true rfl)) dX12_beginHand_94 ⟨Nat.le_of_ble_eq_true rfl, Nat.le_of_ble_eq_true rfl⟩) hS (fun q _ h => hFc q h) hFc (fun u0 t H locs ht hvm hw hB hz1 hk1 hS => ?_)
      refine W.widen (k := 0) (n := 0) (Nat.le_of_ble_eq_true rfl) (Nat.le_of_ble_eq_true rfl) ?_
      clear hvm hz1 hk1
      obtain ⟨y_483, g_484, hgy_483, hggg_484, hI, hf_485, hf_486, hT⟩ := hB
      rw [ht] at hT
      have hG := hG.tr hgy_483 (by decide)
      have hGg := hGg.tr hggg_484
      have hW : IW (u 1) (u 2) (u 9) (y_483 (a 89)) := by rw [hgy_483.at (fx_89 hX) (by decide)]; exact hW
      exact W.vret hx hb hr (fun t ht hW9 => ⟨⟨(), rfl, trivial, ⟨y_483, g_484, hG, hGg, hI, by omega, by omega, tw_at ht hT⟩⟩, hS.F ht⟩) hS.2.2 dX12_beginHand_97
    · have nc_480 := z_eq rfl (zk (x := (-1)) (-1) rfl) c_480
      refine lv_iconst (v := 0) hx hb dX12_beginHand_78 (by decide) ?_
      refine lv_goto (tgt := 89) hx hb dX12_beginHand_79 (by decide) ?_
      refine lv_ior hx hb dX12_beginHand_89 ?_
      refine lv_topi (fun x_487 ex_487 => ?_)
      refine lv_iload hx hb dX12_beginHand_90 (lv_at hl 7 rfl) ?_
      refine lv_iload hx hb dX12_beginHand_92 (lv_at hl 8 rfl) ?_
      have hFc := tw_free hF hS hA
      refine va_callv (va_runV (As := [.int p0, .int p1, .int p2, .int r_474, .int x_487, .int p3, .int p4]) (rest := []) ⟨hx, hb, hml, hown, hts⟩ (ih1 l dC dI ad av H.size a k τ ln y g u p0 p1 p2 r_474 x_487 p3 p4 nP nH hI (by omega) (by omega) gn gp gh hth (by omega) (by omega) (by omega) (by omega) (by omega) (by omega) (by omega) (by omega) hW) (cwV 7 hts (gi_4 (List.mem_cons_of_mem _ (List.mem_append_left _ (List.mem_of_getElem? (i := 28) rfl))) (List.mem_cons_of_mem _ (List.mem_append_left _ (List.mem_of_getElem? (i := 29) rfl))) (List.mem_cons_of_mem _ (List.mem_append_left _ (List.mem_of_getElem? (i := 30) rfl))) (List.mem_cons_of_mem _ (List.mem_append_left _ (List.mem_of_getElem? (i := 10) rfl))) (fun _ hh => (List.mem_cons.mp hh).elim (fun ee => by rw [ee]; exact (List.mem_cons_of_mem _ (List.mem_append_left _ (List.mem_of_getElem? (i := 0) rfl)))) (fun h9 => List.mem_cons_of_mem _ h9)) gd_g_planFrom) rfl rfl rfl (by decide +kernel) ⟨by show 2 * N + 405 + 1 ≤ 2 * N + 406; omega, by show 8 + (12 + 11) + (200 * N + 25620) ≤ 200 * N + 25720; omega⟩) ⟨pw_blind, tw_recv hK hT (fx_50 hX) (by decide) cl_e60 rfl, pw_use hT hK hFc hS hM⟩ rfl rfl hl.1 rfl (lv_room (Nat.le_of_ble_eq_true rfl)) dX12_beginHand_94 ⟨Nat.le_of_ble_eq_true rfl, Nat.le_of_ble_eq_true rfl⟩) hS (fun q _ h => hFc q h) hFc (fun u0 t H locs ht hvm hw hB hz1 hk1 hS => ?_)
      refine W.widen (k := 0) (n := 0) (Nat.le_of_ble_eq_true rfl) (Nat.le_of_ble_eq_true rfl) ?_
      clear hvm hz1 hk1
      obtain ⟨y_489, g_490, hgy_489, hggg_490, hI, hf_491, hf_492, hT⟩ := hB
      rw [ht] at hT
      have hG := hG.tr hgy_489 (by decide)
      have hGg := hGg.tr hggg_490
      have hW : IW (u 1) (u 2) (u 9) (y_489 (a 89)) := by rw [hgy_489.at (fx_89 hX) (by decide)]; exact hW
      exact W.vret hx hb hr (fun t ht hW9 => ⟨⟨(), rfl, trivial, ⟨y_489, g_490, hG, hGg, hI, by omega, by omega, tw_at ht hT⟩⟩, hS.F ht⟩) hS.2.2 dX12_beginHand_97
  · have nc_460 := z_eq rfl (zk (x := (-1)) (-1) rfl) c_460
    refine lv_aload_n hx hb dX12_beginHand_23 rfl (lv_at hl 2 rfl) ?_
    have hFc := tw_free hF hS hA
    refine va_calli (va_runV (As := []) (rest := []) ⟨hx, hb, hml, hown, hts⟩ (m_now l dC dI ad av H.size a k τ ln y g u  hI hW) (cwV 0 hts (gi_4 (List.mem_cons_of_mem _ (List.mem_append_left _ (List.mem_of_getElem? (i := 40) rfl))) (List.mem_cons_of_mem _ (List.mem_append_left _ (List.mem_of_getElem? (i := 41) rfl))) (List.mem_cons_of_mem _ (List.mem_append_left _ (List.mem_of_getElem? (i := 42) rfl))) (List.mem_cons_of_mem _ (List.mem_append_left _ (List.mem_of_getElem? (i := 10) rfl))) (fun _ hh => (List.mem_cons_of_mem _ (List.mem_append_right _ (List.mem_append_right _ (List.mem_append_right _ (List.mem_append_right _ (List.mem_append_right _ (List.mem_append_right _ (List.mem_append_right _ (List.mem_append_right _ (List.mem_append_right _ (List.mem_append_left _ hh)))))))))))) gd_m_now) rfl rfl rfl (by decide +kernel) ⟨by show 0 + 1 ≤ 2 * N + 406; omega, by show 8 + (1 + 11) + (0) ≤ 200 * N + 25720; omega⟩) ⟨pw_blind, tw_recv hK hT (fx_50 hX) (by decide) cl_e60 rfl, pw_use hT hK hFc hS hM⟩ rfl rfl hl.1 rfl (lv_room (Nat.le_of_ble_eq_true rfl)) dX12_beginHand_24 ⟨Nat.le_of_ble_eq_true rfl, Nat.le_of_ble_eq_true rfl⟩) hS (fun q _ h => hFc q h) hFc (fun r0 r_493 t H locs ht hvm hw hB hz1 hk1 hS => ?_)
    refine W.widen (k := 0) (n := 0) (Nat.le_of_ble_eq_true rfl) (Nat.le_of_ble_eq_true rfl) ?_
    clear hvm hz1 hk1
    subst hw
    obtain ⟨hf_494, hT⟩ := hB
    rw [ht] at hT
    refine lv_goto (tgt := 57) hx hb dX12_beginHand_27 (by decide) ?_
    refine lv_istore (lv' := [(8, .int r_493), (7, .int r_457), (6, .int (y (a 101) p0.toNatClampNeg)), (0, .ref (a 50)), (1, .int p0), (2, .int p1), (3, .int p2), (4, .int p3), (5, .int p4)]) hx hb dX12_beginHand_57 hl (by decide) rfl (fun ls hl => ?_)
    refine lv_aload_n hx hb dX12_beginHand_59 rfl (lv_at hl 3 rfl) ?_
    refine lv_iload_n hx hb dX12_beginHand_60 rfl (lv_at hl 4 rfl) ?_
    refine lv_iload_n hx hb dX12_beginHand_61 rfl (lv_at hl 5 rfl) ?_
    refine lv_iload_n hx hb dX12_beginHand_62 rfl (lv_at hl 6 rfl) ?_
    refine lv_iload hx hb dX12_beginHand_63 (lv_at hl 0 rfl) ?_
    refine lv_aload_n hx hb dX12_beginHand_65 rfl (lv_at hl 3 rfl) ?_
    refine lv_iload hx hb dX12_beginHand_66 (lv_at hl 2 rfl) ?_
    refine lv_iconst (v := 2) hx hb dX12_beginHand_68 (by decide) ?_
    have hFc := tw_free hF hS hA
    have hp_495 : (2 : Int32).toInt = 2 := (zk (x := 2) 2 rfl)
    refine va_calli (va_runV (As := [.int (y (a 101) p0.toNatClampNeg), .int 2]) (rest := [.int r_493, .int p2, .int p1, .int p0, .ref (a 50)]) ⟨hx, hb, hml, hown, hts⟩ (m_get l dC dI ad av H.size a k τ ln y g u (y (a 101) p0.toNatClampNeg) (2 : Int32) hI (by omega) (by omega) (by decide) (by decide) hW) (cwV 2 hts (gi_4 (List.mem_cons_of_mem _ (List.mem_append_left _ (List.mem_of_getElem? (i := 37) rfl))) (List.mem_cons_of_mem _ (List.mem_append_left _ (List.mem_of_getElem? (i := 38) rfl))) (List.mem_cons_of_mem _ (List.mem_append_left _ (List.mem_of_getElem? (i := 39) rfl))) (List.mem_cons_of_mem _ (List.mem_append_left _ (List.mem_of_getElem? (i := 10) rfl))) (fun _ hh => (List.mem_cons_of_mem _ (List.mem_append_right _ (List.mem_append_right _ (List.mem_append_right _ (List.mem_append_right _ (List.mem_append_right _ (List.mem_append_right _ (List.mem_append_right _ (List.mem_append_right _ (List.mem_append_left _ hh))))))))))) gd_m_get) rfl rfl rfl (by decide +kernel) ⟨by show 0 + 1 ≤ 2 * N + 406; omega, by show 8 + (3 + 11) + (0) ≤ 200 * N + 25720; omega⟩) ⟨pw_blind, tw_recv hK hT (fx_50 hX) (by decide) cl_e60 rfl, pw_use hT hK hFc hS hM⟩ rfl rfl hl.1 rfl (lv_room (Nat.le_of_ble_eq_true rfl)) dX12_beginHand_69 ⟨Nat.le_of_ble_eq_true rfl, Nat.le_of_ble_eq_true rfl⟩) hS (fun q _ h => hFc q h) hFc (fun r0 r_496 t H locs ht hvm hw hB hz1 hk1 hS => ?_)
    refine W.widen (k := 0) (n := 0) (Nat.le_of_ble_eq_true rfl) (Nat.le_of_ble_eq_true rfl) ?_
    clear hvm hz1 hk1
    subst hw
    obtain ⟨hf_497, hT⟩ := hB
    rw [ht] at hT
    try simp only [hp_495] at hf_497
    clear hp_495
    refine lv_iload hx hb dX12_beginHand_72 (lv_at hl 1 rfl) ?_
    refine lv_iconst (v := (-1)) hx hb dX12_beginHand_74 (by decide) ?_
    refine lv_icmp_ne (tgt := 82) hx hb dX12_beginHand_75 (by decide) (fun c_498 => ?_) (fun c_498 => ?_)
    · have nc_498 := z_ne rfl (zk (x := (-1)) (-1) rfl) c_498
      refine lv_aload_n hx hb dX12_beginHand_82 rfl (lv_at hl 3 rfl) ?_
      refine tw_get (D := (dC, dI)) (v := .ref (a 68)) (C := RX12) (T := TX12) (N := 58) hx hb hts (fun _ hh => (List.mem_cons_of_mem _ (List.mem_append_right _ (List.mem_append_left _ hh)))) hown hK hT (fx_50 hX) (by decide) cl_e60 rfl 17 (by decide) (hts (.fieldLink RX12 52 "TypingPoolModel" "words" "[I") (List.mem_cons_of_mem _ (List.mem_append_left _ (List.mem_of_getElem? (i := 15) rfl)))) (fun _ h9 => h9) rfl dX12_beginHand_83 ?_
      refine lv_iload hx hb dX12_beginHand_86 (lv_at hl 1 rfl) ?_
      refine tw_iald hx hb hK hT 0 (fx_68 hX) (by decide) cl_e78 rfl (z_in rfl (by omega) (by omega)) dX12_beginHand_88 ?_
      refine lv_ior hx hb dX12_beginHand_89 ?_
      refine lv_topi (fun x_499 ex_499 => ?_)
      refine lv_iload hx hb dX12_beginHand_90 (lv_at hl 7 rfl) ?_
      refine lv_iload hx hb dX12_beginHand_92 (lv_at hl 8 rfl) ?_
      have hFc := tw_free hF hS hA
      refine va_callv (va_runV (As := [.int p0, .int p1, .int p2, .int r_493, .int x_499, .int p3, .int p4]) (rest := []) ⟨hx, hb, hml, hown, hts⟩ (ih1 l dC dI ad av H.size a k τ ln y g u p0 p1 p2 r_493 x_499 p3 p4 nP nH hI (by omega) (by omega) gn gp gh hth (by omega) (by omega) (by omega) (by omega) (by omega) (by omega) (by omega) (by omega) hW) (cwV 7 hts (gi_4 (List.mem_cons_of_mem _ (List.mem_append_left _ (List.mem_of_getElem? (i := 28) rfl))) (List.mem_cons_of_mem _ (List.mem_append_left _ (List.mem_of_getElem? (i := 29) rfl))) (List.mem_cons_of_mem _ (List.mem_append_left _ (List.mem_of_getElem? (i := 30) rfl))) (List.mem_cons_of_mem _ (List.mem_append_left _ (List.mem_of_getElem? (i := 10) rfl))) (fun _ hh => (List.mem_cons.mp hh).elim (fun ee => by rw [ee]; exact (List.mem_cons_of_mem _ (List.mem_append_left _ (List.mem_of_getElem? (i := 0) rfl)))) (fun h9 => List.mem_cons_of_mem _ h9)) gd_g_planFrom) rfl rfl rfl (by decide +kernel) ⟨by show 2 * N + 405 + 1 ≤ 2 * N + 406; omega, by show 8 + (12 + 11) + (200 * N + 25620) ≤ 200 * N + 25720; omega⟩) ⟨pw_blind, tw_recv hK hT (fx_50 hX) (by decide) cl_e60 rfl, pw_use hT hK hFc hS hM⟩ rfl rfl hl.1 rfl (lv_room (Nat.le_of_ble_eq_true rfl)) dX12_beginHand_94 ⟨Nat.le_of_ble_eq_true rfl, Nat.le_of_ble_eq_true rfl⟩) hS (fun q _ h => hFc q h) hFc (fun u0 t H locs ht hvm hw hB hz1 hk1 hS => ?_)
      refine W.widen (k := 0) (n := 0) (Nat.le_of_ble_eq_true rfl) (Nat.le_of_ble_eq_true rfl) ?_
      clear hvm hz1 hk1
      obtain ⟨y_501, g_502, hgy_501, hggg_502, hI, hf_503, hf_504, hT⟩ := hB
      rw [ht] at hT
      have hG := hG.tr hgy_501 (by decide)
      have hGg := hGg.tr hggg_502
      have hW : IW (u 1) (u 2) (u 9) (y_501 (a 89)) := by rw [hgy_501.at (fx_89 hX) (by decide)]; exact hW
      exact W.vret hx hb hr (fun t ht hW9 => ⟨⟨(), rfl, trivial, ⟨y_501, g_502, hG, hGg, hI, by omega, by omega, tw_at ht hT⟩⟩, hS.F ht⟩) hS.2.2 dX12_beginHand_97
    · have nc_498 := z_eq rfl (zk (x := (-1)) (-1) rfl) c_498
      refine lv_iconst (v := 0) hx hb dX12_beginHand_78 (by decide) ?_
      refine lv_goto (tgt := 89) hx hb dX12_beginHand_79 (by decide) ?_
      refine lv_ior hx hb dX12_beginHand_89 ?_
      refine lv_topi (fun x_505 ex_505 => ?_)
      refine lv_iload hx hb dX12_beginHand_90 (lv_at hl 7 rfl) ?_
      refine lv_iload hx hb dX12_beginHand_92 (lv_at hl 8 rfl) ?_
      have hFc := tw_free hF hS hA
      refine va_callv (va_runV (As := [.int p0, .int p1, .int p2, .int r_493, .int x_505, .int p3, .int p4]) (rest := []) ⟨hx, hb, hml, hown, hts⟩ (ih1 l dC dI ad av H.size a k τ ln y g u p0 p1 p2 r_493 x_505 p3 p4 nP nH hI (by omega) (by omega) gn gp gh hth (by omega) (by omega) (by omega) (by omega) (by omega) (by omega) (by omega) (by omega) hW) (cwV 7 hts (gi_4 (List.mem_cons_of_mem _ (List.mem_append_left _ (List.mem_of_getElem? (i := 28) rfl))) (List.mem_cons_of_mem _ (List.mem_append_left _ (List.mem_of_getElem? (i := 29) rfl))) (List.mem_cons_of_mem _ (List.mem_append_left _ (List.mem_of_getElem? (i := 30) rfl))) (List.mem_cons_of_mem _ (List.mem_append_left _ (List.mem_of_getElem? (i := 10) rfl))) (fun _ hh => (List.mem_cons.mp hh).elim (fun ee => by rw [ee]; exact (List.mem_cons_of_mem _ (List.mem_append_left _ (List.mem_of_getElem? (i := 0) rfl)))) (fun h9 => List.mem_cons_of_mem _ h9)) gd_g_planFrom) rfl rfl rfl (by decide +kernel) ⟨by show 2 * N + 405 + 1 ≤ 2 * N + 406; omega, by show 8 + (12 + 11) + (200 * N + 25620) ≤ 200 * N + 25720; omega⟩) ⟨pw_blind, tw_recv hK hT (fx_50 hX) (by decide) cl_e60 rfl, pw_use hT hK hFc hS hM⟩ rfl rfl hl.1 rfl (lv_room (Nat.le_of_ble_eq_true rfl)) dX12_beginHand_94 ⟨Nat.le_of_ble_eq_true rfl, Nat.le_of_ble_eq_true rfl⟩) hS (fun q _ h => hFc q h) hFc (fun u0 t H locs ht hvm hw hB hz1 hk1 hS => ?_)
      refine W.widen (k := 0) (n := 0) (Nat.le_of_ble_eq_true rfl) (Nat.le_of_ble_eq_true rfl) ?_
      clear hvm hz1 hk1
      obtain ⟨y_507, g_508, hgy_507, hggg_508, hI, hf_509, hf_510, hT⟩ := hB
      rw [ht] at hT
      have hG := hG.tr hgy_507 (by decide)
      have hGg := hGg.tr hggg_508
      have hW : IW (u 1) (u 2) (u 9) (y_507 (a 89)) := by rw [hgy_507.at (fx_89 hX) (by decide)]; exact hW
      exact W.vret hx hb hr (fun t ht hW9 => ⟨⟨(), rfl, trivial, ⟨y_507, g_508, hG, hGg, hI, by omega, by omega, tw_at ht hT⟩⟩, hS.F ht⟩) hS.2.2 dX12_beginHand_97

theorem g_plan (N : Nat) : St_g_planFrom N ∧ St_g_beginHand N := by
  induction N with
  | zero =>
    have h1 : St_g_planFrom 0 := by
      intro l dC dI ad av sz a k τ ln y g u p0 p1 p2 p3 p4 p5 p6 nP nH hI g51 g52 gn gp gh hth hkA hkB huA huB hmn htA htB hN hW
      have hp5 := pc5_rg p1
      exfalso; omega
    exact ⟨h1, g_beginHand_step 0 h1⟩
  | succ N ih =>
    have h1 := g_planFrom_step N ih.1 ih.2
    exact ⟨h1, g_beginHand_step (N + 1) h1⟩
theorem m_begin : St_g_beginHand 9 := (g_plan 9).2
def wo_m_findPlan : List Cond := [.fieldLink RX12 149 "TypingPoolModel" "pieces" "I", .methodLink RX12 145 yX12_in, .static yX12_in, .initialized RX12, .fieldLink RX12 142 "TypingPoolModel" "hands" "I", .methodLink RX12 275 yX12_bits, .static yX12_bits, .fieldLink RX12 349 "TypingPoolModel" "planPieceMany" "I", .fieldLink RX12 342 "TypingPoolModel" "planHandMany" "I", .fieldLink RX12 366 "TypingPoolModel" "isFound" "Z", .methodLink RX12 345 yX12_beginHand, .instanceMethod yX12_beginHand, .selects RX12 yX12_beginHand yX12_beginHand, .fieldLink RX12 126 "TypingPoolModel" "planHands" "[I", .fieldLink RX12 120 "TypingPoolModel" "there" "[I", .methodLink RX12 293 yX12_isAway, .instanceMethod yX12_isAway, .selects RX12 yX12_isAway yX12_isAway, .methodLink RX12 269 yX12_waits, .instanceMethod yX12_waits, .selects RX12 yX12_waits yX12_waits, .fieldLink RX12 123 "TypingPoolModel" "planPieces" "[I"]
def wm_m_findPlan : List Cond := .code yX12_findPlan cX12_findPlan 6 (some .int) :: (wo_m_findPlan ++ (wsX120 ++ (wm_m_in ++ (wm_m_bitsX ++ (wm_g_beginHand ++ (wm_m_isAway ++ (wm_m_waits ++ ([] : List Cond))))))))
theorem gd_m_findPlan : ∀ w ∈ wm_m_findPlan, goodWord w = true := gd_c rfl (gd_a (by decide) (gd_a gd_wsX120 (gd_a gd_m_in (gd_a gd_m_bitsX (gd_a gd_g_beginHand (gd_a gd_m_isAway (gd_a gd_m_waits gd_nil)))))))
set_option maxRecDepth 20000 in
theorem im_m_findPlan : ∀ w ∈ wm_m_findPlan, w ∈ lw_tbl := im_c (in_r [.code yX12_findPlan cX12_findPlan 6 (some .int)] [1691] (by decide +kernel)) (in_app (in_r wo_m_findPlan [1260, 1420, 1421, 86, 1246, 1576, 1577, 1292, 1293, 1298, 1692, 1694, 63, 1291, 1289, 1544, 1546, 47, 1552, 1554, 49, 1290] (by decide +kernel)) (in_app im_wsX120 (in_app im_m_in (in_app im_m_bitsX (in_app im_g_beginHand (in_app im_m_isAway (in_app im_m_waits im_nil)))))))
set_option maxHeartbeats 4000000 in
set_option maxRecDepth 100000 in
theorem m_findPlan (l : Launch) (dC : Nat → ClassId) (dI : Nat → Nat → Nat) (ad av : Nat → Nat) (sz : Nat) (a : Nat → Nat) (k : Nat → ClassId) (τ ln : Nat → Nat) (y : Nat → Nat → Int32) (g : Nat → Nat → Option Nat) (u : Nat → Int) (p0 : Int32) (p1 : Int32) (hI : IM a u τ y) (hth : vb 38408 0 4800 (y (a 99))) (hW : IW (u 1) (u 2) (u 9) (y (a 89))) : Met l yX12_findPlan wm_m_findPlan ({ frames := 425, cells := 0, slots := 0, locals := 27580 }) (pw_ ad av (dC, dI) sz [.ref (a 50), .int p0, .int p1] a k τ ln y g) (va_Qi (fun (r u : Int32) => u = r) (fun (r : Int32) (t : State) => (∃ (y' : Nat → Nat → Int32) (g' : Nat → Nat → Option Nat), r = 0 ∧ ag τ [60, 102, 109, 110, 111, 114, 115] y y' ∧ agg τ g g' ∧ IM a u τ y' ∧ (0 ≤ (y' (a 50) 51).toInt + (y' (a 50) 52).toInt ∧ (y' (a 50) 51).toInt + (y' (a 50) 52).toInt ≤ 8) ∧ vb 38408 0 4800 (y' (a 99)) ∧ tw (dC, dI) a k τ ln y' g' t.heap) ∨ (∃ (y' : Nat → Nat → Int32) (g' : Nat → Nat → Option Nat), r = (-1) ∧ ag τ [60, 102, 109, 110, 111, 114, 115] y y' ∧ agg τ g g' ∧ IM a u τ y' ∧ vb 38408 0 4800 (y' (a 99)) ∧ tw (dC, dI) a k τ ln y' g' t.heap) ∨ (∃ (y' : Nat → Nat → Int32) (g' : Nat → Nat → Option Nat), r = (-2) ∧ ag τ [60, 102, 109, 110, 111, 114, 115] y y' ∧ agg τ g g' ∧ IM a u τ y' ∧ vb 38408 0 4800 (y' (a 99)) ∧ tw (dC, dI) a k τ ln y' g' t.heap)) (fr τ sz)) 0 0 (fr τ sz) := by
  refine Met.ofW (cc := cX12_findPlan) (maxL := 6) (ret := (some .int)) (by decide) rfl ?_
  intro p e s m args below meth c s₁ B hml hv
  obtain ⟨rfl, hsz, hT, hK, hM⟩ := hv
  have hx := B.exec
  have hb := B.bytes
  have hr := B.returns
  have hts := atoms_spec (ws := wm_m_findPlan) B.pre
  have hown : s.vm.findClass RX12 = some m.cls := findClass_of_methodNamed B.named
  have hlocks := B.notSynchronized
  subst hsz
  generalize hAe : fr τ s.heap.size = A at hM ⊢
  have hA : ∀ q : Nat, s.heap.size ≤ q → A q := fun q h => by rw [← hAe]; exact Or.inr h
  have hF : ∀ q, τ q ≠ 0 → A q := fun q h => by rw [← hAe]; exact Or.inl h
  have hS : va_S A s.heap s.heap [] := va_S.rf
  have hX := hI.1
  have hR := im_r hI
  have hG : ag τ [60, 102, 109, 110, 111, 114, 115] y y := ag.rf
  have hGg : agg τ g g := agg.rf
  have hl := lv_entry ([.ref (a 50), .int p0, .int p1]) (n := 6) (Nat.le_of_ble_eq_true rfl)
  rw [lg_entry_eq]
  generalize (lg_sl ([.ref (a 50), .int p0, .int p1]) ++ List.replicate (6 - (lg_sl ([.ref (a 50), .int p0, .int p1])).length) Slot.unset).toArray = ls at hl ⊢
  have hl : lv_has ls 6 [(0, .ref (a 50)), (1, .int p0), (2, .int p1)] := hl
  have hTH := hth
  refine lv_iload_n hx hb dX12_findPlan_0 rfl (lv_at hl 1 rfl) ?_
  refine lv_iconst (v := 1) hx hb dX12_findPlan_1 (by decide) ?_
  refine lv_iconst (v := 1) hx hb dX12_findPlan_2 (by decide) ?_
  refine lv_aload_n hx hb dX12_findPlan_3 rfl (lv_at hl 0 rfl) ?_
  refine tw_get (D := (dC, dI)) (v := .int (y (a 50) 19)) (C := RX12) (T := TX12) (N := 58) hx hb hts (fun _ hh => (List.mem_cons_of_mem _ (List.mem_append_right _ (List.mem_append_left _ hh)))) hown hK hT (fx_50 hX) (by decide) cl_e60 rfl 19 (by decide) (hts (.fieldLink RX12 149 "TypingPoolModel" "pieces" "I") (List.mem_cons_of_mem _ (List.mem_append_left _ (List.mem_of_getElem? (i := 0) rfl)))) (fun _ h9 => h9) rfl dX12_findPlan_4 ?_
  have hc_1 := im_2 hI
  refine lv_ishl hx hb dX12_findPlan_7 ?_
  refine lv_topi (fun x_2 ex_2 => ?_)
  refine lv_iconst (v := 1) hx hb dX12_findPlan_8 (by decide) ?_
  refine lv_isub hx hb dX12_findPlan_9 ?_
  refine lv_topi (fun x_3 ex_3 => ?_)
  have hFc := tw_free hF hS hA
  have hp_4 : (1 : Int32).toInt = 1 := (zk (x := 1) 1 rfl)
  refine va_calli (va_runS (As := [.int p0, .int 1, .int x_3]) (rest := []) ⟨hx, hb, hml, hown, hts⟩ (m_in l dC dI ad av s.heap.size a k τ ln y g u p0 (1 : Int32) x_3  ) (va_cwS 3 hts (gi_3 (List.mem_cons_of_mem _ (List.mem_append_left _ (List.mem_of_getElem? (i := 1) rfl))) (List.mem_cons_of_mem _ (List.mem_append_left _ (List.mem_of_getElem? (i := 2) rfl))) (List.mem_cons_of_mem _ (List.mem_append_left _ (List.mem_of_getElem? (i := 3) rfl))) (fun _ hh => (List.mem_cons_of_mem _ (List.mem_append_right _ (List.mem_append_right _ (List.mem_append_left _ hh))))) gd_m_in) rfl rfl rfl (by decide +kernel) ⟨Nat.le_of_ble_eq_true rfl, Nat.le_of_ble_eq_true rfl⟩) ⟨pw_blind, pw_use hT hK hFc hS hM⟩ rfl rfl hl.1 rfl (lv_room (Nat.le_of_ble_eq_true rfl)) dX12_findPlan_10 ⟨Nat.le_of_ble_eq_true rfl, Nat.le_of_ble_eq_true rfl⟩) hS (fun q _ h => hFc q h) hFc (fun r0 r_5 t H locs ht hvm hw hB hz1 hk1 hS => ?_)
  refine W.widen (k := 0) (n := 0) (Nat.le_of_ble_eq_true rfl) (Nat.le_of_ble_eq_true rfl) ?_
  clear hvm hz1 hk1
  subst hw
  rcases hB with ⟨hre, hf_6, hf_7, hT⟩ | ⟨hre, hf_8, hT⟩
  · refine lq_top (v := 1) hre ?_
    rw [ht] at hT
    try simp only [hp_4] at hf_6 hf_7
    clear hp_4
    refine lv_if_eq (tgt := 48) hx hb dX12_findPlan_13 (by decide) (fun c_9 => absurd c_9 (by decide)) (fun c_9 => ?_)
    refine lv_iload_n hx hb dX12_findPlan_16 rfl (lv_at hl 2 rfl) ?_
    refine lv_iconst (v := 1) hx hb dX12_findPlan_17 (by decide) ?_
    refine lv_iconst (v := 1) hx hb dX12_findPlan_18 (by decide) ?_
    refine lv_aload_n hx hb dX12_findPlan_19 rfl (lv_at hl 0 rfl) ?_
    refine tw_get (D := (dC, dI)) (v := .int (y (a 50) 5)) (C := RX12) (T := TX12) (N := 58) hx hb hts (fun _ hh => (List.mem_cons_of_mem _ (List.mem_append_right _ (List.mem_append_left _ hh)))) hown hK hT (fx_50 hX) (by decide) cl_e60 rfl 5 (by decide) (hts (.fieldLink RX12 142 "TypingPoolModel" "hands" "I") (List.mem_cons_of_mem _ (List.mem_append_left _ (List.mem_of_getElem? (i := 4) rfl)))) (fun _ h9 => h9) rfl dX12_findPlan_20 ?_
    have hc_10 := im_1 hI
    refine lv_ishl hx hb dX12_findPlan_23 ?_
    refine lv_topi (fun x_11 ex_11 => ?_)
    refine lv_iconst (v := 1) hx hb dX12_findPlan_24 (by decide) ?_
    refine lv_isub hx hb dX12_findPlan_25 ?_
    refine lv_topi (fun x_12 ex_12 => ?_)
    have hsh := z_sh1 (i := (y (a 50) 5)) (by omega) (by omega) ex_11 ex_12
    rw [hc_10] at hsh
    have hFc := tw_free hF hS hA
    have hp_13 : (1 : Int32).toInt = 1 := (zk (x := 1) 1 rfl)
    refine va_calli (va_runS (As := [.int p1, .int 1, .int x_12]) (rest := []) ⟨hx, hb, hml, hown, hts⟩ (m_in l dC dI ad av H.size a k τ ln y g u p1 (1 : Int32) x_12  ) (va_cwS 3 hts (gi_3 (List.mem_cons_of_mem _ (List.mem_append_left _ (List.mem_of_getElem? (i := 1) rfl))) (List.mem_cons_of_mem _ (List.mem_append_left _ (List.mem_of_getElem? (i := 2) rfl))) (List.mem_cons_of_mem _ (List.mem_append_left _ (List.mem_of_getElem? (i := 3) rfl))) (fun _ hh => (List.mem_cons_of_mem _ (List.mem_append_right _ (List.mem_append_right _ (List.mem_append_left _ hh))))) gd_m_in) rfl rfl rfl (by decide +kernel) ⟨Nat.le_of_ble_eq_true rfl, Nat.le_of_ble_eq_true rfl⟩) ⟨pw_blind, pw_use hT hK hFc hS hM⟩ rfl rfl hl.1 rfl (lv_room (Nat.le_of_ble_eq_true rfl)) dX12_findPlan_26 ⟨Nat.le_of_ble_eq_true rfl, Nat.le_of_ble_eq_true rfl⟩) hS (fun q _ h => hFc q h) hFc (fun r0 r_14 t H locs ht hvm hw hB hz1 hk1 hS => ?_)
    refine W.widen (k := 0) (n := 0) (Nat.le_of_ble_eq_true rfl) (Nat.le_of_ble_eq_true rfl) ?_
    clear hvm hz1 hk1
    subst hw
    rcases hB with ⟨hre, hf_15, hf_16, hT⟩ | ⟨hre, hf_17, hT⟩
    · refine lq_top (v := 1) hre ?_
      rw [ht] at hT
      try simp only [hp_13] at hf_15 hf_16
      clear hp_13
      refine lv_if_eq (tgt := 48) hx hb dX12_findPlan_29 (by decide) (fun c_18 => absurd c_18 (by decide)) (fun c_18 => ?_)
      refine lv_iload_n hx hb dX12_findPlan_32 rfl (lv_at hl 1 rfl) ?_
      have hFc := tw_free hF hS hA
      refine va_calli (va_runS (As := [.int p0]) (rest := []) ⟨hx, hb, hml, hown, hts⟩ (m_bitsX l dC dI ad av H.size a k τ ln y g u p0  ) (va_cwS 1 hts (gi_3 (List.mem_cons_of_mem _ (List.mem_append_left _ (List.mem_of_getElem? (i := 5) rfl))) (List.mem_cons_of_mem _ (List.mem_append_left _ (List.mem_of_getElem? (i := 6) rfl))) (List.mem_cons_of_mem _ (List.mem_append_left _ (List.mem_of_getElem? (i := 3) rfl))) (fun _ hh => (List.mem_cons_of_mem _ (List.mem_append_right _ (List.mem_append_right _ (List.mem_append_right _ (List.mem_append_left _ hh)))))) gd_m_bitsX) rfl rfl rfl (by decide +kernel) ⟨Nat.le_of_ble_eq_true rfl, Nat.le_of_ble_eq_true rfl⟩) ⟨pw_blind, pw_use hT hK hFc hS hM⟩ rfl rfl hl.1 rfl (lv_room (Nat.le_of_ble_eq_true rfl)) dX12_findPlan_33 ⟨Nat.le_of_ble_eq_true rfl, Nat.le_of_ble_eq_true rfl⟩) hS (fun q _ h => hFc q h) hFc (fun r0 r_19 t H locs ht hvm hw hB hz1 hk1 hS => ?_)
      refine W.widen (k := 0) (n := 0) (Nat.le_of_ble_eq_true rfl) (Nat.le_of_ble_eq_true rfl) ?_
      clear hvm hz1 hk1
      subst hw
      obtain ⟨hf_20, hT⟩ := hB
      rw [ht] at hT
      have hb5_21 : r_19.toInt = pcI p0 32 := by rw [hf_20]; exact pcI_b (by omega)
      refine lv_iconst (v := 5) hx hb dX12_findPlan_36 (by decide) ?_
      refine lv_icmp_gt (tgt := 48) hx hb dX12_findPlan_37 (by decide) (fun c_22 => ?_) (fun c_22 => ?_)
      · have nc_22 := z_lt (zk (x := 5) 5 rfl) rfl c_22
        refine lv_iconst (v := (-1)) hx hb dX12_findPlan_48 (by decide) ?_
        have hrv : (-1 : Int32).toInt = (-1) := (zk (x := (-1)) (-1) rfl)
        exact W.iret (v := (-1)) hx hb hr (fun t ht hW9 => ⟨⟨(-1), (-1), rfl, rfl, Or.inr (Or.inl ⟨y, g, rfl, hG, hGg, hI, hTH, tw_at ht hT⟩)⟩, hS.F ht⟩) hS.2.2 dX12_findPlan_49
      · have nc_22 := z_nlt (zk (x := 5) 5 rfl) rfl c_22
        refine lv_iload_n hx hb dX12_findPlan_40 rfl (lv_at hl 2 rfl) ?_
        have hFc := tw_free hF hS hA
        refine va_calli (va_runS (As := [.int p1]) (rest := []) ⟨hx, hb, hml, hown, hts⟩ (m_bitsX l dC dI ad av H.size a k τ ln y g u p1  ) (va_cwS 1 hts (gi_3 (List.mem_cons_of_mem _ (List.mem_append_left _ (List.mem_of_getElem? (i := 5) rfl))) (List.mem_cons_of_mem _ (List.mem_append_left _ (List.mem_of_getElem? (i := 6) rfl))) (List.mem_cons_of_mem _ (List.mem_append_left _ (List.mem_of_getElem? (i := 3) rfl))) (fun _ hh => (List.mem_cons_of_mem _ (List.mem_append_right _ (List.mem_append_right _ (List.mem_append_right _ (List.mem_append_left _ hh)))))) gd_m_bitsX) rfl rfl rfl (by decide +kernel) ⟨Nat.le_of_ble_eq_true rfl, Nat.le_of_ble_eq_true rfl⟩) ⟨pw_blind, pw_use hT hK hFc hS hM⟩ rfl rfl hl.1 rfl (lv_room (Nat.le_of_ble_eq_true rfl)) dX12_findPlan_41 ⟨Nat.le_of_ble_eq_true rfl, Nat.le_of_ble_eq_true rfl⟩) hS (fun q _ h => hFc q h) hFc (fun r0 r_23 t H locs ht hvm hw hB hz1 hk1 hS => ?_)
        refine W.widen (k := 0) (n := 0) (Nat.le_of_ble_eq_true rfl) (Nat.le_of_ble_eq_true rfl) ?_
        clear hvm hz1 hk1
        subst hw
        obtain ⟨hf_24, hT⟩ := hB
        rw [ht] at hT
        have hb5_25 : r_23.toInt = pcI p1 32 := by rw [hf_24]; exact pcI_b (by omega)
        refine lv_iconst (v := 3) hx hb dX12_findPlan_44 (by decide) ?_
        refine lv_icmp_le (tgt := 50) hx hb dX12_findPlan_45 (by decide) (fun c_26 => ?_) (fun c_26 => ?_)
        · have nc_26 := z_le rfl (zk (x := 3) 3 rfl) c_26
          refine lv_aload_n hx hb dX12_findPlan_50 rfl (lv_at hl 0 rfl) ?_
          refine lv_iconst (v := 0) hx hb dX12_findPlan_51 (by decide) ?_
          refine tw_put (D := (dC, dI)) (x := 0) (ty := .int) (C := RX12) (T := TX12) (N := 58) hx hb hts (fun _ hh => (List.mem_cons_of_mem _ (List.mem_append_right _ (List.mem_append_left _ hh)))) tyX12 tyX12_ok nmX12 hown hK hT hF hS (fx_50 hX) (by decide) cl_e60 rfl 51 (by decide) (hts (.fieldLink RX12 349 "TypingPoolModel" "planPieceMany" "I") (List.mem_cons_of_mem _ (List.mem_append_left _ (List.mem_of_getElem? (i := 7) rfl)))) (fun _ h9 => h9) rfl (tyX12_ok 51 (by decide)) rfl rfl (Nat.le_of_ble_eq_true rfl) rfl dX12_findPlan_52 (fun H locs hT hS => ?_)
          obtain ⟨y_27, hy_27, hT⟩ : ∃ z : Nat → Nat → Int32, z = up2 y (a 50) 51 (0 : Int32) ∧ tw (dC, dI) a k τ ln z g H := ⟨_, rfl, hT⟩
          have hG : ag τ [60, 102, 109, 110, 111, 114, 115] y y_27 := by rw [hy_27]; exact hG.up (fx_50 hX) (by decide)
          have : (y_27 (a 50) 51).toInt = 0 := (congrArg Int32.toInt (show y_27 (a 50) 51 = (0 : Int32) from by rw [hy_27]; exact up2_i)).trans (zk (x := 0) 0 rfl)
          have : (y_27 (a 50) 52).toInt = (y (a 50) 52).toInt := by rw [hy_27, up2_e (by decide)]
          have hW : IW (u 1) (u 2) (u 9) (y_27 (a 89)) := by rw [hy_27, up2_o (kd_ne (fx_89 hX) (fx_50 hX) (by decide))]; exact hW
          have hTH : vb 38408 0 4800 (y_27 (a 99)) := by rw [hy_27, up2_o (kd_ne (fx_99 hX) (fx_50 hX) (by decide))]; exact hTH
          have hI := hI.put (f := 51) (x := (0 : Int32)) (by decide)
          rw [← hy_27] at hI
          clear hc_1 hc_10
          refine lv_aload_n hx hb dX12_findPlan_55 rfl (lv_at hl 0 rfl) ?_
          refine lv_iconst (v := 0) hx hb dX12_findPlan_56 (by decide) ?_
          refine tw_put (D := (dC, dI)) (x := 0) (ty := .int) (C := RX12) (T := TX12) (N := 58) hx hb hts (fun _ hh => (List.mem_cons_of_mem _ (List.mem_append_right _ (List.mem_append_left _ hh)))) tyX12 tyX12_ok nmX12 hown hK hT hF hS (fx_50 hX) (by decide) cl_e60 rfl 52 (by decide) (hts (.fieldLink RX12 342 "TypingPoolModel" "planHandMany" "I") (List.mem_cons_of_mem _ (List.mem_append_left _ (List.mem_of_getElem? (i := 8) rfl)))) (fun _ h9 => h9) rfl (tyX12_ok 52 (by decide)) rfl rfl (Nat.le_of_ble_eq_true rfl) rfl dX12_findPlan_57 (fun H locs hT hS => ?_)
          obtain ⟨y_28, hy_28, hT⟩ : ∃ z : Nat → Nat → Int32, z = up2 y_27 (a 50) 52 (0 : Int32) ∧ tw (dC, dI) a k τ ln z g H := ⟨_, rfl, hT⟩
          have hG : ag τ [60, 102, 109, 110, 111, 114, 115] y y_28 := by rw [hy_28]; exact hG.up (fx_50 hX) (by decide)
          have : (y_28 (a 50) 51).toInt = (y_27 (a 50) 51).toInt := by rw [hy_28, up2_e (by decide)]
          have : (y_28 (a 50) 52).toInt = 0 := (congrArg Int32.toInt (show y_28 (a 50) 52 = (0 : Int32) from by rw [hy_28]; exact up2_i)).trans (zk (x := 0) 0 rfl)
          have hW : IW (u 1) (u 2) (u 9) (y_28 (a 89)) := by rw [hy_28, up2_o (kd_ne (fx_89 hX) (fx_50 hX) (by decide))]; exact hW
          have hTH : vb 38408 0 4800 (y_28 (a 99)) := by rw [hy_28, up2_o (kd_ne (fx_99 hX) (fx_50 hX) (by decide))]; exact hTH
          have hI := hI.put (f := 52) (x := (0 : Int32)) (by decide)
          rw [← hy_28] at hI
          refine lv_iconst (v := 0) hx hb dX12_findPlan_60 (by decide) ?_
          refine lv_istore_n (lv' := [(3, .int 0), (0, .ref (a 50)), (1, .int p0), (2, .int p1)]) hx hb dX12_findPlan_61 rfl hl (by decide) rfl (fun ls hl => ?_)
          have loop_62 : ∀ (n : Nat) (i3 : Int32) (y_L62 : Nat → Nat → Int32) (g_L62 : Nat → Nat → Option Nat) (H : Heap) (locs : List Loc) (ls : Array Slot), (u 2 - i3.toInt).toNat < n → ag τ [60, 102, 109, 110, 111, 114, 115] y y_L62 → IM a u τ y_L62 → agg τ g g_L62 → IW (u 1) (u 2) (u 9) (y_L62 (a 89)) → vb 38408 0 4800 (y_L62 (a 99)) → 0 ≤ i3.toInt → i3.toInt ≤ u 2 → (y_L62 (a 50) 51).toInt = pcI p0 i3.toInt → (y_L62 (a 50) 52).toInt = 0 → vl (y_L62 (a 50) 51).toInt (u 2) (y_L62 (a 100)) → tw (dC, dI) a k τ ln y_L62 g_L62 H → va_S A s.heap H locs → lv_has ls 6 [(0, .ref (a 50)), (1, .int p0), (2, .int p1), (3, .int i3)] → W p l e (headSpec wm_m_findPlan ({ frames := 425, cells := 0, slots := 0, locals := 27580 })).room s m ([.ref (a 50), .int p0, .int p1] : List Value).toArray below meth c H locs 0 0 (MQ below (va_Qi (fun (r u : Int32) => u = r) (fun (r : Int32) (t : State) => (∃ (y' : Nat → Nat → Int32) (g' : Nat → Nat → Option Nat), r = 0 ∧ ag τ [60, 102, 109, 110, 111, 114, 115] y y' ∧ agg τ g g' ∧ IM a u τ y' ∧ (0 ≤ (y' (a 50) 51).toInt + (y' (a 50) 52).toInt ∧ (y' (a 50) 51).toInt + (y' (a 50) 52).toInt ≤ 8) ∧ vb 38408 0 4800 (y' (a 99)) ∧ tw (dC, dI) a k τ ln y' g' t.heap) ∨ (∃ (y' : Nat → Nat → Int32) (g' : Nat → Nat → Option Nat), r = (-1) ∧ ag τ [60, 102, 109, 110, 111, 114, 115] y y' ∧ agg τ g g' ∧ IM a u τ y' ∧ vb 38408 0 4800 (y' (a 99)) ∧ tw (dC, dI) a k τ ln y' g' t.heap) ∨ (∃ (y' : Nat → Nat → Int32) (g' : Nat → Nat → Option Nat), r = (-2) ∧ ag τ [60, 102, 109, 110, 111, 114, 115] y y' ∧ agg τ g g' ∧ IM a u τ y' ∧ vb 38408 0 4800 (y' (a 99)) ∧ tw (dC, dI) a k τ ln y' g' t.heap)) A) ([.ref (a 50), .int p0, .int p1] : List Value).toArray s 0 0 A) (F0 m 62 ls []) := by
            intro n
            induction n with
            | zero => intro i3 y_L62 g_L62 H locs ls hlt; exact absurd hlt (Nat.not_lt_zero _)
            | succ n ih_62 =>
              intro i3 y_L62 g_L62 H locs ls hlt hG hI hGg hW hTH hi62_0 hi62_1 hi62_2 hi62_3 hi62_4 hT hS hl
              refine lv_iload_n hx hb dX12_findPlan_62 rfl (lv_at hl 3 rfl) ?_
              refine lv_aload_n hx hb dX12_findPlan_63 rfl (lv_at hl 0 rfl) ?_
              refine tw_get (D := (dC, dI)) (v := .int (y_L62 (a 50) 19)) (C := RX12) (T := TX12) (N := 58) hx hb hts (fun _ hh => (List.mem_cons_of_mem _ (List.mem_append_right _ (List.mem_append_left _ hh)))) hown hK hT (fx_50 hX) (by decide) cl_e60 rfl 19 (by decide) (hts (.fieldLink RX12 149 "TypingPoolModel" "pieces" "I") (List.mem_cons_of_mem _ (List.mem_append_left _ (List.mem_of_getElem? (i := 0) rfl)))) (fun _ h9 => h9) rfl dX12_findPlan_64 ?_
              have hc_29 := im_2 hI
              refine lv_icmp_ge (tgt := 114) hx hb dX12_findPlan_67 (by decide) (fun c_30 => ?_) (fun c_30 => ?_)
              · have nc_30 := z_le hc_29 rfl c_30
                refine lv_iconst (v := 0) hx hb dX12_findPlan_114 (by decide) ?_
                refine lv_istore_n (lv' := [(3, .int 0), (0, .ref (a 50)), (1, .int p0), (2, .int p1)]) hx hb dX12_findPlan_115 rfl hl (by decide) rfl (fun ls hl => ?_)
                have loop_116 : ∀ (n : Nat) (i3 : Int32) (y_L116 : Nat → Nat → Int32) (g_L116 : Nat → Nat → Option Nat) (H : Heap) (locs : List Loc) (ls : Array Slot), (u 1 - i3.toInt).toNat < n → ag τ [60, 102, 109, 110, 111, 114, 115] y y_L116 → IM a u τ y_L116 → agg τ g g_L116 → IW (u 1) (u 2) (u 9) (y_L116 (a 89)) → vb 38408 0 4800 (y_L116 (a 99)) → 0 ≤ i3.toInt → i3.toInt ≤ u 1 → 0 ≤ (y_L116 (a 50) 51).toInt ∧ (y_L116 (a 50) 51).toInt ≤ 5 → vl (y_L116 (a 50) 51).toInt (u 2) (y_L116 (a 100)) → (y_L116 (a 50) 52).toInt = pcI p1 i3.toInt → vl (y_L116 (a 50) 52).toInt (u 1) (y_L116 (a 101)) → tw (dC, dI) a k τ ln y_L116 g_L116 H → va_S A s.heap H locs → lv_has ls 6 [(0, .ref (a 50)), (1, .int p0), (2, .int p1), (3, .int i3)] → W p l e (headSpec wm_m_findPlan ({ frames := 425, cells := 0, slots := 0, locals := 27580 })).room s m ([.ref (a 50), .int p0, .int p1] : List Value).toArray below meth c H locs 0 0 (MQ below (va_Qi (fun (r u : Int32) => u = r) (fun (r : Int32) (t : State) => (∃ (y' : Nat → Nat → Int32) (g' : Nat → Nat → Option Nat), r = 0 ∧ ag τ [60, 102, 109, 110, 111, 114, 115] y y' ∧ agg τ g g' ∧ IM a u τ y' ∧ (0 ≤ (y' (a 50) 51).toInt + (y' (a 50) 52).toInt ∧ (y' (a 50) 51).toInt + (y' (a 50) 52).toInt ≤ 8) ∧ vb 38408 0 4800 (y' (a 99)) ∧ tw (dC, dI) a k τ ln y' g' t.heap) ∨ (∃ (y' : Nat → Nat → Int32) (g' : Nat → Nat → Option Nat), r = (-1) ∧ ag τ [60, 102, 109, 110, 111, 114, 115] y y' ∧ agg τ g g' ∧ IM a u τ y' ∧ vb 38408 0 4800 (y' (a 99)) ∧ tw (dC, dI) a k τ ln y' g' t.heap) ∨ (∃ (y' : Nat → Nat → Int32) (g' : Nat → Nat → Option Nat), r = (-2) ∧ ag τ [60, 102, 109, 110, 111, 114, 115] y y' ∧ agg τ g g' ∧ IM a u τ y' ∧ vb 38408 0 4800 (y' (a 99)) ∧ tw (dC, dI) a k τ ln y' g' t.heap)) A) ([.ref (a 50), .int p0, .int p1] : List Value).toArray s 0 0 A) (F0 m 116 ls []) := by
                  intro n
                  induction n with
                  | zero => intro i3 y_L116 g_L116 H locs ls hlt; exact absurd hlt (Nat.not_lt_zero _)
                  | succ n ih_116 =>
                    intro i3 y_L116 g_L116 H locs ls hlt hG hI hGg hW hTH hi116_0 hi116_1 hi116_2 hi116_3 hi116_4 hi116_5 hT hS hl
                    refine lv_iload_n hx hb dX12_findPlan_116 rfl (lv_at hl 3 rfl) ?_
                    refine lv_aload_n hx hb dX12_findPlan_117 rfl (lv_at hl 0 rfl) ?_
                    refine tw_get (D := (dC, dI)) (v := .int (y_L116 (a 50) 5)) (C := RX12) (T := TX12) (N := 58) hx hb hts (fun _ hh => (List.mem_cons_of_mem _ (List.mem_append_right _ (List.mem_append_left _ hh)))) hown hK hT (fx_50 hX) (by decide) cl_e60 rfl 5 (by decide) (hts (.fieldLink RX12 142 "TypingPoolModel" "hands" "I") (List.mem_cons_of_mem _ (List.mem_append_left _ (List.mem_of_getElem? (i := 4) rfl)))) (fun _ h9 => h9) rfl dX12_findPlan_118 ?_
                    have hc_31 := im_1 hI
                    refine lv_icmp_ge (tgt := 228) hx hb dX12_findPlan_121 (by decide) (fun c_32 => ?_) (fun c_32 => ?_)
                    · have nc_32 := z_le hc_31 rfl c_32
                      refine lv_aload_n hx hb dX12_findPlan_228 rfl (lv_at hl 0 rfl) ?_
                      refine lv_iconst (v := 0) hx hb dX12_findPlan_229 (by decide) ?_
                      refine tw_put (D := (dC, dI)) (x := 0) (ty := .boolean) (C := RX12) (T := TX12) (N := 58) hx hb hts (fun _ hh => (List.mem_cons_of_mem _ (List.mem_append_right _ (List.mem_append_left _ hh)))) tyX12 tyX12_ok nmX12 hown hK hT hF hS (fx_50 hX) (by decide) cl_e60 rfl 57 (by decide) (hts (.fieldLink RX12 366 "TypingPoolModel" "isFound" "Z") (List.mem_cons_of_mem _ (List.mem_append_left _ (List.mem_of_getElem? (i := 9) rfl)))) (fun _ h9 => h9) rfl (tyX12_ok 57 (by decide)) rfl rfl (Nat.le_of_ble_eq_true rfl) rfl dX12_findPlan_230 (fun H locs hT hS => ?_)
                      obtain ⟨y_33, hy_33, hT⟩ : ∃ z : Nat → Nat → Int32, z = up2 y_L116 (a 50) 57 (0 : Int32) ∧ tw (dC, dI) a k τ ln z g_L116 H := ⟨_, rfl, hT⟩
                      have hG : ag τ [60, 102, 109, 110, 111, 114, 115] y y_33 := by rw [hy_33]; exact hG.up (fx_50 hX) (by decide)
                      have ha_34 : y_33 (a 100) = y_L116 (a 100) := (show y_33 (a 100) = y_L116 (a 100) from by rw [hy_33]; exact up2_o (kd_ne (fx_100 hX) (fx_50 hX) (by decide))).trans rfl
                      have ha_35 : y_33 (a 101) = y_L116 (a 101) := (show y_33 (a 101) = y_L116 (a 101) from by rw [hy_33]; exact up2_o (kd_ne (fx_101 hX) (fx_50 hX) (by decide))).trans rfl
                      have : (y_33 (a 50) 51).toInt = (y_L116 (a 50) 51).toInt := by rw [hy_33, up2_e (by decide)]
                      have : (y_33 (a 50) 52).toInt = (y_L116 (a 50) 52).toInt := by rw [hy_33, up2_e (by decide)]
                      have hW : IW (u 1) (u 2) (u 9) (y_33 (a 89)) := by rw [hy_33, up2_o (kd_ne (fx_89 hX) (fx_50 hX) (by decide))]; exact hW
                      have hTH : vb 38408 0 4800 (y_33 (a 99)) := by rw [hy_33, up2_o (kd_ne (fx_99 hX) (fx_50 hX) (by decide))]; exact hTH
                      have hI := hI.put (f := 57) (x := (0 : Int32)) (by decide)
                      rw [← hy_33] at hI
                      clear hc_29 hc_31
                      refine lv_aload_n hx hb dX12_findPlan_233 rfl (lv_at hl 0 rfl) ?_
                      refine lv_iconst (v := 0) hx hb dX12_findPlan_234 (by decide) ?_
                      refine lv_iconst (v := 0) hx hb dX12_findPlan_235 (by decide) ?_
                      refine lv_iconst (v := 0) hx hb dX12_findPlan_236 (by decide) ?_
                      refine lv_iconst (v := 0) hx hb dX12_findPlan_237 (by decide) ?_
                      refine lv_iconst (v := 0) hx hb dX12_findPlan_238 (by decide) ?_
                      have hpos := pcI_pos (p := p1) (n := u 1) (by omega) (by omega) (by omega)
                      have hex : pcI p1 i3.toInt = pcI p1 (u 1) := by rw [show i3.toInt = u 1 from by omega]
                      have hle3 := pcI_le (p := p1) (n := u 1) (by omega) (by omega)
                      have hFc := tw_free hF hS hA
                      have hp_36 : (0 : Int32).toInt = 0 := (zk (x := 0) 0 rfl)
                      have hp_37 : (0 : Int32).toInt = 0 := (zk (x := 0) 0 rfl)
                      have hp_38 : (0 : Int32).toInt = 0 := (zk (x := 0) 0 rfl)
                      have hp_39 : (0 : Int32).toInt = 0 := (zk (x := 0) 0 rfl)
                      have hp_40 : (0 : Int32).toInt = 0 := (zk (x := 0) 0 rfl)
                      refine va_callv (va_runV (As := [.int 0, .int 0, .int 0, .int 0, .int 0]) (rest := []) ⟨hx, hb, hml, hown, hts⟩ (m_begin l dC dI ad av H.size a k τ ln y_33 g_L116 u (0 : Int32) (0 : Int32) (0 : Int32) (0 : Int32) (0 : Int32) ((y_33 (a 50) 51).toInt) ((y_33 (a 50) 52).toInt) hI rfl rfl (by omega) (vl_mv hi116_3 (by omega) ha_34) (vl_mv hi116_5 (by omega) ha_35) hTH (by decide) (by omega) (by decide) (by decide) (by decide) (by omega) hW) (cwV 5 hts (gi_4 (List.mem_cons_of_mem _ (List.mem_append_left _ (List.mem_of_getElem? (i := 10) rfl))) (List.mem_cons_of_mem _ (List.mem_append_left _ (List.mem_of_getElem? (i := 11) rfl))) (List.mem_cons_of_mem _ (List.mem_append_left _ (List.mem_of_getElem? (i := 12) rfl))) (List.mem_cons_of_mem _ (List.mem_append_left _ (List.mem_of_getElem? (i := 3) rfl))) (fun _ hh => (List.mem_cons_of_mem _ (List.mem_append_right _ (List.mem_append_right _ (List.mem_append_right _ (List.mem_append_right _ (List.mem_append_left _ hh))))))) gd_g_beginHand) rfl rfl rfl (by decide +kernel) ⟨Nat.le_of_ble_eq_true rfl, Nat.le_of_ble_eq_true rfl⟩) ⟨pw_blind, tw_recv hK hT (fx_50 hX) (by decide) cl_e60 rfl, pw_use hT hK hFc hS hM⟩ rfl rfl hl.1 rfl (lv_room (Nat.le_of_ble_eq_true rfl)) dX12_findPlan_239 ⟨Nat.le_of_ble_eq_true rfl, Nat.le_of_ble_eq_true rfl⟩) hS (fun q _ h => hFc q h) hFc (fun u0 t H locs ht hvm hw hB hz1 hk1 hS => ?_)
                      refine W.widen (k := 0) (n := 0) (Nat.le_of_ble_eq_true rfl) (Nat.le_of_ble_eq_true rfl) ?_
                      clear hvm hz1 hk1
                      obtain ⟨y_42, g_43, hgy_42, hggg_43, hI, hf_44, hf_45, hT⟩ := hB
                      rw [ht] at hT
                      have hG := hG.tr hgy_42 (by decide)
                      have hGg := hGg.tr hggg_43
                      have ha_46 : y_42 (a 100) = y_L116 (a 100) := (hgy_42.at (fx_100 hX) (by decide)).trans ha_34
                      have ha_47 : y_42 (a 101) = y_L116 (a 101) := (hgy_42.at (fx_101 hX) (by decide)).trans ha_35
                      have hW : IW (u 1) (u 2) (u 9) (y_42 (a 89)) := by rw [hgy_42.at (fx_89 hX) (by decide)]; exact hW
                      try simp only [hp_36, hp_37, hp_38, hp_39, hp_40] at hf_44 hf_45
                      clear hp_36 hp_37 hp_38 hp_39 hp_40
                      have hTH : vb 38408 0 4800 (y_42 (a 99)) := by rw [hgy_42.at (fx_99 hX) (by decide)]; exact hTH
                      refine lv_aload_n hx hb dX12_findPlan_242 rfl (lv_at hl 0 rfl) ?_
                      refine tw_get (D := (dC, dI)) (v := .int (y_42 (a 50) 57)) (C := RX12) (T := TX12) (N := 58) hx hb hts (fun _ hh => (List.mem_cons_of_mem _ (List.mem_append_right _ (List.mem_append_left _ hh)))) hown hK hT (fx_50 hX) (by decide) cl_e60 rfl 57 (by decide) (hts (.fieldLink RX12 366 "TypingPoolModel" "isFound" "Z") (List.mem_cons_of_mem _ (List.mem_append_left _ (List.mem_of_getElem? (i := 9) rfl)))) (fun _ h9 => h9) rfl dX12_findPlan_243 ?_
                      refine lv_if_eq (tgt := 253) hx hb dX12_findPlan_246 (by decide) (fun c_48 => ?_) (fun c_48 => ?_)
                      · have nc_48 := z_eq rfl (zk (x := 0) 0 rfl) c_48
                        refine lv_bipush (v := (-2)) hx hb dX12_findPlan_253 (by decide) ?_
                        have hrv : (-2 : Int32).toInt = (-2) := (zk (x := (-2)) (-2) rfl)
                        exact W.iret (v := (-2)) hx hb hr (fun t ht hW9 => ⟨⟨(-2), (-2), rfl, rfl, Or.inr (Or.inr (⟨y_42, g_43, rfl, hG, hGg, hI, hTH, tw_at ht hT⟩))⟩, hS.F ht⟩) hS.2.2 dX12_findPlan_255
                      · have nc_48 := z_ne rfl (zk (x := 0) 0 rfl) c_48
                        refine lv_iconst (v := 0) hx hb dX12_findPlan_249 (by decide) ?_
                        refine lv_goto (tgt := 255) hx hb dX12_findPlan_250 (by decide) ?_
                        have hrv : (0 : Int32).toInt = 0 := (zk (x := 0) 0 rfl)
                        exact W.iret (v := 0) hx hb hr (fun t ht hW9 => ⟨⟨0, 0, rfl, rfl, Or.inl ⟨y_42, g_43, rfl, hG, hGg, hI, by omega, hTH, tw_at ht hT⟩⟩, hS.F ht⟩) hS.2.2 dX12_findPlan_255
                    · have nc_32 := z_nle hc_31 rfl c_32
                      refine lv_iload_n hx hb dX12_findPlan_124 rfl (lv_at hl 2 rfl) ?_
                      refine lv_iload_n hx hb dX12_findPlan_125 rfl (lv_at hl 3 rfl) ?_
                      refine lv_ishr hx hb dX12_findPlan_126 ?_
                      refine lv_topi (fun x_49 ex_49 => ?_)
                      refine lv_iconst (v := 1) hx hb dX12_findPlan_127 (by decide) ?_
                      refine lv_iand hx hb dX12_findPlan_128 ?_
                      refine lv_topi (fun x_50 ex_50 => ?_)
                      have hx_50 := z_and (x := x_49) (zk (x := 1) 1 rfl) (by omega)
                      rw [← ex_50] at hx_50
                      have hst := pc_step (p := p1) (i := i3) (by omega) (by omega) (by omega) ex_49 ex_50
                      have hle := pcI_le (p := p1) (n := i3.toInt + 1) (by omega) (by omega)
                      have hnn := pcI_nn (p := p1) (n := i3.toInt)
                      refine lv_if_ne (tgt := 135) hx hb dX12_findPlan_129 (by decide) (fun c_51 => ?_) (fun c_51 => ?_)
                      · have nc_51 := z_ne rfl (zk (x := 0) 0 rfl) c_51
                        refine lv_aload_n hx hb dX12_findPlan_135 rfl (lv_at hl 0 rfl) ?_
                        refine tw_get (D := (dC, dI)) (v := .ref (a 101)) (C := RX12) (T := TX12) (N := 58) hx hb hts (fun _ hh => (List.mem_cons_of_mem _ (List.mem_append_right _ (List.mem_append_left _ hh)))) hown hK hT (fx_50 hX) (by decide) cl_e60 rfl 50 (by decide) (hts (.fieldLink RX12 126 "TypingPoolModel" "planHands" "[I") (List.mem_cons_of_mem _ (List.mem_append_left _ (List.mem_of_getElem? (i := 13) rfl)))) (fun _ h9 => h9) rfl dX12_findPlan_136 ?_
                        refine lv_aload_n hx hb dX12_findPlan_139 rfl (lv_at hl 0 rfl) ?_
                        refine lv_dup hx hb dX12_findPlan_140 rfl ?_
                        refine tw_get (D := (dC, dI)) (v := .int (y_L116 (a 50) 52)) (C := RX12) (T := TX12) (N := 58) hx hb hts (fun _ hh => (List.mem_cons_of_mem _ (List.mem_append_right _ (List.mem_append_left _ hh)))) hown hK hT (fx_50 hX) (by decide) cl_e60 rfl 52 (by decide) (hts (.fieldLink RX12 342 "TypingPoolModel" "planHandMany" "I") (List.mem_cons_of_mem _ (List.mem_append_left _ (List.mem_of_getElem? (i := 8) rfl)))) (fun _ h9 => h9) rfl dX12_findPlan_141 ?_
                        refine lv_dup_x1 hx hb dX12_findPlan_144 rfl rfl ?_
                        refine lv_iconst (v := 1) hx hb dX12_findPlan_145 (by decide) ?_
                        refine lv_iadd hx hb dX12_findPlan_146 ?_
                        refine lv_topi (fun x_52 ex_52 => ?_)
                        have hx_52 := z_add ex_52 rfl (zk (x := 1) 1 rfl) (by omega) (by omega)
                        refine tw_put (D := (dC, dI)) (x := x_52) (ty := .int) (C := RX12) (T := TX12) (N := 58) hx hb hts (fun _ hh => (List.mem_cons_of_mem _ (List.mem_append_right _ (List.mem_append_left _ hh)))) tyX12 tyX12_ok nmX12 hown hK hT hF hS (fx_50 hX) (by decide) cl_e60 rfl 52 (by decide) (hts (.fieldLink RX12 342 "TypingPoolModel" "planHandMany" "I") (List.mem_cons_of_mem _ (List.mem_append_left _ (List.mem_of_getElem? (i := 8) rfl)))) (fun _ h9 => h9) rfl (tyX12_ok 52 (by decide)) rfl rfl (Nat.le_of_ble_eq_true rfl) rfl dX12_findPlan_147 (fun H locs hT hS => ?_)
                        obtain ⟨y_53, hy_53, hT⟩ : ∃ z : Nat → Nat → Int32, z = up2 y_L116 (a 50) 52 x_52 ∧ tw (dC, dI) a k τ ln z g_L116 H := ⟨_, rfl, hT⟩
                        have hG : ag τ [60, 102, 109, 110, 111, 114, 115] y y_53 := by rw [hy_53]; exact hG.up (fx_50 hX) (by decide)
                        have ha_54 : y_53 (a 100) = y_L116 (a 100) := (show y_53 (a 100) = y_L116 (a 100) from by rw [hy_53]; exact up2_o (kd_ne (fx_100 hX) (fx_50 hX) (by decide))).trans rfl
                        have ha_55 : y_53 (a 101) = y_L116 (a 101) := (show y_53 (a 101) = y_L116 (a 101) from by rw [hy_53]; exact up2_o (kd_ne (fx_101 hX) (fx_50 hX) (by decide))).trans rfl
                        have : (y_53 (a 50) 51).toInt = (y_L116 (a 50) 51).toInt := by rw [hy_53, up2_e (by decide)]
                        have : (y_53 (a 50) 52).toInt = x_52.toInt := (congrArg Int32.toInt (show y_53 (a 50) 52 = x_52 from by rw [hy_53]; exact up2_i)).trans rfl
                        have hW : IW (u 1) (u 2) (u 9) (y_53 (a 89)) := by rw [hy_53, up2_o (kd_ne (fx_89 hX) (fx_50 hX) (by decide))]; exact hW
                        have hTH : vb 38408 0 4800 (y_53 (a 99)) := by rw [hy_53, up2_o (kd_ne (fx_99 hX) (fx_50 hX) (by decide))]; exact hTH
                        have hI := hI.put (f := 52) (x := x_52) (by decide)
                        rw [← hy_53] at hI
                        clear hc_29 hc_31
                        refine lv_iload_n hx hb dX12_findPlan_150 rfl (lv_at hl 3 rfl) ?_
                        refine tw_iast hx hb hK hT hF hS 0 (fx_101 hX) (by decide) (fun _ => cl_e111) rfl (z_in rfl (by omega) (by omega)) dX12_findPlan_151 (fun H locs hT hS => ?_)
                        obtain ⟨y_56, hy_56, hT⟩ : ∃ z : Nat → Nat → Int32, z = up2 y_53 (a 101) ((y_L116 (a 50) 52).toNatClampNeg) i3 ∧ tw (dC, dI) a k τ ln z g_L116 H := ⟨_, rfl, hT⟩
                        have hG : ag τ [60, 102, 109, 110, 111, 114, 115] y y_56 := by rw [hy_56]; exact hG.up (fx_101 hX) (by decide)
                        have ha_57 : y_56 (a 100) = y_L116 (a 100) := (show y_56 (a 100) = y_53 (a 100) from by rw [hy_56]; exact up2_o (kd_ne (fx_100 hX) (fx_101 hX) (by decide))).trans ha_54
                        have : (y_56 (a 50) 51).toInt = (y_53 (a 50) 51).toInt := by rw [hy_56, up2_o (kd_ne (fx_50 hX) (fx_101 hX) (by decide))]
                        have : (y_56 (a 50) 52).toInt = (y_53 (a 50) 52).toInt := by rw [hy_56, up2_o (kd_ne (fx_50 hX) (fx_101 hX) (by decide))]
                        have hW : IW (u 1) (u 2) (u 9) (y_56 (a 89)) := by rw [hy_56, up2_o (kd_ne (fx_89 hX) (fx_101 hX) (by decide))]; exact hW
                        have hTH : vb 38408 0 4800 (y_56 (a 99)) := by rw [hy_56, up2_o (kd_ne (fx_99 hX) (fx_101 hX) (by decide))]; exact hTH
                        have hI := hI.ag (S := [111]) (y' := y_56) (by rw [hy_56]; exact ag.one (fx_101 hX)) (by decide)
                        refine lv_iload_n hx hb dX12_findPlan_152 rfl (lv_at hl 3 rfl) ?_
                        refine lv_sipush (v := 4801) hx hb dX12_findPlan_153 (by decide) ?_
                        refine lv_imul hx hb dX12_findPlan_156 ?_
                        refine lv_topi (fun x_58 ex_58 => ?_)
                        have hx_58 := z_mul ex_58 rfl (zk (x := 4801) 4801 rfl) (by omega) (by omega)
                        refine lv_istore (lv' := [(4, .int x_58), (0, .ref (a 50)), (1, .int p0), (2, .int p1), (3, .int i3)]) hx hb dX12_findPlan_157 hl (by decide) rfl (fun ls hl => ?_)
                        refine lv_aload_n hx hb dX12_findPlan_159 rfl (lv_at hl 1 rfl) ?_
                        refine tw_get (D := (dC, dI)) (v := .ref (a 99)) (C := RX12) (T := TX12) (N := 58) hx hb hts (fun _ hh => (List.mem_cons_of_mem _ (List.mem_append_right _ (List.mem_append_left _ hh)))) hown hK hT (fx_50 hX) (by decide) cl_e60 rfl 48 (by decide) (hts (.fieldLink RX12 120 "TypingPoolModel" "there" "[I") (List.mem_cons_of_mem _ (List.mem_append_left _ (List.mem_of_getElem? (i := 14) rfl)))) (fun _ h9 => h9) rfl dX12_findPlan_160 ?_
                        refine lv_iload hx hb dX12_findPlan_163 (lv_at hl 0 rfl) ?_
                        refine lv_iconst (v := 0) hx hb dX12_findPlan_165 (by decide) ?_
                        refine tw_iast hx hb hK hT hF hS 0 (fx_99 hX) (by decide) (fun _ => cl_e109) rfl (z_in rfl (by omega) (by omega)) dX12_findPlan_166 (fun H locs hT hS => ?_)
                        obtain ⟨y_59, hy_59, hT⟩ : ∃ z : Nat → Nat → Int32, z = up2 y_56 (a 99) x_58.toNatClampNeg (0 : Int32) ∧ tw (dC, dI) a k τ ln z g_L116 H := ⟨_, rfl, hT⟩
                        have hG : ag τ [60, 102, 109, 110, 111, 114, 115] y y_59 := by rw [hy_59]; exact hG.up (fx_99 hX) (by decide)
                        have ha_60 : y_59 (a 100) = y_L116 (a 100) := (show y_59 (a 100) = y_56 (a 100) from by rw [hy_59]; exact up2_o (kd_ne (fx_100 hX) (fx_99 hX) (by decide))).trans ha_57
                        have : (y_59 (a 50) 51).toInt = (y_56 (a 50) 51).toInt := by rw [hy_59, up2_o (kd_ne (fx_50 hX) (fx_99 hX) (by decide))]
                        have : (y_59 (a 50) 52).toInt = (y_56 (a 50) 52).toInt := by rw [hy_59, up2_o (kd_ne (fx_50 hX) (fx_99 hX) (by decide))]
                        have hW : IW (u 1) (u 2) (u 9) (y_59 (a 89)) := by rw [hy_59, up2_o (kd_ne (fx_89 hX) (fx_99 hX) (by decide))]; exact hW
                        have hTH : vb 38408 0 4800 (y_59 (a 99)) := by rw [hy_59, up2_q]; exact vb_set hTH (zk (x := 0) 0 rfl) (by omega) (by omega)
                        have hI := hI.ag (S := [109]) (y' := y_59) (by rw [hy_59]; exact ag.one (fx_99 hX)) (by decide)
                        refine lv_iconst (v := 0) hx hb dX12_findPlan_167 (by decide) ?_
                        refine lv_istore (lv' := [(5, .int 0), (4, .int x_58), (0, .ref (a 50)), (1, .int p0), (2, .int p1), (3, .int i3)]) hx hb dX12_findPlan_168 hl (by decide) rfl (fun ls hl => ?_)
                        have loop_170 : ∀ (n : Nat) (i5 : Int32) (y_L170 : Nat → Nat → Int32) (g_L170 : Nat → Nat → Option Nat) (H : Heap) (locs : List Loc) (ls : Array Slot), (4800 - i5.toInt).toNat < n → ag τ [60, 102, 109, 110, 111, 114, 115] y y_L170 → IM a u τ y_L170 → agg τ g g_L170 → IW (u 1) (u 2) (u 9) (y_L170 (a 89)) → vb 38408 0 4800 (y_L170 (a 99)) → 0 ≤ i5.toInt → i5.toInt ≤ 4800 → 0 ≤ (y_L170 (a 50) 51).toInt ∧ (y_L170 (a 50) 51).toInt ≤ 5 → vl (y_L170 (a 50) 51).toInt (u 2) (y_L170 (a 100)) → (y_L170 (a 50) 52).toInt = pcI p1 i3.toInt + 1 ∧ pcI p1 (i3.toInt + 1) = pcI p1 i3.toInt + 1 → vl (y_L170 (a 50) 52).toInt (u 1) (y_L170 (a 101)) → (y_L170 (a 99) (4801 * i3.toInt + i5.toInt).toNat).toInt ≤ i5.toInt → tw (dC, dI) a k τ ln y_L170 g_L170 H → va_S A s.heap H locs → lv_has ls 6 [(0, .ref (a 50)), (1, .int p0), (2, .int p1), (3, .int i3), (4, .int x_58), (5, .int i5)] → W p l e (headSpec wm_m_findPlan ({ frames := 425, cells := 0, slots := 0, locals := 27580 })).room s m ([.ref (a 50), .int p0, .int p1] : List Value).toArray below meth c H locs 0 0 (MQ below (va_Qi (fun (r u : Int32) => u = r) (fun (r : Int32) (t : State) => (∃ (y' : Nat → Nat → Int32) (g' : Nat → Nat → Option Nat), r = 0 ∧ ag τ [60, 102, 109, 110, 111, 114, 115] y y' ∧ agg τ g g' ∧ IM a u τ y' ∧ (0 ≤ (y' (a 50) 51).toInt + (y' (a 50) 52).toInt ∧ (y' (a 50) 51).toInt + (y' (a 50) 52).toInt ≤ 8) ∧ vb 38408 0 4800 (y' (a 99)) ∧ tw (dC, dI) a k τ ln y' g' t.heap) ∨ (∃ (y' : Nat → Nat → Int32) (g' : Nat → Nat → Option Nat), r = (-1) ∧ ag τ [60, 102, 109, 110, 111, 114, 115] y y' ∧ agg τ g g' ∧ IM a u τ y' ∧ vb 38408 0 4800 (y' (a 99)) ∧ tw (dC, dI) a k τ ln y' g' t.heap) ∨ (∃ (y' : Nat → Nat → Int32) (g' : Nat → Nat → Option Nat), r = (-2) ∧ ag τ [60, 102, 109, 110, 111, 114, 115] y y' ∧ agg τ g g' ∧ IM a u τ y' ∧ vb 38408 0 4800 (y' (a 99)) ∧ tw (dC, dI) a k τ ln y' g' t.heap)) A) ([.ref (a 50), .int p0, .int p1] : List Value).toArray s 0 0 A) (F0 m 170 ls []) := by
                          intro n
                          induction n with
                          | zero => intro i5 y_L170 g_L170 H locs ls hlt; exact absurd hlt (Nat.not_lt_zero _)
                          | succ n ih_170 =>
                            intro i5 y_L170 g_L170 H locs ls hlt hG hI hGg hW hTH hi170_0 hi170_1 hi170_2 hi170_3 hi170_4 hi170_5 hi170_6 hT hS hl
                            refine lv_iload hx hb dX12_findPlan_170 (lv_at hl 5 rfl) ?_
                            refine lv_sipush (v := 4800) hx hb dX12_findPlan_172 (by decide) ?_
                            refine lv_icmp_ge (tgt := 222) hx hb dX12_findPlan_175 (by decide) (fun c_61 => ?_) (fun c_61 => ?_)
                            · have nc_61 := z_le (zk (x := 4800) 4800 rfl) rfl c_61
                              obtain ⟨x_62, ex_62⟩ : ∃ y : Int32, y = i3 + Int32.ofInt 1 := ⟨_, rfl⟩
                              have hx_62 := z_add ex_62 rfl (zk (x := Int32.ofInt 1) 1 rfl) (by omega) (by omega)
                              refine lv_iinc (v := x_62) (lv' := [(3, .int x_62), (0, .ref (a 50)), (1, .int p0), (2, .int p1), (4, .int x_58), (5, .int i5)]) hx hb dX12_findPlan_222 hl (k := 3) rfl ex_62.symm (by decide) rfl (fun ls hl => ?_)
                              refine lv_goto (tgt := 116) hx hb dX12_findPlan_225 (by decide) ?_
                              exact ih_116  x_62 y_L170 g_L170 H _ ls (by omega) hG hI hGg hW hTH (by omega) (by omega) (by omega) (vl_mv hi170_3 (by omega) rfl) (by rw [hx_62]; omega) (vl_mv hi170_5 (by omega) rfl) hT hS (lv_sub hl [1, 2, 3, 0] rfl)
                            · have nc_61 := z_nle (zk (x := 4800) 4800 rfl) rfl c_61
                              refine lv_aload_n hx hb dX12_findPlan_178 rfl (lv_at hl 0 rfl) ?_
                              refine tw_get (D := (dC, dI)) (v := .ref (a 99)) (C := RX12) (T := TX12) (N := 58) hx hb hts (fun _ hh => (List.mem_cons_of_mem _ (List.mem_append_right _ (List.mem_append_left _ hh)))) hown hK hT (fx_50 hX) (by decide) cl_e60 rfl 48 (by decide) (hts (.fieldLink RX12 120 "TypingPoolModel" "there" "[I") (List.mem_cons_of_mem _ (List.mem_append_left _ (List.mem_of_getElem? (i := 14) rfl)))) (fun _ h9 => h9) rfl dX12_findPlan_179 ?_
                              refine lv_iload hx hb dX12_findPlan_182 (lv_at hl 4 rfl) ?_
                              refine lv_iload hx hb dX12_findPlan_184 (lv_at hl 5 rfl) ?_
                              refine lv_iadd hx hb dX12_findPlan_186 ?_
                              refine lv_topi (fun x_63 ex_63 => ?_)
                              have hx_63 := z_add ex_63 rfl rfl (by omega) (by omega)
                              refine lv_iconst (v := 1) hx hb dX12_findPlan_187 (by decide) ?_
                              refine lv_iadd hx hb dX12_findPlan_188 ?_
                              refine lv_topi (fun x_64 ex_64 => ?_)
                              have hx_64 := z_add ex_64 rfl (zk (x := 1) 1 rfl) (by omega) (by omega)
                              refine lv_aload_n hx hb dX12_findPlan_189 rfl (lv_at hl 0 rfl) ?_
                              refine tw_get (D := (dC, dI)) (v := .ref (a 99)) (C := RX12) (T := TX12) (N := 58) hx hb hts (fun _ hh => (List.mem_cons_of_mem _ (List.mem_append_right _ (List.mem_append_left _ hh)))) hown hK hT (fx_50 hX) (by decide) cl_e60 rfl 48 (by decide) (hts (.fieldLink RX12 120 "TypingPoolModel" "there" "[I") (List.mem_cons_of_mem _ (List.mem_append_left _ (List.mem_of_getElem? (i := 14) rfl)))) (fun _ h9 => h9) rfl dX12_findPlan_190 ?_
                              refine lv_iload hx hb dX12_findPlan_193 (lv_at hl 4 rfl) ?_
                              refine lv_iload hx hb dX12_findPlan_195 (lv_at hl 5 rfl) ?_
                              refine lv_iadd hx hb dX12_findPlan_197 ?_
                              refine lv_topi (fun x_65 ex_65 => ?_)
                              have hx_65 := z_add ex_65 rfl rfl (by omega) (by omega)
                              refine tw_iald hx hb hK hT 0 (fx_99 hX) (by decide) cl_e109 rfl (z_in rfl (by omega) (by omega)) dX12_findPlan_198 ?_
                              have hrd_66 : (y_L170 (a 99) x_65.toNatClampNeg).toInt = (y_L170 (a 99) (4801 * i3.toInt + i5.toInt).toNat).toInt := by rw [z_nat (x := x_65) rfl, show (x_65.toInt : Int) = 4801 * i3.toInt + i5.toInt by omega]
                              have hv_67 := vb_at hTH (x := x_65) rfl (by omega) (by omega)
                              refine lv_aload_n hx hb dX12_findPlan_199 rfl (lv_at hl 0 rfl) ?_
                              refine lv_iload_n hx hb dX12_findPlan_200 rfl (lv_at hl 3 rfl) ?_
                              refine lv_iload hx hb dX12_findPlan_201 (lv_at hl 5 rfl) ?_
                              have hFc := tw_free hF hS hA
                              refine va_calli (va_runV (As := [.int i3, .int i5]) (rest := [.int (y_L170 (a 99) x_65.toNatClampNeg), .int x_64, .ref (a 99)]) ⟨hx, hb, hml, hown, hts⟩ (m_isAway l dC dI ad av H.size a k τ ln y_L170 g_L170 u i3 i5 hI hW) (cwV 2 hts (gi_4 (List.mem_cons_of_mem _ (List.mem_append_left _ (List.mem_of_getElem? (i := 15) rfl))) (List.mem_cons_of_mem _ (List.mem_append_left _ (List.mem_of_getElem? (i := 16) rfl))) (List.mem_cons_of_mem _ (List.mem_append_left _ (List.mem_of_getElem? (i := 17) rfl))) (List.mem_cons_of_mem _ (List.mem_append_left _ (List.mem_of_getElem? (i := 3) rfl))) (fun _ hh => (List.mem_cons_of_mem _ (List.mem_append_right _ (List.mem_append_right _ (List.mem_append_right _ (List.mem_append_right _ (List.mem_append_right _ (List.mem_append_left _ hh)))))))) gd_m_isAway) rfl rfl rfl (by decide +kernel) ⟨Nat.le_of_ble_eq_true rfl, Nat.le_of_ble_eq_true rfl⟩) ⟨pw_blind, tw_recv hK hT (fx_50 hX) (by decide) cl_e60 rfl, pw_use hT hK hFc hS hM⟩ rfl rfl hl.1 rfl (lv_room (Nat.le_of_ble_eq_true rfl)) dX12_findPlan_203 ⟨Nat.le_of_ble_eq_true rfl, Nat.le_of_ble_eq_true rfl⟩) hS (fun q _ h => hFc q h) hFc (fun r0 r_68 t H locs ht hvm hw hB hz1 hk1 hS => ?_)
                              refine W.widen (k := 0) (n := 0) (Nat.le_of_ble_eq_true rfl) (Nat.le_of_ble_eq_true rfl) ?_
                              clear hvm hz1 hk1
                              subst hw
                              rcases hB with ⟨hre, hT⟩ | ⟨hre, hT⟩
                              · refine lq_top (v := 1) hre ?_
                                rw [ht] at hT
                                refine lv_if_eq (tgt := 213) hx hb dX12_findPlan_206 (by decide) (fun c_69 => absurd c_69 (by decide)) (fun c_69 => ?_)
                                refine lv_iconst (v := 0) hx hb dX12_findPlan_209 (by decide) ?_
                                refine lv_goto (tgt := 214) hx hb dX12_findPlan_210 (by decide) ?_
                                refine lv_iadd hx hb dX12_findPlan_214 ?_
                                refine lv_topi (fun x_70 ex_70 => ?_)
                                have hx_70 := z_add ex_70 rfl (zk (x := 0) 0 rfl) (by omega) (by omega)
                                refine tw_iast hx hb hK hT hF hS 0 (fx_99 hX) (by decide) (fun _ => cl_e109) rfl (z_in rfl (by omega) (by omega)) dX12_findPlan_215 (fun H locs hT hS => ?_)
                                obtain ⟨y_71, hy_71, hT⟩ : ∃ z : Nat → Nat → Int32, z = up2 y_L170 (a 99) x_64.toNatClampNeg x_70 ∧ tw (dC, dI) a k τ ln z g_L170 H := ⟨_, rfl, hT⟩
                                have hG : ag τ [60, 102, 109, 110, 111, 114, 115] y y_71 := by rw [hy_71]; exact hG.up (fx_99 hX) (by decide)
                                have ha_72 : y_71 (a 100) = y_L170 (a 100) := (show y_71 (a 100) = y_L170 (a 100) from by rw [hy_71]; exact up2_o (kd_ne (fx_100 hX) (fx_99 hX) (by decide))).trans rfl
                                have ha_73 : y_71 (a 101) = y_L170 (a 101) := (show y_71 (a 101) = y_L170 (a 101) from by rw [hy_71]; exact up2_o (kd_ne (fx_101 hX) (fx_99 hX) (by decide))).trans rfl
                                have : (y_71 (a 50) 51).toInt = (y_L170 (a 50) 51).toInt := by rw [hy_71, up2_o (kd_ne (fx_50 hX) (fx_99 hX) (by decide))]
                                have : (y_71 (a 50) 52).toInt = (y_L170 (a 50) 52).toInt := by rw [hy_71, up2_o (kd_ne (fx_50 hX) (fx_99 hX) (by decide))]
                                have hW : IW (u 1) (u 2) (u 9) (y_71 (a 89)) := by rw [hy_71, up2_o (kd_ne (fx_89 hX) (fx_99 hX) (by decide))]; exact hW
                                have hTH : vb 38408 0 4800 (y_71 (a 99)) := by rw [hy_71, up2_q]; exact vb_set hTH rfl (by omega) (by omega)
                                have hI := hI.ag (S := [109]) (y' := y_71) (by rw [hy_71]; exact ag.one (fx_99 hX)) (by decide)
                                obtain ⟨x_74, ex_74⟩ : ∃ y : Int32, y = i5 + Int32.ofInt 1 := ⟨_, rfl⟩
                                have hx_74 := z_add ex_74 rfl (zk (x := Int32.ofInt 1) 1 rfl) (by omega) (by omega)
                                refine lv_iinc (v := x_74) (lv' := [(5, .int x_74), (0, .ref (a 50)), (1, .int p0), (2, .int p1), (3, .int i3), (4, .int x_58)]) hx hb dX12_findPlan_216 hl (k := 5) rfl ex_74.symm (by decide) rfl (fun ls hl => ?_)
                                refine lv_goto (tgt := 170) hx hb dX12_findPlan_219 (by decide) ?_
                                exact ih_170  x_74 y_71 g_L170 H _ ls (by omega) hG hI hGg hW hTH (by omega) (by omega) (by omega) (vl_mv hi170_3 (by omega) ha_72) (by omega) (vl_mv hi170_5 (by omega) ha_73) (by rw [rd_i (m := 4801 * i3.toInt + x_74.toInt) hy_71 rfl (by omega) rfl]; omega) hT hS (lv_sub hl [1, 2, 3, 4, 5, 0] rfl)
                              · refine lq_top (v := 0) hre ?_
                                rw [ht] at hT
                                refine lv_if_eq (tgt := 213) hx hb dX12_findPlan_206 (by decide) (fun c_75 => ?_) (fun c_75 => absurd c_75 (by decide))
                                refine lv_iconst (v := 1) hx hb dX12_findPlan_213 (by decide) ?_
                                refine lv_iadd hx hb dX12_findPlan_214 ?_
                                refine lv_topi (fun x_76 ex_76 => ?_)
                                have hx_76 := z_add ex_76 rfl (zk (x := 1) 1 rfl) (by omega) (by omega)
                                refine tw_iast hx hb hK hT hF hS 0 (fx_99 hX) (by decide) (fun _ => cl_e109) rfl (z_in rfl (by omega) (by omega)) dX12_findPlan_215 (fun H locs hT hS => ?_)
                                obtain ⟨y_77, hy_77, hT⟩ : ∃ z : Nat → Nat → Int32, z = up2 y_L170 (a 99) x_64.toNatClampNeg x_76 ∧ tw (dC, dI) a k τ ln z g_L170 H := ⟨_, rfl, hT⟩
                                have hG : ag τ [60, 102, 109, 110, 111, 114, 115] y y_77 := by rw [hy_77]; exact hG.up (fx_99 hX) (by decide)
                                have ha_78 : y_77 (a 100) = y_L170 (a 100) := (show y_77 (a 100) = y_L170 (a 100) from by rw [hy_77]; exact up2_o (kd_ne (fx_100 hX) (fx_99 hX) (by decide))).trans rfl
                                have ha_79 : y_77 (a 101) = y_L170 (a 101) := (show y_77 (a 101) = y_L170 (a 101) from by rw [hy_77]; exact up2_o (kd_ne (fx_101 hX) (fx_99 hX) (by decide))).trans rfl
                                have : (y_77 (a 50) 51).toInt = (y_L170 (a 50) 51).toInt := by rw [hy_77, up2_o (kd_ne (fx_50 hX) (fx_99 hX) (by decide))]
                                have : (y_77 (a 50) 52).toInt = (y_L170 (a 50) 52).toInt := by rw [hy_77, up2_o (kd_ne (fx_50 hX) (fx_99 hX) (by decide))]
                                have hW : IW (u 1) (u 2) (u 9) (y_77 (a 89)) := by rw [hy_77, up2_o (kd_ne (fx_89 hX) (fx_99 hX) (by decide))]; exact hW
                                have hTH : vb 38408 0 4800 (y_77 (a 99)) := by rw [hy_77, up2_q]; exact vb_set hTH rfl (by omega) (by omega)
                                have hI := hI.ag (S := [109]) (y' := y_77) (by rw [hy_77]; exact ag.one (fx_99 hX)) (by decide)
                                obtain ⟨x_80, ex_80⟩ : ∃ y : Int32, y = i5 + Int32.ofInt 1 := ⟨_, rfl⟩
                                have hx_80 := z_add ex_80 rfl (zk (x := Int32.ofInt 1) 1 rfl) (by omega) (by omega)
                                refine lv_iinc (v := x_80) (lv' := [(5, .int x_80), (0, .ref (a 50)), (1, .int p0), (2, .int p1), (3, .int i3), (4, .int x_58)]) hx hb dX12_findPlan_216 hl (k := 5) rfl ex_80.symm (by decide) rfl (fun ls hl => ?_)
                                refine lv_goto (tgt := 170) hx hb dX12_findPlan_219 (by decide) ?_
                                exact ih_170  x_80 y_77 g_L170 H _ ls (by omega) hG hI hGg hW hTH (by omega) (by omega) (by omega) (vl_mv hi170_3 (by omega) ha_78) (by omega) (vl_mv hi170_5 (by omega) ha_79) (by rw [rd_i (m := 4801 * i3.toInt + x_80.toInt) hy_77 rfl (by omega) rfl]; omega) hT hS (lv_sub hl [1, 2, 3, 4, 5, 0] rfl)
                        have hp_81 : (0 : Int32).toInt = 0 := (zk (x := 0) 0 rfl)
                        exact loop_170 _ (0 : Int32) y_59 g_L116 H _ ls (Nat.lt_succ_self _) hG hI hGg hW hTH (by omega) (by omega) (by omega) (vl_mv hi116_3 (by omega) ha_60) (by omega) (vl_step (y := y_53) (show vl _ _ (y_53 (a 101)) from by rw [hy_53, up2_o (kd_ne (fx_101 hX) (fx_50 hX) (by decide))]; exact hi116_5) hy_56 rfl (by omega) (by omega) rfl (by omega) (by omega) (show y_59 (a 101) = y_56 (a 101) from by rw [hy_59, up2_o (kd_ne (fx_101 hX) (fx_99 hX) (by decide))]) (by omega)) (by rw [rd_i (m := 4801 * i3.toInt + (0 : Int32).toInt) hy_59 rfl (by omega) (zk (x := 0) 0 rfl)]; decide) hT hS (lv_sub hl [2, 3, 4, 5, 1, 0] rfl)
                      · have nc_51 := z_eq rfl (zk (x := 0) 0 rfl) c_51
                        refine lv_goto (tgt := 222) hx hb dX12_findPlan_132 (by decide) ?_
                        obtain ⟨x_82, ex_82⟩ : ∃ y : Int32, y = i3 + Int32.ofInt 1 := ⟨_, rfl⟩
                        have hx_82 := z_add ex_82 rfl (zk (x := Int32.ofInt 1) 1 rfl) (by omega) (by omega)
                        refine lv_iinc (v := x_82) (lv' := [(3, .int x_82), (0, .ref (a 50)), (1, .int p0), (2, .int p1)]) hx hb dX12_findPlan_222 hl (k := 3) rfl ex_82.symm (by decide) rfl (fun ls hl => ?_)
                        refine lv_goto (tgt := 116) hx hb dX12_findPlan_225 (by decide) ?_
                        exact ih_116  x_82 y_L116 g_L116 H _ ls (by omega) hG hI hGg hW hTH (by omega) (by omega) (by omega) (vl_mv hi116_3 (by omega) rfl) (by rw [hx_82]; omega) (vl_mv hi116_5 (by omega) rfl) hT hS (lv_sub hl [1, 2, 3, 0] rfl)
                have hp_83 : (0 : Int32).toInt = 0 := (zk (x := 0) 0 rfl)
                exact loop_116 _ (0 : Int32) y_L62 g_L62 H _ ls (Nat.lt_succ_self _) hG hI hGg hW hTH (by omega) (by omega) (by have h1 := pcI_nn (p := p0) (n := i3.toInt); have h2 := pcI_le (p := p0) (n := i3.toInt) (by omega) (by omega); omega) (vl_mv hi62_4 rfl rfl) (by rw [pcI_0 (p := p1) (n := (0 : Int32).toInt) rfl]; omega) (vl_0 (by omega)) hT hS (lv_sub hl [1, 2, 3, 0] rfl)
              · have nc_30 := z_nle hc_29 rfl c_30
                refine lv_iload_n hx hb dX12_findPlan_70 rfl (lv_at hl 1 rfl) ?_
                refine lv_iload_n hx hb dX12_findPlan_71 rfl (lv_at hl 3 rfl) ?_
                refine lv_ishr hx hb dX12_findPlan_72 ?_
                refine lv_topi (fun x_84 ex_84 => ?_)
                refine lv_iconst (v := 1) hx hb dX12_findPlan_73 (by decide) ?_
                refine lv_iand hx hb dX12_findPlan_74 ?_
                refine lv_topi (fun x_85 ex_85 => ?_)
                have hx_85 := z_and (x := x_84) (zk (x := 1) 1 rfl) (by omega)
                rw [← ex_85] at hx_85
                have hst := pc_step (p := p0) (i := i3) (by omega) (by omega) (by omega) ex_84 ex_85
                have hle := pcI_le (p := p0) (n := i3.toInt + 1) (by omega) (by omega)
                have hnn := pcI_nn (p := p0) (n := i3.toInt)
                refine lv_if_ne (tgt := 81) hx hb dX12_findPlan_75 (by decide) (fun c_86 => ?_) (fun c_86 => ?_)
                · have nc_86 := z_ne rfl (zk (x := 0) 0 rfl) c_86
                  refine lv_aload_n hx hb dX12_findPlan_81 rfl (lv_at hl 0 rfl) ?_
                  refine lv_iload_n hx hb dX12_findPlan_82 rfl (lv_at hl 3 rfl) ?_
                  have hFc := tw_free hF hS hA
                  refine va_calli (va_runV (As := [.int i3]) (rest := []) ⟨hx, hb, hml, hown, hts⟩ (m_waits l dC dI ad av H.size a k τ ln y_L62 g_L62 u i3 hI (by omega) (by omega) hW) (cwV 1 hts (gi_4 (List.mem_cons_of_mem _ (List.mem_append_left _ (List.mem_of_getElem? (i := 18) rfl))) (List.mem_cons_of_mem _ (List.mem_append_left _ (List.mem_of_getElem? (i := 19) rfl))) (List.mem_cons_of_mem _ (List.mem_append_left _ (List.mem_of_getElem? (i := 20) rfl))) (List.mem_cons_of_mem _ (List.mem_append_left _ (List.mem_of_getElem? (i := 3) rfl))) (fun _ hh => (List.mem_cons_of_mem _ (List.mem_append_right _ (List.mem_append_right _ (List.mem_append_right _ (List.mem_append_right _ (List.mem_append_right _ (List.mem_append_right _ (List.mem_append_left _ hh))))))))) gd_m_waits) rfl rfl rfl (by decide +kernel) ⟨Nat.le_of_ble_eq_true rfl, Nat.le_of_ble_eq_true rfl⟩) ⟨pw_blind, tw_recv hK hT (fx_50 hX) (by decide) cl_e60 rfl, pw_use hT hK hFc hS hM⟩ rfl rfl hl.1 rfl (lv_room (Nat.le_of_ble_eq_true rfl)) dX12_findPlan_83 ⟨Nat.le_of_ble_eq_true rfl, Nat.le_of_ble_eq_true rfl⟩) hS (fun q _ h => hFc q h) hFc (fun r0 r_87 t H locs ht hvm hw hB hz1 hk1 hS => ?_)
                  refine W.widen (k := 0) (n := 0) (Nat.le_of_ble_eq_true rfl) (Nat.le_of_ble_eq_true rfl) ?_
                  clear hvm hz1 hk1
                  subst hw
                  rcases hB with ⟨hre, hT⟩ | ⟨hre, hT⟩
                  · refine lq_top (v := 1) hre ?_
                    rw [ht] at hT
                    refine lv_if_ne (tgt := 91) hx hb dX12_findPlan_86 (by decide) (fun c_88 => ?_) (fun c_88 => absurd c_88 (by decide))
                    refine lv_aload_n hx hb dX12_findPlan_91 rfl (lv_at hl 0 rfl) ?_
                    refine tw_get (D := (dC, dI)) (v := .ref (a 100)) (C := RX12) (T := TX12) (N := 58) hx hb hts (fun _ hh => (List.mem_cons_of_mem _ (List.mem_append_right _ (List.mem_append_left _ hh)))) hown hK hT (fx_50 hX) (by decide) cl_e60 rfl 49 (by decide) (hts (.fieldLink RX12 123 "TypingPoolModel" "planPieces" "[I") (List.mem_cons_of_mem _ (List.mem_append_left _ (List.mem_of_getElem? (i := 21) rfl)))) (fun _ h9 => h9) rfl dX12_findPlan_92 ?_
                    refine lv_aload_n hx hb dX12_findPlan_95 rfl (lv_at hl 0 rfl) ?_
                    refine lv_dup hx hb dX12_findPlan_96 rfl ?_
                    refine tw_get (D := (dC, dI)) (v := .int (y_L62 (a 50) 51)) (C := RX12) (T := TX12) (N := 58) hx hb hts (fun _ hh => (List.mem_cons_of_mem _ (List.mem_append_right _ (List.mem_append_left _ hh)))) hown hK hT (fx_50 hX) (by decide) cl_e60 rfl 51 (by decide) (hts (.fieldLink RX12 349 "TypingPoolModel" "planPieceMany" "I") (List.mem_cons_of_mem _ (List.mem_append_left _ (List.mem_of_getElem? (i := 7) rfl)))) (fun _ h9 => h9) rfl dX12_findPlan_97 ?_
                    refine lv_dup_x1 hx hb dX12_findPlan_100 rfl rfl ?_
                    refine lv_iconst (v := 1) hx hb dX12_findPlan_101 (by decide) ?_
                    refine lv_iadd hx hb dX12_findPlan_102 ?_
                    refine lv_topi (fun x_89 ex_89 => ?_)
                    have hx_89 := z_add ex_89 rfl (zk (x := 1) 1 rfl) (by omega) (by omega)
                    refine tw_put (D := (dC, dI)) (x := x_89) (ty := .int) (C := RX12) (T := TX12) (N := 58) hx hb hts (fun _ hh => (List.mem_cons_of_mem _ (List.mem_append_right _ (List.mem_append_left _ hh)))) tyX12 tyX12_ok nmX12 hown hK hT hF hS (fx_50 hX) (by decide) cl_e60 rfl 51 (by decide) (hts (.fieldLink RX12 349 "TypingPoolModel" "planPieceMany" "I") (List.mem_cons_of_mem _ (List.mem_append_left _ (List.mem_of_getElem? (i := 7) rfl)))) (fun _ h9 => h9) rfl (tyX12_ok 51 (by decide)) rfl rfl (Nat.le_of_ble_eq_true rfl) rfl dX12_findPlan_103 (fun H locs hT hS => ?_)
                    obtain ⟨y_90, hy_90, hT⟩ : ∃ z : Nat → Nat → Int32, z = up2 y_L62 (a 50) 51 x_89 ∧ tw (dC, dI) a k τ ln z g_L62 H := ⟨_, rfl, hT⟩
                    have hG : ag τ [60, 102, 109, 110, 111, 114, 115] y y_90 := by rw [hy_90]; exact hG.up (fx_50 hX) (by decide)
                    have ha_91 : y_90 (a 100) = y_L62 (a 100) := (show y_90 (a 100) = y_L62 (a 100) from by rw [hy_90]; exact up2_o (kd_ne (fx_100 hX) (fx_50 hX) (by decide))).trans rfl
                    have ha_92 : y_90 (a 101) = y_L62 (a 101) := (show y_90 (a 101) = y_L62 (a 101) from by rw [hy_90]; exact up2_o (kd_ne (fx_101 hX) (fx_50 hX) (by decide))).trans rfl
                    have : (y_90 (a 50) 51).toInt = x_89.toInt := (congrArg Int32.toInt (show y_90 (a 50) 51 = x_89 from by rw [hy_90]; exact up2_i)).trans rfl
                    have : (y_90 (a 50) 52).toInt = (y_L62 (a 50) 52).toInt := by rw [hy_90, up2_e (by decide)]
                    have hW : IW (u 1) (u 2) (u 9) (y_90 (a 89)) := by rw [hy_90, up2_o (kd_ne (fx_89 hX) (fx_50 hX) (by decide))]; exact hW
                    have hTH : vb 38408 0 4800 (y_90 (a 99)) := by rw [hy_90, up2_o (kd_ne (fx_99 hX) (fx_50 hX) (by decide))]; exact hTH
                    have hI := hI.put (f := 51) (x := x_89) (by decide)
                    rw [← hy_90] at hI
                    clear hc_29
                    refine lv_iload_n hx hb dX12_findPlan_106 rfl (lv_at hl 3 rfl) ?_
                    refine tw_iast hx hb hK hT hF hS 0 (fx_100 hX) (by decide) (fun _ => cl_e110) rfl (z_in rfl (by omega) (by omega)) dX12_findPlan_107 (fun H locs hT hS => ?_)
                    obtain ⟨y_93, hy_93, hT⟩ : ∃ z : Nat → Nat → Int32, z = up2 y_90 (a 100) ((y_L62 (a 50) 51).toNatClampNeg) i3 ∧ tw (dC, dI) a k τ ln z g_L62 H := ⟨_, rfl, hT⟩
                    have hG : ag τ [60, 102, 109, 110, 111, 114, 115] y y_93 := by rw [hy_93]; exact hG.up (fx_100 hX) (by decide)
                    have ha_94 : y_93 (a 101) = y_L62 (a 101) := (show y_93 (a 101) = y_90 (a 101) from by rw [hy_93]; exact up2_o (kd_ne (fx_101 hX) (fx_100 hX) (by decide))).trans ha_92
                    have : (y_93 (a 50) 51).toInt = (y_90 (a 50) 51).toInt := by rw [hy_93, up2_o (kd_ne (fx_50 hX) (fx_100 hX) (by decide))]
                    have : (y_93 (a 50) 52).toInt = (y_90 (a 50) 52).toInt := by rw [hy_93, up2_o (kd_ne (fx_50 hX) (fx_100 hX) (by decide))]
                    have hW : IW (u 1) (u 2) (u 9) (y_93 (a 89)) := by rw [hy_93, up2_o (kd_ne (fx_89 hX) (fx_100 hX) (by decide))]; exact hW
                    have hTH : vb 38408 0 4800 (y_93 (a 99)) := by rw [hy_93, up2_o (kd_ne (fx_99 hX) (fx_100 hX) (by decide))]; exact hTH
                    have hI := hI.ag (S := [110]) (y' := y_93) (by rw [hy_93]; exact ag.one (fx_100 hX)) (by decide)
                    obtain ⟨x_95, ex_95⟩ : ∃ y : Int32, y = i3 + Int32.ofInt 1 := ⟨_, rfl⟩
                    have hx_95 := z_add ex_95 rfl (zk (x := Int32.ofInt 1) 1 rfl) (by omega) (by omega)
                    refine lv_iinc (v := x_95) (lv' := [(3, .int x_95), (0, .ref (a 50)), (1, .int p0), (2, .int p1)]) hx hb dX12_findPlan_108 hl (k := 3) rfl ex_95.symm (by decide) rfl (fun ls hl => ?_)
                    refine lv_goto (tgt := 62) hx hb dX12_findPlan_111 (by decide) ?_
                    exact ih_62  x_95 y_93 g_L62 H _ ls (by omega) hG hI hGg hW hTH (by omega) (by omega) (by rw [hx_95]; omega) (by omega) (vl_step (y := y_90) (show vl _ _ (y_90 (a 100)) from by rw [hy_90, up2_o (kd_ne (fx_100 hX) (fx_50 hX) (by decide))]; exact hi62_4) hy_93 rfl (by omega) (by omega) rfl (by omega) (by omega) rfl (by omega)) hT hS (lv_sub hl [1, 2, 3, 0] rfl)
                  · refine lq_top (v := 0) hre ?_
                    rw [ht] at hT
                    refine lv_if_ne (tgt := 91) hx hb dX12_findPlan_86 (by decide) (fun c_96 => absurd c_96 (by decide)) (fun c_96 => ?_)
                    refine lv_iconst (v := (-1)) hx hb dX12_findPlan_89 (by decide) ?_
                    have hrv : (-1 : Int32).toInt = (-1) := (zk (x := (-1)) (-1) rfl)
                    exact W.iret (v := (-1)) hx hb hr (fun t ht hW9 => ⟨⟨(-1), (-1), rfl, rfl, Or.inr (Or.inl ⟨y_L62, g_L62, rfl, hG, hGg, hI, hTH, tw_at ht hT⟩)⟩, hS.F ht⟩) hS.2.2 dX12_findPlan_90
                · have nc_86 := z_eq rfl (zk (x := 0) 0 rfl) c_86
                  refine lv_goto (tgt := 108) hx hb dX12_findPlan_78 (by decide) ?_
                  obtain ⟨x_97, ex_97⟩ : ∃ y : Int32, y = i3 + Int32.ofInt 1 := ⟨_, rfl⟩
                  have hx_97 := z_add ex_97 rfl (zk (x := Int32.ofInt 1) 1 rfl) (by omega) (by omega)
                  refine lv_iinc (v := x_97) (lv' := [(3, .int x_97), (0, .ref (a 50)), (1, .int p0), (2, .int p1)]) hx hb dX12_findPlan_108 hl (k := 3) rfl ex_97.symm (by decide) rfl (fun ls hl => ?_)
                  refine lv_goto (tgt := 62) hx hb dX12_findPlan_111 (by decide) ?_
                  exact ih_62  x_97 y_L62 g_L62 H _ ls (by omega) hG hI hGg hW hTH (by omega) (by omega) (by rw [hx_97]; omega) (by omega) (vl_mv hi62_4 (by omega) rfl) hT hS (lv_sub hl [1, 2, 3, 0] rfl)
          have hp_98 : (0 : Int32).toInt = 0 := (zk (x := 0) 0 rfl)
          exact loop_62 _ (0 : Int32) y_28 g H _ ls (Nat.lt_succ_self _) hG hI hGg hW hTH (by omega) (by omega) (by rw [pcI_0 (p := p0) (n := (0 : Int32).toInt) rfl]; omega) (by omega) (vl_0 (by omega)) hT hS (lv_sub hl [1, 2, 3, 0] rfl)
        · have nc_26 := z_nle rfl (zk (x := 3) 3 rfl) c_26
          refine lv_iconst (v := (-1)) hx hb dX12_findPlan_48 (by decide) ?_
          have hrv : (-1 : Int32).toInt = (-1) := (zk (x := (-1)) (-1) rfl)
          exact W.iret (v := (-1)) hx hb hr (fun t ht hW9 => ⟨⟨(-1), (-1), rfl, rfl, Or.inr (Or.inl ⟨y, g, rfl, hG, hGg, hI, hTH, tw_at ht hT⟩)⟩, hS.F ht⟩) hS.2.2 dX12_findPlan_49
    · refine lq_top (v := 0) hre ?_
      rw [ht] at hT
      try simp only [hp_13] at hf_17
      clear hp_13
      refine lv_if_eq (tgt := 48) hx hb dX12_findPlan_29 (by decide) (fun c_99 => ?_) (fun c_99 => absurd c_99 (by decide))
      refine lv_iconst (v := (-1)) hx hb dX12_findPlan_48 (by decide) ?_
      have hrv : (-1 : Int32).toInt = (-1) := (zk (x := (-1)) (-1) rfl)
      exact W.iret (v := (-1)) hx hb hr (fun t ht hW9 => ⟨⟨(-1), (-1), rfl, rfl, Or.inr (Or.inl ⟨y, g, rfl, hG, hGg, hI, hTH, tw_at ht hT⟩)⟩, hS.F ht⟩) hS.2.2 dX12_findPlan_49
  · refine lq_top (v := 0) hre ?_
    rw [ht] at hT
    try simp only [hp_4] at hf_8
    clear hp_4
    refine lv_if_eq (tgt := 48) hx hb dX12_findPlan_13 (by decide) (fun c_100 => ?_) (fun c_100 => absurd c_100 (by decide))
    refine lv_iconst (v := (-1)) hx hb dX12_findPlan_48 (by decide) ?_
    have hrv : (-1 : Int32).toInt = (-1) := (zk (x := (-1)) (-1) rfl)
    exact W.iret (v := (-1)) hx hb hr (fun t ht hW9 => ⟨⟨(-1), (-1), rfl, rfl, Or.inr (Or.inl ⟨y, g, rfl, hG, hGg, hI, hTH, tw_at ht hT⟩)⟩, hS.F ht⟩) hS.2.2 dX12_findPlan_49
def wo_m_plan : List Cond := [.fieldLink RX12 139 "TypingPoolModel" "thrown" "I", .methodLink RX12 376 yX12_findPlan, .instanceMethod yX12_findPlan, .selects RX12 yX12_findPlan yX12_findPlan, .initialized RX12, .fieldLink RX12 349 "TypingPoolModel" "planPieceMany" "I", .fieldLink RX12 342 "TypingPoolModel" "planHandMany" "I", .fieldLink RX12 327 "TypingPoolModel" "rowMany" "I", .fieldLink RX12 370 "TypingPoolModel" "bestLate" "I", .fieldLink RX12 104 "TypingPoolModel" "row" "[I", .fieldLink RX12 132 "TypingPoolModel" "bestRow" "[I"]
def wm_m_plan : List Cond := .code yX12_plan cX12_plan 5 (some .int) :: (wo_m_plan ++ (wsX120 ++ (wm_m_findPlan ++ ([] : List Cond))))
theorem gd_m_plan : ∀ w ∈ wm_m_plan, goodWord w = true := gd_c rfl (gd_a (by decide) (gd_a gd_wsX120 (gd_a gd_m_findPlan gd_nil)))
set_option maxRecDepth 20000 in
theorem im_m_plan : ∀ w ∈ wm_m_plan, w ∈ lw_tbl := im_c (in_r [.code yX12_plan cX12_plan 5 (some .int)] [1687] (by decide +kernel)) (in_app (in_r wo_m_plan [1278, 1688, 1690, 62, 86, 1292, 1293, 1277, 1296, 1276, 1295] (by decide +kernel)) (in_app im_wsX120 (in_app im_m_findPlan im_nil)))
set_option maxHeartbeats 4000000 in
set_option maxRecDepth 100000 in
theorem m_plan (l : Launch) (dC : Nat → ClassId) (dI : Nat → Nat → Nat) (ad av : Nat → Nat) (sz : Nat) (a : Nat → Nat) (k : Nat → ClassId) (τ ln : Nat → Nat) (y : Nat → Nat → Int32) (g : Nat → Nat → Option Nat) (u : Nat → Int) (p0 : Int32) (p1 : Int32) (hI : IM a u τ y) (hth : vb 38408 0 4800 (y (a 99))) (hW : IW (u 1) (u 2) (u 9) (y (a 89))) : Met l yX12_plan wm_m_plan ({ frames := 426, cells := 0, slots := 0, locals := 27640 }) (pw_ ad av (dC, dI) sz [.ref (a 50), .int p0, .int p1] a k τ ln y g) (va_Qi (fun (r u : Int32) => u = r) (fun (r : Int32) (t : State) => (∃ (u' : Nat → Int) (y' : Nat → Nat → Int32) (g' : Nat → Nat → Option Nat), (∀ i, i ∉ ([7] : List Nat) → u' i = u i) ∧ ag τ [60, 102, 109, 110, 111, 114, 115, 96] y y' ∧ agg τ g g' ∧ IM a u' τ y' ∧ vb 38408 0 4800 (y' (a 99)) ∧ tw (dC, dI) a k τ ln y' g' t.heap)) (fr τ sz)) 0 0 (fr τ sz) := by
  refine Met.ofW (cc := cX12_plan) (maxL := 5) (ret := (some .int)) (by decide) rfl ?_
  intro p e s m args below meth c s₁ B hml hv
  obtain ⟨rfl, hsz, hT, hK, hM⟩ := hv
  have hx := B.exec
  have hb := B.bytes
  have hr := B.returns
  have hts := atoms_spec (ws := wm_m_plan) B.pre
  have hown : s.vm.findClass RX12 = some m.cls := findClass_of_methodNamed B.named
  have hlocks := B.notSynchronized
  subst hsz
  generalize hAe : fr τ s.heap.size = A at hM ⊢
  have hA : ∀ q : Nat, s.heap.size ≤ q → A q := fun q h => by rw [← hAe]; exact Or.inr h
  have hF : ∀ q, τ q ≠ 0 → A q := fun q h => by rw [← hAe]; exact Or.inl h
  have hS : va_S A s.heap s.heap [] := va_S.rf
  have hX := hI.1
  have hR := im_r hI
  have hG : ag τ [60, 102, 109, 110, 111, 114, 115, 96] y y := ag.rf
  have hGg : agg τ g g := agg.rf
  have hl := lv_entry ([.ref (a 50), .int p0, .int p1]) (n := 5) (Nat.le_of_ble_eq_true rfl)
  rw [lg_entry_eq]
  generalize (lg_sl ([.ref (a 50), .int p0, .int p1]) ++ List.replicate (5 - (lg_sl ([.ref (a 50), .int p0, .int p1])).length) Slot.unset).toArray = ls at hl ⊢
  have hl : lv_has ls 5 [(0, .ref (a 50)), (1, .int p0), (2, .int p1)] := hl
  have hTH := hth
  refine lv_aload_n hx hb dX12_plan_0 rfl (lv_at hl 0 rfl) ?_
  refine lv_iconst (v := 0) hx hb dX12_plan_1 (by decide) ?_
  refine tw_put (D := (dC, dI)) (x := 0) (ty := .int) (C := RX12) (T := TX12) (N := 58) hx hb hts (fun _ hh => (List.mem_cons_of_mem _ (List.mem_append_right _ (List.mem_append_left _ hh)))) tyX12 tyX12_ok nmX12 hown hK hT hF hS (fx_50 hX) (by decide) cl_e60 rfl 37 (by decide) (hts (.fieldLink RX12 139 "TypingPoolModel" "thrown" "I") (List.mem_cons_of_mem _ (List.mem_append_left _ (List.mem_of_getElem? (i := 0) rfl)))) (fun _ h9 => h9) rfl (tyX12_ok 37 (by decide)) rfl rfl (Nat.le_of_ble_eq_true rfl) rfl dX12_plan_2 (fun H locs hT hS => ?_)
  obtain ⟨y_1, hy_1, hT⟩ : ∃ z : Nat → Nat → Int32, z = up2 y (a 50) 37 (0 : Int32) ∧ tw (dC, dI) a k τ ln z g H := ⟨_, rfl, hT⟩
  have hG : ag τ [60, 102, 109, 110, 111, 114, 115, 96] y y_1 := by rw [hy_1]; exact hG.up (fx_50 hX) (by decide)
  have : (y_1 (a 50) 51).toInt = (y (a 50) 51).toInt := by rw [hy_1, up2_e (by decide)]
  have : (y_1 (a 50) 52).toInt = (y (a 50) 52).toInt := by rw [hy_1, up2_e (by decide)]
  have hW : IW (u 1) (u 2) (u 9) (y_1 (a 89)) := by rw [hy_1, up2_o (kd_ne (fx_89 hX) (fx_50 hX) (by decide))]; exact hW
  have hTH : vb 38408 0 4800 (y_1 (a 99)) := by rw [hy_1, up2_o (kd_ne (fx_99 hX) (fx_50 hX) (by decide))]; exact hTH
  have hI := hI.put (f := 37) (x := (0 : Int32)) (by decide)
  rw [← hy_1] at hI
  refine lv_aload_n hx hb dX12_plan_5 rfl (lv_at hl 0 rfl) ?_
  refine lv_iload_n hx hb dX12_plan_6 rfl (lv_at hl 1 rfl) ?_
  refine lv_iload_n hx hb dX12_plan_7 rfl (lv_at hl 2 rfl) ?_
  have hFc := tw_free hF hS hA
  refine va_calli (va_runV (As := [.int p0, .int p1]) (rest := []) ⟨hx, hb, hml, hown, hts⟩ (m_findPlan l dC dI ad av H.size a k τ ln y_1 g u p0 p1 hI hTH hW) (cwV 2 hts (gi_4 (List.mem_cons_of_mem _ (List.mem_append_left _ (List.mem_of_getElem? (i := 1) rfl))) (List.mem_cons_of_mem _ (List.mem_append_left _ (List.mem_of_getElem? (i := 2) rfl))) (List.mem_cons_of_mem _ (List.mem_append_left _ (List.mem_of_getElem? (i := 3) rfl))) (List.mem_cons_of_mem _ (List.mem_append_left _ (List.mem_of_getElem? (i := 4) rfl))) (fun _ hh => (List.mem_cons_of_mem _ (List.mem_append_right _ (List.mem_append_right _ (List.mem_append_left _ hh))))) gd_m_findPlan) rfl rfl rfl (by decide +kernel) ⟨Nat.le_of_ble_eq_true rfl, Nat.le_of_ble_eq_true rfl⟩) ⟨pw_blind, tw_recv hK hT (fx_50 hX) (by decide) cl_e60 rfl, pw_use hT hK hFc hS hM⟩ rfl rfl hl.1 rfl (lv_room (Nat.le_of_ble_eq_true rfl)) dX12_plan_8 ⟨Nat.le_of_ble_eq_true rfl, Nat.le_of_ble_eq_true rfl⟩) hS (fun q _ h => hFc q h) hFc (fun r0 r_2 t H locs ht hvm hw hB hz1 hk1 hS => ?_)
  refine W.widen (k := 0) (n := 0) (Nat.le_of_ble_eq_true rfl) (Nat.le_of_ble_eq_true rfl) ?_
  clear hvm hz1 hk1
  subst hw
  rcases hB with ⟨y_3, g_4, hre, hgy_3, hggg_4, hI, hf_5, hf_6, hT⟩ | ⟨y_7, g_8, hre, hgy_7, hggg_8, hI, hf_9, hT⟩ | ⟨y_10, g_11, hre, hgy_10, hggg_11, hI, hf_12, hT⟩
  · refine lq_top (v := 0) hre ?_
    rw [ht] at hT
    have hG := hG.tr hgy_3 (by decide)
    have hGg := hGg.tr hggg_4
    have hW : IW (u 1) (u 2) (u 9) (y_3 (a 89)) := by rw [hgy_3.at (fx_89 hX) (by decide)]; exact hW
    have hTH := hf_6
    refine lv_istore_n (lv' := [(3, .int 0), (0, .ref (a 50)), (1, .int p0), (2, .int p1)]) hx hb dX12_plan_11 rfl hl (by decide) rfl (fun ls hl => ?_)
    refine lv_iload_n hx hb dX12_plan_12 rfl (lv_at hl 0 rfl) ?_
    refine lv_if_ge (tgt := 18) hx hb dX12_plan_13 (by decide) (fun c_13 => ?_) (fun c_13 => absurd c_13 (by decide))
    refine lv_aload_n hx hb dX12_plan_18 rfl (lv_at hl 1 rfl) ?_
    refine lv_aload_n hx hb dX12_plan_19 rfl (lv_at hl 1 rfl) ?_
    refine tw_get (D := (dC, dI)) (v := .int (y_3 (a 50) 51)) (C := RX12) (T := TX12) (N := 58) hx hb hts (fun _ hh => (List.mem_cons_of_mem _ (List.mem_append_right _ (List.mem_append_left _ hh)))) hown hK hT (fx_50 hX) (by decide) cl_e60 rfl 51 (by decide) (hts (.fieldLink RX12 349 "TypingPoolModel" "planPieceMany" "I") (List.mem_cons_of_mem _ (List.mem_append_left _ (List.mem_of_getElem? (i := 5) rfl)))) (fun _ h9 => h9) rfl dX12_plan_20 ?_
    refine lv_aload_n hx hb dX12_plan_23 rfl (lv_at hl 1 rfl) ?_
    refine tw_get (D := (dC, dI)) (v := .int (y_3 (a 50) 52)) (C := RX12) (T := TX12) (N := 58) hx hb hts (fun _ hh => (List.mem_cons_of_mem _ (List.mem_append_right _ (List.mem_append_left _ hh)))) hown hK hT (fx_50 hX) (by decide) cl_e60 rfl 52 (by decide) (hts (.fieldLink RX12 342 "TypingPoolModel" "planHandMany" "I") (List.mem_cons_of_mem _ (List.mem_append_left _ (List.mem_of_getElem? (i := 6) rfl)))) (fun _ h9 => h9) rfl dX12_plan_24 ?_
    refine lv_iadd hx hb dX12_plan_27 ?_
    refine lv_topi (fun x_14 ex_14 => ?_)
    have hx_14 := z_add ex_14 rfl rfl (by omega) (by omega)
    refine tw_put (D := (dC, dI)) (x := x_14) (ty := .int) (C := RX12) (T := TX12) (N := 58) hx hb hts (fun _ hh => (List.mem_cons_of_mem _ (List.mem_append_right _ (List.mem_append_left _ hh)))) tyX12 tyX12_ok nmX12 hown hK hT hF hS (fx_50 hX) (by decide) cl_e60 rfl 36 (by decide) (hts (.fieldLink RX12 327 "TypingPoolModel" "rowMany" "I") (List.mem_cons_of_mem _ (List.mem_append_left _ (List.mem_of_getElem? (i := 7) rfl)))) (fun _ h9 => h9) rfl (tyX12_ok 36 (by decide)) rfl rfl (Nat.le_of_ble_eq_true rfl) rfl dX12_plan_28 (fun H locs hT hS => ?_)
    obtain ⟨y_15, hy_15, hT⟩ : ∃ z : Nat → Nat → Int32, z = up2 y_3 (a 50) 36 x_14 ∧ tw (dC, dI) a k τ ln z g_4 H := ⟨_, rfl, hT⟩
    have hG : ag τ [60, 102, 109, 110, 111, 114, 115, 96] y y_15 := by rw [hy_15]; exact hG.up (fx_50 hX) (by decide)
    have : (y_15 (a 50) 51).toInt = (y_3 (a 50) 51).toInt := by rw [hy_15, up2_e (by decide)]
    have : (y_15 (a 50) 52).toInt = (y_3 (a 50) 52).toInt := by rw [hy_15, up2_e (by decide)]
    have hW : IW (u 1) (u 2) (u 9) (y_15 (a 89)) := by rw [hy_15, up2_o (kd_ne (fx_89 hX) (fx_50 hX) (by decide))]; exact hW
    have hTH : vb 38408 0 4800 (y_15 (a 99)) := by rw [hy_15, up2_o (kd_ne (fx_99 hX) (fx_50 hX) (by decide))]; exact hTH
    have hp_16 : x_14.toInt = x_14.toInt := rfl
    have hI := hI.set7 hp_16 (by omega) (by omega)
    rw [← hy_15] at hI
    have hW : IW ((upc u 7 x_14.toInt) 1) ((upc u 7 x_14.toInt) 2) ((upc u 7 x_14.toInt) 9) (y_15 (a 89)) := iw_u hW (by simp [upc]) (by simp [upc]) (by simp [upc])
    refine lv_iconst (v := 0) hx hb dX12_plan_31 (by decide) ?_
    refine lv_istore (lv' := [(4, .int 0), (3, .int 0), (0, .ref (a 50)), (1, .int p0), (2, .int p1)]) hx hb dX12_plan_32 hl (by decide) rfl (fun ls hl => ?_)
    have loop_34 : ∀ (n : Nat) (i4 : Int32) (y_L34 : Nat → Nat → Int32) (g_L34 : Nat → Nat → Option Nat) (H : Heap) (locs : List Loc) (ls : Array Slot), (x_14.toInt - i4.toInt).toNat < n → ag τ [60, 102, 109, 110, 111, 114, 115, 96] y y_L34 → IM a (upc u 7 x_14.toInt) τ y_L34 → agg τ g g_L34 → IW ((upc u 7 x_14.toInt) 1) ((upc u 7 x_14.toInt) 2) ((upc u 7 x_14.toInt) 9) (y_L34 (a 89)) → vb 38408 0 4800 (y_L34 (a 99)) → 0 ≤ i4.toInt → i4.toInt ≤ x_14.toInt → tw (dC, dI) a k τ ln y_L34 g_L34 H → va_S A s.heap H locs → lv_has ls 5 [(0, .ref (a 50)), (1, .int p0), (2, .int p1), (3, .int 0), (4, .int i4)] → W p l e (headSpec wm_m_plan ({ frames := 426, cells := 0, slots := 0, locals := 27640 })).room s m ([.ref (a 50), .int p0, .int p1] : List Value).toArray below meth c H locs 0 0 (MQ below (va_Qi (fun (r u : Int32) => u = r) (fun (r : Int32) (t : State) => (∃ (u' : Nat → Int) (y' : Nat → Nat → Int32) (g' : Nat → Nat → Option Nat), (∀ i, i ∉ ([7] : List Nat) → u' i = u i) ∧ ag τ [60, 102, 109, 110, 111, 114, 115, 96] y y' ∧ agg τ g g' ∧ IM a u' τ y' ∧ vb 38408 0 4800 (y' (a 99)) ∧ tw (dC, dI) a k τ ln y' g' t.heap)) A) ([.ref (a 50), .int p0, .int p1] : List Value).toArray s 0 0 A) (F0 m 34 ls []) := by
      intro n
      induction n with
      | zero => intro i4 y_L34 g_L34 H locs ls hlt; exact absurd hlt (Nat.not_lt_zero _)
      | succ n ih_34 =>
        intro i4 y_L34 g_L34 H locs ls hlt hG hI hGg hW hTH hi34_0 hi34_1 hT hS hl
        refine lv_iload hx hb dX12_plan_34 (lv_at hl 4 rfl) ?_
        refine lv_aload_n hx hb dX12_plan_36 rfl (lv_at hl 0 rfl) ?_
        refine tw_get (D := (dC, dI)) (v := .int (y_L34 (a 50) 36)) (C := RX12) (T := TX12) (N := 58) hx hb hts (fun _ hh => (List.mem_cons_of_mem _ (List.mem_append_right _ (List.mem_append_left _ hh)))) hown hK hT (fx_50 hX) (by decide) cl_e60 rfl 36 (by decide) (hts (.fieldLink RX12 327 "TypingPoolModel" "rowMany" "I") (List.mem_cons_of_mem _ (List.mem_append_left _ (List.mem_of_getElem? (i := 7) rfl)))) (fun _ h9 => h9) rfl dX12_plan_37 ?_
        have hc_17 : (y_L34 (a 50) 36).toInt = x_14.toInt := by rw [im_7 hI]; simp [upc]
        refine lv_icmp_ge (tgt := 63) hx hb dX12_plan_40 (by decide) (fun c_18 => ?_) (fun c_18 => ?_)
        · have nc_18 := z_le hc_17 rfl c_18
          refine lv_aload_n hx hb dX12_plan_63 rfl (lv_at hl 0 rfl) ?_
          refine tw_get (D := (dC, dI)) (v := .int (y_L34 (a 50) 55)) (C := RX12) (T := TX12) (N := 58) hx hb hts (fun _ hh => (List.mem_cons_of_mem _ (List.mem_append_right _ (List.mem_append_left _ hh)))) hown hK hT (fx_50 hX) (by decide) cl_e60 rfl 55 (by decide) (hts (.fieldLink RX12 370 "TypingPoolModel" "bestLate" "I") (List.mem_cons_of_mem _ (List.mem_append_left _ (List.mem_of_getElem? (i := 8) rfl)))) (fun _ h9 => h9) rfl dX12_plan_64 ?_
          have hrv : (y_L34 (a 50) 55).toInt = (y_L34 (a 50) 55).toInt := rfl
          exact W.iret (v := y_L34 (a 50) 55) hx hb hr (fun t ht hW9 => ⟨⟨y_L34 (a 50) 55, y_L34 (a 50) 55, rfl, rfl, ⟨(upc u 7 x_14.toInt), y_L34, g_L34, (by intro i hi; simp only [List.mem_cons, List.not_mem_nil, or_false, not_or] at hi; rw [upc_o (by omega)]), hG, hGg, hI, hTH, tw_at ht hT⟩⟩, hS.F ht⟩) hS.2.2 dX12_plan_67
        · have nc_18 := z_nle hc_17 rfl c_18
          refine lv_aload_n hx hb dX12_plan_43 rfl (lv_at hl 0 rfl) ?_
          refine tw_get (D := (dC, dI)) (v := .ref (a 86)) (C := RX12) (T := TX12) (N := 58) hx hb hts (fun _ hh => (List.mem_cons_of_mem _ (List.mem_append_right _ (List.mem_append_left _ hh)))) hown hK hT (fx_50 hX) (by decide) cl_e60 rfl 35 (by decide) (hts (.fieldLink RX12 104 "TypingPoolModel" "row" "[I") (List.mem_cons_of_mem _ (List.mem_append_left _ (List.mem_of_getElem? (i := 9) rfl)))) (fun _ h9 => h9) rfl dX12_plan_44 ?_
          refine lv_iload hx hb dX12_plan_47 (lv_at hl 4 rfl) ?_
          refine lv_aload_n hx hb dX12_plan_49 rfl (lv_at hl 0 rfl) ?_
          refine tw_get (D := (dC, dI)) (v := .ref (a 105)) (C := RX12) (T := TX12) (N := 58) hx hb hts (fun _ hh => (List.mem_cons_of_mem _ (List.mem_append_right _ (List.mem_append_left _ hh)))) hown hK hT (fx_50 hX) (by decide) cl_e60 rfl 54 (by decide) (hts (.fieldLink RX12 132 "TypingPoolModel" "bestRow" "[I") (List.mem_cons_of_mem _ (List.mem_append_left _ (List.mem_of_getElem? (i := 10) rfl)))) (fun _ h9 => h9) rfl dX12_plan_50 ?_
          refine lv_iload hx hb dX12_plan_53 (lv_at hl 4 rfl) ?_
          refine tw_iald hx hb hK hT 0 (fx_105 hX) (by decide) cl_e115 rfl (z_in rfl (by omega) (by omega)) dX12_plan_55 ?_
          refine tw_iast hx hb hK hT hF hS 0 (fx_86 hX) (by decide) (fun _ => cl_e96) rfl (z_in rfl (by omega) (by omega)) dX12_plan_56 (fun H locs hT hS => ?_)
          obtain ⟨y_19, hy_19, hT⟩ : ∃ z : Nat → Nat → Int32, z = up2 y_L34 (a 86) i4.toNatClampNeg (y_L34 (a 105) i4.toNatClampNeg) ∧ tw (dC, dI) a k τ ln z g_L34 H := ⟨_, rfl, hT⟩
          have hG : ag τ [60, 102, 109, 110, 111, 114, 115, 96] y y_19 := by rw [hy_19]; exact hG.up (fx_86 hX) (by decide)
          have : (y_19 (a 50) 51).toInt = (y_L34 (a 50) 51).toInt := by rw [hy_19, up2_o (kd_ne (fx_50 hX) (fx_86 hX) (by decide))]
          have : (y_19 (a 50) 52).toInt = (y_L34 (a 50) 52).toInt := by rw [hy_19, up2_o (kd_ne (fx_50 hX) (fx_86 hX) (by decide))]
          have hW : IW ((upc u 7 x_14.toInt) 1) ((upc u 7 x_14.toInt) 2) ((upc u 7 x_14.toInt) 9) (y_19 (a 89)) := by rw [hy_19, up2_o (kd_ne (fx_89 hX) (fx_86 hX) (by decide))]; exact hW
          have hTH : vb 38408 0 4800 (y_19 (a 99)) := by rw [hy_19, up2_o (kd_ne (fx_99 hX) (fx_86 hX) (by decide))]; exact hTH
          have hI := hI.ag (S := [96]) (y' := y_19) (by rw [hy_19]; exact ag.one (fx_86 hX)) (by decide)
          clear hc_17
          obtain ⟨x_20, ex_20⟩ : ∃ y : Int32, y = i4 + Int32.ofInt 1 := ⟨_, rfl⟩
          have hx_20 := z_add ex_20 rfl (zk (x := Int32.ofInt 1) 1 rfl) (by omega) (by omega)
          refine lv_iinc (v := x_20) (lv' := [(4, .int x_20), (0, .ref (a 50)), (1, .int p0), (2, .int p1), (3, .int 0)]) hx hb dX12_plan_57 hl (k := 4) rfl ex_20.symm (by decide) rfl (fun ls hl => ?_)
          refine lv_goto (tgt := 34) hx hb dX12_plan_60 (by decide) ?_
          exact ih_34  x_20 y_19 g_L34 H _ ls (by omega) hG hI hGg hW hTH (by omega) (by omega) hT hS (lv_sub hl [1, 2, 3, 4, 0] rfl)
    have hp_21 : (0 : Int32).toInt = 0 := (zk (x := 0) 0 rfl)
    exact loop_34 _ (0 : Int32) y_15 g_4 H _ ls (Nat.lt_succ_self _) hG hI hGg hW hTH (by omega) (by omega) hT hS (lv_sub hl [2, 3, 4, 1, 0] rfl)
  · refine lq_top (v := (-1)) hre ?_
    rw [ht] at hT
    have hG := hG.tr hgy_7 (by decide)
    have hGg := hGg.tr hggg_8
    have hW : IW (u 1) (u 2) (u 9) (y_7 (a 89)) := by rw [hgy_7.at (fx_89 hX) (by decide)]; exact hW
    have hTH := hf_9
    refine lv_istore_n (lv' := [(3, .int (-1)), (0, .ref (a 50)), (1, .int p0), (2, .int p1)]) hx hb dX12_plan_11 rfl hl (by decide) rfl (fun ls hl => ?_)
    refine lv_iload_n hx hb dX12_plan_12 rfl (lv_at hl 0 rfl) ?_
    refine lv_if_ge (tgt := 18) hx hb dX12_plan_13 (by decide) (fun c_22 => absurd c_22 (by decide)) (fun c_22 => ?_)
    refine lv_iload_n hx hb dX12_plan_16 rfl (lv_at hl 0 rfl) ?_
    have hrv : (-1 : Int32).toInt = (-1) := (zk (x := (-1)) (-1) rfl)
    exact W.iret (v := (-1)) hx hb hr (fun t ht hW9 => ⟨⟨(-1), (-1), rfl, rfl, ⟨u, y_7, g_8, (fun _ _ => rfl), hG, hGg, hI, hTH, tw_at ht hT⟩⟩, hS.F ht⟩) hS.2.2 dX12_plan_17
  · refine lq_top (v := (-2)) hre ?_
    rw [ht] at hT
    have hG := hG.tr hgy_10 (by decide)
    have hGg := hGg.tr hggg_11
    have hW : IW (u 1) (u 2) (u 9) (y_10 (a 89)) := by rw [hgy_10.at (fx_89 hX) (by decide)]; exact hW
    have hTH := hf_12
    refine lv_istore_n (lv' := [(3, .int (-2)), (0, .ref (a 50)), (1, .int p0), (2, .int p1)]) hx hb dX12_plan_11 rfl hl (by decide) rfl (fun ls hl => ?_)
    refine lv_iload_n hx hb dX12_plan_12 rfl (lv_at hl 0 rfl) ?_
    refine lv_if_ge (tgt := 18) hx hb dX12_plan_13 (by decide) (fun c_23 => absurd c_23 (by decide)) (fun c_23 => ?_)
    refine lv_iload_n hx hb dX12_plan_16 rfl (lv_at hl 0 rfl) ?_
    have hrv : (-2 : Int32).toInt = (-2) := (zk (x := (-2)) (-2) rfl)
    exact W.iret (v := (-2)) hx hb hr (fun t ht hW9 => ⟨⟨(-2), (-2), rfl, rfl, ⟨u, y_10, g_11, (fun _ _ => rfl), hG, hGg, hI, hTH, tw_at ht hT⟩⟩, hS.F ht⟩) hS.2.2 dX12_plan_17
def wo_m_lateness : List Cond := [.fieldLink RX12 139 "TypingPoolModel" "thrown" "I", .methodLink RX12 376 yX12_findPlan, .instanceMethod yX12_findPlan, .selects RX12 yX12_findPlan yX12_findPlan, .initialized RX12, .fieldLink RX12 373 "TypingPoolModel" "bestSum" "I"]
def wm_m_lateness : List Cond := .code yX12_lateness cX12_lateness 4 (some .int) :: (wo_m_lateness ++ (wsX120 ++ (wm_m_findPlan ++ ([] : List Cond))))
theorem gd_m_lateness : ∀ w ∈ wm_m_lateness, goodWord w = true := gd_c rfl (gd_a (by decide) (gd_a gd_wsX120 (gd_a gd_m_findPlan gd_nil)))
set_option maxRecDepth 20000 in
theorem im_m_lateness : ∀ w ∈ wm_m_lateness, w ∈ lw_tbl := im_c (in_r [.code yX12_lateness cX12_lateness 4 (some .int)] [1714] (by decide +kernel)) (in_app (in_r wo_m_lateness [1278, 1688, 1690, 62, 86, 1297] (by decide +kernel)) (in_app im_wsX120 (in_app im_m_findPlan im_nil)))
set_option maxHeartbeats 4000000 in
set_option maxRecDepth 100000 in
theorem m_lateness (l : Launch) (dC : Nat → ClassId) (dI : Nat → Nat → Nat) (ad av : Nat → Nat) (sz : Nat) (a : Nat → Nat) (k : Nat → ClassId) (τ ln : Nat → Nat) (y : Nat → Nat → Int32) (g : Nat → Nat → Option Nat) (u : Nat → Int) (p0 : Int32) (p1 : Int32) (hI : IM a u τ y) (hth : vb 38408 0 4800 (y (a 99))) (hW : IW (u 1) (u 2) (u 9) (y (a 89))) : Met l yX12_lateness wm_m_lateness ({ frames := 426, cells := 0, slots := 0, locals := 27640 }) (pw_ ad av (dC, dI) sz [.ref (a 50), .int p0, .int p1] a k τ ln y g) (va_Qi (fun (r u : Int32) => u = r) (fun (r : Int32) (t : State) => (∃ (y' : Nat → Nat → Int32) (g' : Nat → Nat → Option Nat), ag τ [60, 102, 109, 110, 111, 114, 115] y y' ∧ agg τ g g' ∧ IM a u τ y' ∧ vb 38408 0 4800 (y' (a 99)) ∧ tw (dC, dI) a k τ ln y' g' t.heap)) (fr τ sz)) 0 0 (fr τ sz) := by
  refine Met.ofW (cc := cX12_lateness) (maxL := 4) (ret := (some .int)) (by decide) rfl ?_
  intro p e s m args below meth c s₁ B hml hv
  obtain ⟨rfl, hsz, hT, hK, hM⟩ := hv
  have hx := B.exec
  have hb := B.bytes
  have hr := B.returns
  have hts := atoms_spec (ws := wm_m_lateness) B.pre
  have hown : s.vm.findClass RX12 = some m.cls := findClass_of_methodNamed B.named
  have hlocks := B.notSynchronized
  subst hsz
  generalize hAe : fr τ s.heap.size = A at hM ⊢
  have hA : ∀ q : Nat, s.heap.size ≤ q → A q := fun q h => by rw [← hAe]; exact Or.inr h
  have hF : ∀ q, τ q ≠ 0 → A q := fun q h => by rw [← hAe]; exact Or.inl h
  have hS : va_S A s.heap s.heap [] := va_S.rf
  have hX := hI.1
  have hR := im_r hI
  have hG : ag τ [60, 102, 109, 110, 111, 114, 115] y y := ag.rf
  have hGg : agg τ g g := agg.rf
  have hl := lv_entry ([.ref (a 50), .int p0, .int p1]) (n := 4) (Nat.le_of_ble_eq_true rfl)
  rw [lg_entry_eq]
  generalize (lg_sl ([.ref (a 50), .int p0, .int p1]) ++ List.replicate (4 - (lg_sl ([.ref (a 50), .int p0, .int p1])).length) Slot.unset).toArray = ls at hl ⊢
  have hl : lv_has ls 4 [(0, .ref (a 50)), (1, .int p0), (2, .int p1)] := hl
  have hTH := hth
  refine lv_aload_n hx hb dX12_lateness_0 rfl (lv_at hl 0 rfl) ?_
  refine lv_iconst (v := 0) hx hb dX12_lateness_1 (by decide) ?_
  refine tw_put (D := (dC, dI)) (x := 0) (ty := .int) (C := RX12) (T := TX12) (N := 58) hx hb hts (fun _ hh => (List.mem_cons_of_mem _ (List.mem_append_right _ (List.mem_append_left _ hh)))) tyX12 tyX12_ok nmX12 hown hK hT hF hS (fx_50 hX) (by decide) cl_e60 rfl 37 (by decide) (hts (.fieldLink RX12 139 "TypingPoolModel" "thrown" "I") (List.mem_cons_of_mem _ (List.mem_append_left _ (List.mem_of_getElem? (i := 0) rfl)))) (fun _ h9 => h9) rfl (tyX12_ok 37 (by decide)) rfl rfl (Nat.le_of_ble_eq_true rfl) rfl dX12_lateness_2 (fun H locs hT hS => ?_)
  obtain ⟨y_1, hy_1, hT⟩ : ∃ z : Nat → Nat → Int32, z = up2 y (a 50) 37 (0 : Int32) ∧ tw (dC, dI) a k τ ln z g H := ⟨_, rfl, hT⟩
  have hG : ag τ [60, 102, 109, 110, 111, 114, 115] y y_1 := by rw [hy_1]; exact hG.up (fx_50 hX) (by decide)
  have : (y_1 (a 50) 51).toInt = (y (a 50) 51).toInt := by rw [hy_1, up2_e (by decide)]
  have : (y_1 (a 50) 52).toInt = (y (a 50) 52).toInt := by rw [hy_1, up2_e (by decide)]
  have hW : IW (u 1) (u 2) (u 9) (y_1 (a 89)) := by rw [hy_1, up2_o (kd_ne (fx_89 hX) (fx_50 hX) (by decide))]; exact hW
  have hTH : vb 38408 0 4800 (y_1 (a 99)) := by rw [hy_1, up2_o (kd_ne (fx_99 hX) (fx_50 hX) (by decide))]; exact hTH
  have hI := hI.put (f := 37) (x := (0 : Int32)) (by decide)
  rw [← hy_1] at hI
  refine lv_aload_n hx hb dX12_lateness_5 rfl (lv_at hl 0 rfl) ?_
  refine lv_iload_n hx hb dX12_lateness_6 rfl (lv_at hl 1 rfl) ?_
  refine lv_iload_n hx hb dX12_lateness_7 rfl (lv_at hl 2 rfl) ?_
  have hFc := tw_free hF hS hA
  refine va_calli (va_runV (As := [.int p0, .int p1]) (rest := []) ⟨hx, hb, hml, hown, hts⟩ (m_findPlan l dC dI ad av H.size a k τ ln y_1 g u p0 p1 hI hTH hW) (cwV 2 hts (gi_4 (List.mem_cons_of_mem _ (List.mem_append_left _ (List.mem_of_getElem? (i := 1) rfl))) (List.mem_cons_of_mem _ (List.mem_append_left _ (List.mem_of_getElem? (i := 2) rfl))) (List.mem_cons_of_mem _ (List.mem_append_left _ (List.mem_of_getElem? (i := 3) rfl))) (List.mem_cons_of_mem _ (List.mem_append_left _ (List.mem_of_getElem? (i := 4) rfl))) (fun _ hh => (List.mem_cons_of_mem _ (List.mem_append_right _ (List.mem_append_right _ (List.mem_append_left _ hh))))) gd_m_findPlan) rfl rfl rfl (by decide +kernel) ⟨Nat.le_of_ble_eq_true rfl, Nat.le_of_ble_eq_true rfl⟩) ⟨pw_blind, tw_recv hK hT (fx_50 hX) (by decide) cl_e60 rfl, pw_use hT hK hFc hS hM⟩ rfl rfl hl.1 rfl (lv_room (Nat.le_of_ble_eq_true rfl)) dX12_lateness_8 ⟨Nat.le_of_ble_eq_true rfl, Nat.le_of_ble_eq_true rfl⟩) hS (fun q _ h => hFc q h) hFc (fun r0 r_2 t H locs ht hvm hw hB hz1 hk1 hS => ?_)
  refine W.widen (k := 0) (n := 0) (Nat.le_of_ble_eq_true rfl) (Nat.le_of_ble_eq_true rfl) ?_
  clear hvm hz1 hk1
  subst hw
  rcases hB with ⟨y_3, g_4, hre, hgy_3, hggg_4, hI, hf_5, hf_6, hT⟩ | ⟨y_7, g_8, hre, hgy_7, hggg_8, hI, hf_9, hT⟩ | ⟨y_10, g_11, hre, hgy_10, hggg_11, hI, hf_12, hT⟩
  · refine lq_top (v := 0) hre ?_
    rw [ht] at hT
    have hG := hG.tr hgy_3 (by decide)
    have hGg := hGg.tr hggg_4
    have hW : IW (u 1) (u 2) (u 9) (y_3 (a 89)) := by rw [hgy_3.at (fx_89 hX) (by decide)]; exact hW
    have hTH := hf_6
    refine lv_istore_n (lv' := [(3, .int 0), (0, .ref (a 50)), (1, .int p0), (2, .int p1)]) hx hb dX12_lateness_11 rfl hl (by decide) rfl (fun ls hl => ?_)
    refine lv_iload_n hx hb dX12_lateness_12 rfl (lv_at hl 0 rfl) ?_
    refine lv_if_ge (tgt := 20) hx hb dX12_lateness_13 (by decide) (fun c_13 => ?_) (fun c_13 => absurd c_13 (by decide))
    refine lv_aload_n hx hb dX12_lateness_20 rfl (lv_at hl 1 rfl) ?_
    refine tw_get (D := (dC, dI)) (v := .int (y_3 (a 50) 56)) (C := RX12) (T := TX12) (N := 58) hx hb hts (fun _ hh => (List.mem_cons_of_mem _ (List.mem_append_right _ (List.mem_append_left _ hh)))) hown hK hT (fx_50 hX) (by decide) cl_e60 rfl 56 (by decide) (hts (.fieldLink RX12 373 "TypingPoolModel" "bestSum" "I") (List.mem_cons_of_mem _ (List.mem_append_left _ (List.mem_of_getElem? (i := 5) rfl)))) (fun _ h9 => h9) rfl dX12_lateness_21 ?_
    have hrv : (y_3 (a 50) 56).toInt = (y_3 (a 50) 56).toInt := rfl
    exact W.iret (v := y_3 (a 50) 56) hx hb hr (fun t ht hW9 => ⟨⟨y_3 (a 50) 56, y_3 (a 50) 56, rfl, rfl, ⟨y_3, g_4, hG, hGg, hI, hTH, tw_at ht hT⟩⟩, hS.F ht⟩) hS.2.2 dX12_lateness_24
  · refine lq_top (v := (-1)) hre ?_
    rw [ht] at hT
    have hG := hG.tr hgy_7 (by decide)
    have hGg := hGg.tr hggg_8
    have hW : IW (u 1) (u 2) (u 9) (y_7 (a 89)) := by rw [hgy_7.at (fx_89 hX) (by decide)]; exact hW
    have hTH := hf_9
    refine lv_istore_n (lv' := [(3, .int (-1)), (0, .ref (a 50)), (1, .int p0), (2, .int p1)]) hx hb dX12_lateness_11 rfl hl (by decide) rfl (fun ls hl => ?_)
    refine lv_iload_n hx hb dX12_lateness_12 rfl (lv_at hl 0 rfl) ?_
    refine lv_if_ge (tgt := 20) hx hb dX12_lateness_13 (by decide) (fun c_14 => absurd c_14 (by decide)) (fun c_14 => ?_)
    refine lv_iload_n hx hb dX12_lateness_16 rfl (lv_at hl 0 rfl) ?_
    refine lv_goto (tgt := 24) hx hb dX12_lateness_17 (by decide) ?_
    have hrv : (-1 : Int32).toInt = (-1) := (zk (x := (-1)) (-1) rfl)
    exact W.iret (v := (-1)) hx hb hr (fun t ht hW9 => ⟨⟨(-1), (-1), rfl, rfl, ⟨y_7, g_8, hG, hGg, hI, hTH, tw_at ht hT⟩⟩, hS.F ht⟩) hS.2.2 dX12_lateness_24
  · refine lq_top (v := (-2)) hre ?_
    rw [ht] at hT
    have hG := hG.tr hgy_10 (by decide)
    have hGg := hGg.tr hggg_11
    have hW : IW (u 1) (u 2) (u 9) (y_10 (a 89)) := by rw [hgy_10.at (fx_89 hX) (by decide)]; exact hW
    have hTH := hf_12
    refine lv_istore_n (lv' := [(3, .int (-2)), (0, .ref (a 50)), (1, .int p0), (2, .int p1)]) hx hb dX12_lateness_11 rfl hl (by decide) rfl (fun ls hl => ?_)
    refine lv_iload_n hx hb dX12_lateness_12 rfl (lv_at hl 0 rfl) ?_
    refine lv_if_ge (tgt := 20) hx hb dX12_lateness_13 (by decide) (fun c_15 => absurd c_15 (by decide)) (fun c_15 => ?_)
    refine lv_iload_n hx hb dX12_lateness_16 rfl (lv_at hl 0 rfl) ?_
    refine lv_goto (tgt := 24) hx hb dX12_lateness_17 (by decide) ?_
    have hrv : (-2 : Int32).toInt = (-2) := (zk (x := (-2)) (-2) rfl)
    exact W.iret (v := (-2)) hx hb hr (fun t ht hW9 => ⟨⟨(-2), (-2), rfl, rfl, ⟨y_10, g_11, hG, hGg, hI, hTH, tw_at ht hT⟩⟩, hS.F ht⟩) hS.2.2 dX12_lateness_24
