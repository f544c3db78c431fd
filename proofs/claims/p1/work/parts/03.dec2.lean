theorem dX12_thing_1 : decode cX12_thing 1 = .ok (.bipush 33, 2) := by decide +kernel
theorem dX12_thing_3 : decode cX12_thing 3 = .ok (.invokevirtual 221, 3) := by decide +kernel
theorem dX12_thing_6 : decode cX12_thing 6 = .ok (.ifCond .eq 17, 3) := by decide +kernel
theorem dX12_thing_9 : decode cX12_thing 9 = .ok (.aload_n 0, 1) := by decide +kernel
theorem dX12_thing_10 : decode cX12_thing 10 = .ok (.iload_n 1, 1) := by decide +kernel
theorem dX12_thing_11 : decode cX12_thing 11 = .ok (.invokevirtual 233, 3) := by decide +kernel
theorem dX12_thing_14 : decode cX12_thing 14 = .ok (.ifCond .ne 7, 3) := by decide +kernel
theorem dX12_thing_17 : decode cX12_thing 17 = .ok (.iconst 1, 1) := by decide +kernel
theorem dX12_thing_18 : decode cX12_thing 18 = .ok (.goto 4, 3) := by decide +kernel
theorem dX12_thing_21 : decode cX12_thing 21 = .ok (.iconst 0, 1) := by decide +kernel
theorem dX12_thing_22 : decode cX12_thing 22 = .ok (.ireturn, 1) := by decide +kernel
theorem dX12_thing_23 : decode cX12_thing 23 = .ok (.aload_n 0, 1) := by decide +kernel
theorem dX12_thing_24 : decode cX12_thing 24 = .ok (.bipush 45, 2) := by decide +kernel
theorem dX12_thing_26 : decode cX12_thing 26 = .ok (.invokevirtual 221, 3) := by decide +kernel
theorem dX12_thing_29 : decode cX12_thing 29 = .ok (.ifCond .eq 10, 3) := by decide +kernel
theorem dX12_thing_32 : decode cX12_thing 32 = .ok (.aload_n 0, 1) := by decide +kernel
theorem dX12_thing_33 : decode cX12_thing 33 = .ok (.iload_n 1, 1) := by decide +kernel
theorem dX12_thing_34 : decode cX12_thing 34 = .ok (.invokevirtual 233, 3) := by decide +kernel
theorem dX12_thing_37 : decode cX12_thing 37 = .ok (.ineg, 1) := by decide +kernel
theorem dX12_thing_38 : decode cX12_thing 38 = .ok (.ireturn, 1) := by decide +kernel
theorem dX12_thing_39 : decode cX12_thing 39 = .ok (.aload_n 0, 1) := by decide +kernel
theorem dX12_thing_40 : decode cX12_thing 40 = .ok (.invokevirtual 211, 3) := by decide +kernel
theorem dX12_thing_43 : decode cX12_thing 43 = .ok (.bipush 40, 2) := by decide +kernel
theorem dX12_thing_45 : decode cX12_thing 45 = .ok (.if_icmp .ne 55, 3) := by decide +kernel
theorem dX12_thing_48 : decode cX12_thing 48 = .ok (.iload_n 1, 1) := by decide +kernel
theorem dX12_thing_49 : decode cX12_thing 49 = .ok (.bipush 6, 2) := by decide +kernel
theorem dX12_thing_51 : decode cX12_thing 51 = .ok (.if_icmp .ne 8, 3) := by decide +kernel
theorem dX12_thing_54 : decode cX12_thing 54 = .ok (.aload_n 0, 1) := by decide +kernel
theorem dX12_thing_55 : decode cX12_thing 55 = .ok (.invokevirtual 236, 3) := by decide +kernel
theorem dX12_thing_58 : decode cX12_thing 58 = .ok (.ireturn, 1) := by decide +kernel
theorem dX12_thing_59 : decode cX12_thing 59 = .ok (.aload_n 0, 1) := by decide +kernel
theorem dX12_thing_60 : decode cX12_thing 60 = .ok (.dup, 1) := by decide +kernel
theorem dX12_thing_61 : decode cX12_thing 61 = .ok (.getfield 197, 3) := by decide +kernel
theorem dX12_thing_64 : decode cX12_thing 64 = .ok (.iconst 1, 1) := by decide +kernel
theorem dX12_thing_65 : decode cX12_thing 65 = .ok (.iadd, 1) := by decide +kernel
theorem dX12_thing_66 : decode cX12_thing 66 = .ok (.putfield 197, 3) := by decide +kernel
theorem dX12_thing_69 : decode cX12_thing 69 = .ok (.aload_n 0, 1) := by decide +kernel
theorem dX12_thing_70 : decode cX12_thing 70 = .ok (.iload_n 1, 1) := by decide +kernel
theorem dX12_thing_71 : decode cX12_thing 71 = .ok (.iconst 1, 1) := by decide +kernel
theorem dX12_thing_72 : decode cX12_thing 72 = .ok (.iadd, 1) := by decide +kernel
theorem dX12_thing_73 : decode cX12_thing 73 = .ok (.invokevirtual 239, 3) := by decide +kernel
theorem dX12_thing_76 : decode cX12_thing 76 = .ok (.istore_n 2, 1) := by decide +kernel
theorem dX12_thing_77 : decode cX12_thing 77 = .ok (.aload_n 0, 1) := by decide +kernel
theorem dX12_thing_78 : decode cX12_thing 78 = .ok (.invokevirtual 217, 3) := by decide +kernel
theorem dX12_thing_81 : decode cX12_thing 81 = .ok (.ifCond .eq 17, 3) := by decide +kernel
theorem dX12_thing_84 : decode cX12_thing 84 = .ok (.aload_n 0, 1) := by decide +kernel
theorem dX12_thing_85 : decode cX12_thing 85 = .ok (.bipush 41, 2) := by decide +kernel
theorem dX12_thing_87 : decode cX12_thing 87 = .ok (.invokevirtual 221, 3) := by decide +kernel
theorem dX12_thing_90 : decode cX12_thing 90 = .ok (.ifCond .ne 8, 3) := by decide +kernel
theorem dX12_thing_93 : decode cX12_thing 93 = .ok (.aload_n 0, 1) := by decide +kernel
theorem dX12_thing_94 : decode cX12_thing 94 = .ok (.invokevirtual 236, 3) := by decide +kernel
theorem dX12_thing_97 : decode cX12_thing 97 = .ok (.pop, 1) := by decide +kernel
theorem dX12_thing_98 : decode cX12_thing 98 = .ok (.iload_n 2, 1) := by decide +kernel
theorem dX12_thing_99 : decode cX12_thing 99 = .ok (.ireturn, 1) := by decide +kernel
theorem dX12_thing_100 : decode cX12_thing 100 = .ok (.aload_n 0, 1) := by decide +kernel
theorem dX12_thing_101 : decode cX12_thing 101 = .ok (.invokevirtual 242, 3) := by decide +kernel
theorem dX12_thing_104 : decode cX12_thing 104 = .ok (.ifCond .eq 50, 3) := by decide +kernel
theorem dX12_thing_107 : decode cX12_thing 107 = .ok (.iconst 0, 1) := by decide +kernel
theorem dX12_thing_108 : decode cX12_thing 108 = .ok (.istore_n 2, 1) := by decide +kernel
theorem dX12_thing_109 : decode cX12_thing 109 = .ok (.iconst 0, 1) := by decide +kernel
theorem dX12_thing_110 : decode cX12_thing 110 = .ok (.istore_n 3, 1) := by decide +kernel
theorem dX12_thing_111 : decode cX12_thing 111 = .ok (.iload_n 3, 1) := by decide +kernel
theorem dX12_thing_112 : decode cX12_thing 112 = .ok (.iconst 4, 1) := by decide +kernel
theorem dX12_thing_113 : decode cX12_thing 113 = .ok (.if_icmp .ge 39, 3) := by decide +kernel
theorem dX12_thing_116 : decode cX12_thing 116 = .ok (.aload_n 0, 1) := by decide +kernel
theorem dX12_thing_117 : decode cX12_thing 117 = .ok (.invokevirtual 242, 3) := by decide +kernel
theorem dX12_thing_120 : decode cX12_thing 120 = .ok (.ifCond .eq 32, 3) := by decide +kernel
theorem dX12_thing_123 : decode cX12_thing 123 = .ok (.bipush 10, 2) := by decide +kernel
theorem dX12_thing_125 : decode cX12_thing 125 = .ok (.iload_n 2, 1) := by decide +kernel
theorem dX12_thing_126 : decode cX12_thing 126 = .ok (.imul, 1) := by decide +kernel
theorem dX12_thing_127 : decode cX12_thing 127 = .ok (.aload_n 0, 1) := by decide +kernel
theorem dX12_thing_128 : decode cX12_thing 128 = .ok (.invokevirtual 211, 3) := by decide +kernel
theorem dX12_thing_131 : decode cX12_thing 131 = .ok (.iadd, 1) := by decide +kernel
theorem dX12_thing_132 : decode cX12_thing 132 = .ok (.bipush 48, 2) := by decide +kernel
theorem dX12_thing_134 : decode cX12_thing 134 = .ok (.isub, 1) := by decide +kernel
theorem dX12_thing_135 : decode cX12_thing 135 = .ok (.istore_n 2, 1) := by decide +kernel
theorem dX12_thing_136 : decode cX12_thing 136 = .ok (.aload_n 0, 1) := by decide +kernel
theorem dX12_thing_137 : decode cX12_thing 137 = .ok (.dup, 1) := by decide +kernel
theorem dX12_thing_138 : decode cX12_thing 138 = .ok (.getfield 197, 3) := by decide +kernel
theorem dX12_thing_141 : decode cX12_thing 141 = .ok (.iconst 1, 1) := by decide +kernel
theorem dX12_thing_142 : decode cX12_thing 142 = .ok (.iadd, 1) := by decide +kernel
theorem dX12_thing_143 : decode cX12_thing 143 = .ok (.putfield 197, 3) := by decide +kernel
theorem dX12_thing_146 : decode cX12_thing 146 = .ok (.iinc 3 1, 3) := by decide +kernel
theorem dX12_thing_149 : decode cX12_thing 149 = .ok (.goto (-38), 3) := by decide +kernel
theorem dX12_thing_152 : decode cX12_thing 152 = .ok (.iload_n 2, 1) := by decide +kernel
theorem dX12_thing_153 : decode cX12_thing 153 = .ok (.ireturn, 1) := by decide +kernel
theorem dX12_thing_154 : decode cX12_thing 154 = .ok (.aload_n 0, 1) := by decide +kernel
theorem dX12_thing_155 : decode cX12_thing 155 = .ok (.invokevirtual 211, 3) := by decide +kernel
theorem dX12_thing_158 : decode cX12_thing 158 = .ok (.iconst (-1), 1) := by decide +kernel
theorem dX12_thing_159 : decode cX12_thing 159 = .ok (.if_icmp .ne 7, 3) := by decide +kernel
theorem dX12_thing_162 : decode cX12_thing 162 = .ok (.iconst (-1), 1) := by decide +kernel
theorem dX12_thing_163 : decode cX12_thing 163 = .ok (.goto 15, 3) := by decide +kernel
theorem dX12_thing_166 : decode cX12_thing 166 = .ok (.aload_n 0, 1) := by decide +kernel
theorem dX12_thing_167 : decode cX12_thing 167 = .ok (.getfield 207, 3) := by decide +kernel
theorem dX12_thing_170 : decode cX12_thing 170 = .ok (.aload_n 0, 1) := by decide +kernel
theorem dX12_thing_171 : decode cX12_thing 171 = .ok (.invokevirtual 211, 3) := by decide +kernel
theorem dX12_thing_174 : decode cX12_thing 174 = .ok (.i2c, 1) := by decide +kernel
theorem dX12_thing_175 : decode cX12_thing 175 = .ok (.invokevirtual 245, 3) := by decide +kernel
theorem dX12_thing_178 : decode cX12_thing 178 = .ok (.istore_n 2, 1) := by decide +kernel
theorem dX12_thing_179 : decode cX12_thing 179 = .ok (.iload_n 2, 1) := by decide +kernel
theorem dX12_thing_180 : decode cX12_thing 180 = .ok (.ifCond .ge 8, 3) := by decide +kernel
theorem dX12_thing_183 : decode cX12_thing 183 = .ok (.aload_n 0, 1) := by decide +kernel
theorem dX12_thing_184 : decode cX12_thing 184 = .ok (.invokevirtual 236, 3) := by decide +kernel
theorem dX12_thing_187 : decode cX12_thing 187 = .ok (.ireturn, 1) := by decide +kernel
theorem dX12_thing_188 : decode cX12_thing 188 = .ok (.aload_n 0, 1) := by decide +kernel
theorem dX12_thing_189 : decode cX12_thing 189 = .ok (.dup, 1) := by decide +kernel
theorem dX12_thing_190 : decode cX12_thing 190 = .ok (.getfield 197, 3) := by decide +kernel
theorem dX12_thing_193 : decode cX12_thing 193 = .ok (.iconst 1, 1) := by decide +kernel
theorem dX12_thing_194 : decode cX12_thing 194 = .ok (.iadd, 1) := by decide +kernel
theorem dX12_thing_195 : decode cX12_thing 195 = .ok (.putfield 197, 3) := by decide +kernel
theorem dX12_thing_198 : decode cX12_thing 198 = .ok (.aload_n 0, 1) := by decide +kernel
theorem dX12_thing_199 : decode cX12_thing 199 = .ok (.getfield 116, 3) := by decide +kernel
theorem dX12_thing_202 : decode cX12_thing 202 = .ok (.iload_n 2, 1) := by decide +kernel
theorem dX12_thing_203 : decode cX12_thing 203 = .ok (.iaload, 1) := by decide +kernel
theorem dX12_thing_204 : decode cX12_thing 204 = .ok (.ireturn, 1) := by decide +kernel
theorem dX12_rule_0 : decode cX12_rule 0 = .ok (.aload_n 0, 1) := by decide +kernel
theorem dX12_rule_1 : decode cX12_rule 1 = .ok (.iconst 0, 1) := by decide +kernel
theorem dX12_rule_2 : decode cX12_rule 2 = .ok (.putfield 139, 3) := by decide +kernel
theorem dX12_rule_5 : decode cX12_rule 5 = .ok (.aload_n 0, 1) := by decide +kernel
theorem dX12_rule_6 : decode cX12_rule 6 = .ok (.getfield 177, 3) := by decide +kernel
theorem dX12_rule_9 : decode cX12_rule 9 = .ok (.istore_n 3, 1) := by decide +kernel
theorem dX12_rule_10 : decode cX12_rule 10 = .ok (.aload_n 0, 1) := by decide +kernel
theorem dX12_rule_11 : decode cX12_rule 11 = .ok (.iconst 0, 1) := by decide +kernel
theorem dX12_rule_12 : decode cX12_rule 12 = .ok (.putfield 177, 3) := by decide +kernel
theorem dX12_rule_15 : decode cX12_rule 15 = .ok (.iload_n 1, 1) := by decide +kernel
theorem dX12_rule_16 : decode cX12_rule 16 = .ok (.iconst 0, 1) := by decide +kernel
theorem dX12_rule_17 : decode cX12_rule 17 = .ok (.iconst 3, 1) := by decide +kernel
theorem dX12_rule_18 : decode cX12_rule 18 = .ok (.invokestatic 145, 3) := by decide +kernel
theorem dX12_rule_21 : decode cX12_rule 21 = .ok (.ifCond .eq 22, 3) := by decide +kernel
theorem dX12_rule_24 : decode cX12_rule 24 = .ok (.iload_n 2, 1) := by decide +kernel
theorem dX12_rule_25 : decode cX12_rule 25 = .ok (.iconst 0, 1) := by decide +kernel
theorem dX12_rule_26 : decode cX12_rule 26 = .ok (.bipush 9, 2) := by decide +kernel
theorem dX12_rule_28 : decode cX12_rule 28 = .ok (.invokestatic 145, 3) := by decide +kernel
theorem dX12_rule_31 : decode cX12_rule 31 = .ok (.ifCond .eq 12, 3) := by decide +kernel
theorem dX12_rule_34 : decode cX12_rule 34 = .ok (.aload_n 0, 1) := by decide +kernel
theorem dX12_rule_35 : decode cX12_rule 35 = .ok (.getfield 248, 3) := by decide +kernel
theorem dX12_rule_38 : decode cX12_rule 38 = .ok (.bipush 20, 2) := by decide +kernel
theorem dX12_rule_40 : decode cX12_rule 40 = .ok (.if_icmp .ne 6, 3) := by decide +kernel
theorem dX12_rule_43 : decode cX12_rule 43 = .ok (.bipush (-100), 2) := by decide +kernel
theorem dX12_rule_45 : decode cX12_rule 45 = .ok (.ireturn, 1) := by decide +kernel
theorem dX12_rule_46 : decode cX12_rule 46 = .ok (.aload_n 0, 1) := by decide +kernel
theorem dX12_rule_47 : decode cX12_rule 47 = .ok (.aload_n 0, 1) := by decide +kernel
theorem dX12_rule_48 : decode cX12_rule 48 = .ok (.getfield 101, 3) := by decide +kernel
theorem dX12_rule_51 : decode cX12_rule 51 = .ok (.iconst 0, 1) := by decide +kernel
theorem dX12_rule_52 : decode cX12_rule 52 = .ok (.iload_n 3, 1) := by decide +kernel
theorem dX12_rule_53 : decode cX12_rule 53 = .ok (.iload_n 1, 1) := by decide +kernel
theorem dX12_rule_54 : decode cX12_rule 54 = .ok (.invokevirtual 251, 3) := by decide +kernel
theorem dX12_rule_57 : decode cX12_rule 57 = .ok (.aload_n 0, 1) := by decide +kernel
theorem dX12_rule_58 : decode cX12_rule 58 = .ok (.iconst 0, 1) := by decide +kernel
theorem dX12_rule_59 : decode cX12_rule 59 = .ok (.invokevirtual 239, 3) := by decide +kernel
theorem dX12_rule_62 : decode cX12_rule 62 = .ok (.pop, 1) := by decide +kernel
theorem dX12_rule_63 : decode cX12_rule 63 = .ok (.aload_n 0, 1) := by decide +kernel
theorem dX12_rule_64 : decode cX12_rule 64 = .ok (.invokevirtual 217, 3) := by decide +kernel
theorem dX12_rule_67 : decode cX12_rule 67 = .ok (.ifCond .eq 16, 3) := by decide +kernel
theorem dX12_rule_70 : decode cX12_rule 70 = .ok (.aload_n 0, 1) := by decide +kernel
theorem dX12_rule_71 : decode cX12_rule 71 = .ok (.getfield 197, 3) := by decide +kernel
theorem dX12_rule_74 : decode cX12_rule 74 = .ok (.iload_n 3, 1) := by decide +kernel
theorem dX12_rule_75 : decode cX12_rule 75 = .ok (.if_icmp .ge 8, 3) := by decide +kernel
theorem dX12_rule_78 : decode cX12_rule 78 = .ok (.aload_n 0, 1) := by decide +kernel
theorem dX12_rule_79 : decode cX12_rule 79 = .ok (.invokevirtual 236, 3) := by decide +kernel
theorem dX12_rule_82 : decode cX12_rule 82 = .ok (.pop, 1) := by decide +kernel
theorem dX12_rule_83 : decode cX12_rule 83 = .ok (.aload_n 0, 1) := by decide +kernel
theorem dX12_rule_84 : decode cX12_rule 84 = .ok (.invokevirtual 217, 3) := by decide +kernel
theorem dX12_rule_87 : decode cX12_rule 87 = .ok (.ifCond .ne 10, 3) := by decide +kernel
theorem dX12_rule_90 : decode cX12_rule 90 = .ok (.iconst (-1), 1) := by decide +kernel
theorem dX12_rule_91 : decode cX12_rule 91 = .ok (.aload_n 0, 1) := by decide +kernel
theorem dX12_rule_92 : decode cX12_rule 92 = .ok (.getfield 200, 3) := by decide +kernel
theorem dX12_rule_95 : decode cX12_rule 95 = .ok (.isub, 1) := by decide +kernel
theorem dX12_rule_96 : decode cX12_rule 96 = .ok (.ireturn, 1) := by decide +kernel
theorem dX12_rule_97 : decode cX12_rule 97 = .ok (.iconst 0, 1) := by decide +kernel
theorem dX12_rule_98 : decode cX12_rule 98 = .ok (.istore 4, 2) := by decide +kernel
theorem dX12_rule_100 : decode cX12_rule 100 = .ok (.iload 4, 2) := by decide +kernel
theorem dX12_rule_102 : decode cX12_rule 102 = .ok (.iload_n 3, 1) := by decide +kernel
theorem dX12_rule_103 : decode cX12_rule 103 = .ok (.if_icmp .ge 31, 3) := by decide +kernel
theorem dX12_rule_106 : decode cX12_rule 106 = .ok (.aload_n 0, 1) := by decide +kernel
theorem dX12_rule_107 : decode cX12_rule 107 = .ok (.getfield 58, 3) := by decide +kernel
theorem dX12_rule_110 : decode cX12_rule 110 = .ok (.bipush 60, 2) := by decide +kernel
theorem dX12_rule_112 : decode cX12_rule 112 = .ok (.aload_n 0, 1) := by decide +kernel
theorem dX12_rule_113 : decode cX12_rule 113 = .ok (.getfield 248, 3) := by decide +kernel
theorem dX12_rule_116 : decode cX12_rule 116 = .ok (.imul, 1) := by decide +kernel
theorem dX12_rule_117 : decode cX12_rule 117 = .ok (.iload 4, 2) := by decide +kernel
theorem dX12_rule_119 : decode cX12_rule 119 = .ok (.iadd, 1) := by decide +kernel
theorem dX12_rule_120 : decode cX12_rule 120 = .ok (.aload_n 0, 1) := by decide +kernel
theorem dX12_rule_121 : decode cX12_rule 121 = .ok (.getfield 101, 3) := by decide +kernel
theorem dX12_rule_124 : decode cX12_rule 124 = .ok (.iload 4, 2) := by decide +kernel
theorem dX12_rule_126 : decode cX12_rule 126 = .ok (.baload, 1) := by decide +kernel
theorem dX12_rule_127 : decode cX12_rule 127 = .ok (.bastore, 1) := by decide +kernel
theorem dX12_rule_128 : decode cX12_rule 128 = .ok (.iinc 4 1, 3) := by decide +kernel
theorem dX12_rule_131 : decode cX12_rule 131 = .ok (.goto (-31), 3) := by decide +kernel
theorem dX12_rule_134 : decode cX12_rule 134 = .ok (.aload_n 0, 1) := by decide +kernel
theorem dX12_rule_135 : decode cX12_rule 135 = .ok (.getfield 62, 3) := by decide +kernel
theorem dX12_rule_138 : decode cX12_rule 138 = .ok (.aload_n 0, 1) := by decide +kernel
theorem dX12_rule_139 : decode cX12_rule 139 = .ok (.getfield 248, 3) := by decide +kernel
theorem dX12_rule_142 : decode cX12_rule 142 = .ok (.iload_n 3, 1) := by decide +kernel
theorem dX12_rule_143 : decode cX12_rule 143 = .ok (.iastore, 1) := by decide +kernel
theorem dX12_rule_144 : decode cX12_rule 144 = .ok (.aload_n 0, 1) := by decide +kernel
theorem dX12_rule_145 : decode cX12_rule 145 = .ok (.getfield 65, 3) := by decide +kernel
theorem dX12_rule_148 : decode cX12_rule 148 = .ok (.aload_n 0, 1) := by decide +kernel
theorem dX12_rule_149 : decode cX12_rule 149 = .ok (.getfield 248, 3) := by decide +kernel
theorem dX12_rule_152 : decode cX12_rule 152 = .ok (.iload_n 1, 1) := by decide +kernel
theorem dX12_rule_153 : decode cX12_rule 153 = .ok (.iastore, 1) := by decide +kernel
theorem dX12_rule_154 : decode cX12_rule 154 = .ok (.aload_n 0, 1) := by decide +kernel
theorem dX12_rule_155 : decode cX12_rule 155 = .ok (.getfield 68, 3) := by decide +kernel
theorem dX12_rule_158 : decode cX12_rule 158 = .ok (.aload_n 0, 1) := by decide +kernel
theorem dX12_rule_159 : decode cX12_rule 159 = .ok (.getfield 248, 3) := by decide +kernel
theorem dX12_rule_162 : decode cX12_rule 162 = .ok (.iload_n 2, 1) := by decide +kernel
theorem dX12_rule_163 : decode cX12_rule 163 = .ok (.iastore, 1) := by decide +kernel
theorem dX12_rule_164 : decode cX12_rule 164 = .ok (.aload_n 0, 1) := by decide +kernel
theorem dX12_rule_165 : decode cX12_rule 165 = .ok (.dup, 1) := by decide +kernel
theorem dX12_rule_166 : decode cX12_rule 166 = .ok (.getfield 248, 3) := by decide +kernel
theorem dX12_rule_169 : decode cX12_rule 169 = .ok (.iconst 1, 1) := by decide +kernel
theorem dX12_rule_170 : decode cX12_rule 170 = .ok (.iadd, 1) := by decide +kernel
theorem dX12_rule_171 : decode cX12_rule 171 = .ok (.putfield 248, 3) := by decide +kernel
theorem dX12_rule_174 : decode cX12_rule 174 = .ok (.aload_n 0, 1) := by decide +kernel
theorem dX12_rule_175 : decode cX12_rule 175 = .ok (.getfield 248, 3) := by decide +kernel
theorem dX12_rule_178 : decode cX12_rule 178 = .ok (.iconst 1, 1) := by decide +kernel
theorem dX12_rule_179 : decode cX12_rule 179 = .ok (.isub, 1) := by decide +kernel
theorem dX12_rule_180 : decode cX12_rule 180 = .ok (.ireturn, 1) := by decide +kernel
theorem dX12_asks_0 : decode cX12_asks 0 = .ok (.iconst (-1), 1) := by decide +kernel
theorem dX12_asks_1 : decode cX12_asks 1 = .ok (.istore_n 3, 1) := by decide +kernel
theorem dX12_asks_2 : decode cX12_asks 2 = .ok (.aload_n 0, 1) := by decide +kernel
theorem dX12_asks_3 : decode cX12_asks 3 = .ok (.getfield 113, 3) := by decide +kernel
theorem dX12_asks_6 : decode cX12_asks 6 = .ok (.iconst (-1), 1) := by decide +kernel
theorem dX12_asks_7 : decode cX12_asks 7 = .ok (.if_icmp .eq 24, 3) := by decide +kernel
theorem dX12_asks_10 : decode cX12_asks 10 = .ok (.aload_n 0, 1) := by decide +kernel
theorem dX12_asks_11 : decode cX12_asks 11 = .ok (.getfield 65, 3) := by decide +kernel
theorem dX12_asks_14 : decode cX12_asks 14 = .ok (.aload_n 0, 1) := by decide +kernel
theorem dX12_asks_15 : decode cX12_asks 15 = .ok (.getfield 113, 3) := by decide +kernel
theorem dX12_asks_18 : decode cX12_asks 18 = .ok (.iaload, 1) := by decide +kernel
theorem dX12_asks_19 : decode cX12_asks 19 = .ok (.iload_n 1, 1) := by decide +kernel
theorem dX12_asks_20 : decode cX12_asks 20 = .ok (.if_icmp .ne 11, 3) := by decide +kernel
theorem dX12_asks_23 : decode cX12_asks 23 = .ok (.aload_n 0, 1) := by decide +kernel
theorem dX12_asks_24 : decode cX12_asks 24 = .ok (.getfield 113, 3) := by decide +kernel
theorem dX12_asks_27 : decode cX12_asks 27 = .ok (.istore_n 3, 1) := by decide +kernel
theorem dX12_asks_28 : decode cX12_asks 28 = .ok (.goto 67, 3) := by decide +kernel
theorem dX12_asks_31 : decode cX12_asks 31 = .ok (.iconst 0, 1) := by decide +kernel
theorem dX12_asks_32 : decode cX12_asks 32 = .ok (.istore 4, 2) := by decide +kernel
theorem dX12_asks_34 : decode cX12_asks 34 = .ok (.iload 4, 2) := by decide +kernel
theorem dX12_asks_36 : decode cX12_asks 36 = .ok (.aload_n 0, 1) := by decide +kernel
theorem dX12_asks_37 : decode cX12_asks 37 = .ok (.getfield 248, 3) := by decide +kernel
theorem dX12_asks_40 : decode cX12_asks 40 = .ok (.if_icmp .ge 55, 3) := by decide +kernel
theorem dX12_asks_43 : decode cX12_asks 43 = .ok (.aload_n 0, 1) := by decide +kernel
theorem dX12_asks_44 : decode cX12_asks 44 = .ok (.getfield 65, 3) := by decide +kernel
theorem dX12_asks_47 : decode cX12_asks 47 = .ok (.iload 4, 2) := by decide +kernel
theorem dX12_asks_49 : decode cX12_asks 49 = .ok (.iaload, 1) := by decide +kernel
theorem dX12_asks_50 : decode cX12_asks 50 = .ok (.iload_n 1, 1) := by decide +kernel
theorem dX12_asks_51 : decode cX12_asks 51 = .ok (.if_icmp .ne 38, 3) := by decide +kernel
theorem dX12_asks_54 : decode cX12_asks 54 = .ok (.aload_n 0, 1) := by decide +kernel
theorem dX12_asks_55 : decode cX12_asks 55 = .ok (.getfield 68, 3) := by decide +kernel
theorem dX12_asks_58 : decode cX12_asks 58 = .ok (.iload 4, 2) := by decide +kernel
theorem dX12_asks_60 : decode cX12_asks 60 = .ok (.iaload, 1) := by decide +kernel
theorem dX12_asks_61 : decode cX12_asks 61 = .ok (.iload_n 2, 1) := by decide +kernel
theorem dX12_asks_62 : decode cX12_asks 62 = .ok (.if_icmp .gt 27, 3) := by decide +kernel
theorem dX12_asks_65 : decode cX12_asks 65 = .ok (.iload_n 3, 1) := by decide +kernel
theorem dX12_asks_66 : decode cX12_asks 66 = .ok (.iconst (-1), 1) := by decide +kernel
theorem dX12_asks_67 : decode cX12_asks 67 = .ok (.if_icmp .eq 19, 3) := by decide +kernel
theorem dX12_asks_70 : decode cX12_asks 70 = .ok (.aload_n 0, 1) := by decide +kernel
theorem dX12_asks_71 : decode cX12_asks 71 = .ok (.getfield 68, 3) := by decide +kernel
theorem dX12_asks_74 : decode cX12_asks 74 = .ok (.iload 4, 2) := by decide +kernel
theorem dX12_asks_76 : decode cX12_asks 76 = .ok (.iaload, 1) := by decide +kernel
theorem dX12_asks_77 : decode cX12_asks 77 = .ok (.aload_n 0, 1) := by decide +kernel
theorem dX12_asks_78 : decode cX12_asks 78 = .ok (.getfield 68, 3) := by decide +kernel
theorem dX12_asks_81 : decode cX12_asks 81 = .ok (.iload_n 3, 1) := by decide +kernel
theorem dX12_asks_82 : decode cX12_asks 82 = .ok (.iaload, 1) := by decide +kernel
theorem dX12_asks_83 : decode cX12_asks 83 = .ok (.if_icmp .lt 6, 3) := by decide +kernel
theorem dX12_asks_86 : decode cX12_asks 86 = .ok (.iload 4, 2) := by decide +kernel
theorem dX12_asks_88 : decode cX12_asks 88 = .ok (.istore_n 3, 1) := by decide +kernel
theorem dX12_asks_89 : decode cX12_asks 89 = .ok (.iinc 4 1, 3) := by decide +kernel
theorem dX12_asks_92 : decode cX12_asks 92 = .ok (.goto (-58), 3) := by decide +kernel
theorem dX12_asks_95 : decode cX12_asks 95 = .ok (.iload_n 3, 1) := by decide +kernel
theorem dX12_asks_96 : decode cX12_asks 96 = .ok (.iconst (-1), 1) := by decide +kernel
theorem dX12_asks_97 : decode cX12_asks 97 = .ok (.if_icmp .ne 25, 3) := by decide +kernel
theorem dX12_asks_100 : decode cX12_asks 100 = .ok (.aload_n 0, 1) := by decide +kernel
theorem dX12_asks_101 : decode cX12_asks 101 = .ok (.aload_n 0, 1) := by decide +kernel
theorem dX12_asks_102 : decode cX12_asks 102 = .ok (.getfield 79, 3) := by decide +kernel
theorem dX12_asks_105 : decode cX12_asks 105 = .ok (.getstatic 255, 3) := by decide +kernel
theorem dX12_asks_108 : decode cX12_asks 108 = .ok (.iload_n 1, 1) := by decide +kernel
theorem dX12_asks_109 : decode cX12_asks 109 = .ok (.iaload, 1) := by decide +kernel
theorem dX12_asks_110 : decode cX12_asks 110 = .ok (.getstatic 258, 3) := by decide +kernel
theorem dX12_asks_113 : decode cX12_asks 113 = .ok (.iload_n 1, 1) := by decide +kernel
theorem dX12_asks_114 : decode cX12_asks 114 = .ok (.iaload, 1) := by decide +kernel
theorem dX12_asks_115 : decode cX12_asks 115 = .ok (.iload_n 1, 1) := by decide +kernel
theorem dX12_asks_116 : decode cX12_asks 116 = .ok (.invokevirtual 251, 3) := by decide +kernel
theorem dX12_asks_119 : decode cX12_asks 119 = .ok (.goto 22, 3) := by decide +kernel
theorem dX12_asks_122 : decode cX12_asks 122 = .ok (.aload_n 0, 1) := by decide +kernel
theorem dX12_asks_123 : decode cX12_asks 123 = .ok (.aload_n 0, 1) := by decide +kernel
theorem dX12_asks_124 : decode cX12_asks 124 = .ok (.getfield 58, 3) := by decide +kernel
theorem dX12_asks_127 : decode cX12_asks 127 = .ok (.bipush 60, 2) := by decide +kernel
theorem dX12_asks_129 : decode cX12_asks 129 = .ok (.iload_n 3, 1) := by decide +kernel
theorem dX12_asks_130 : decode cX12_asks 130 = .ok (.imul, 1) := by decide +kernel
theorem dX12_asks_131 : decode cX12_asks 131 = .ok (.aload_n 0, 1) := by decide +kernel
theorem dX12_asks_132 : decode cX12_asks 132 = .ok (.getfield 62, 3) := by decide +kernel
theorem dX12_asks_135 : decode cX12_asks 135 = .ok (.iload_n 3, 1) := by decide +kernel
theorem dX12_asks_136 : decode cX12_asks 136 = .ok (.iaload, 1) := by decide +kernel
theorem dX12_asks_137 : decode cX12_asks 137 = .ok (.iload_n 1, 1) := by decide +kernel
theorem dX12_asks_138 : decode cX12_asks 138 = .ok (.invokevirtual 251, 3) := by decide +kernel
theorem dX12_asks_141 : decode cX12_asks 141 = .ok (.aload_n 0, 1) := by decide +kernel
theorem dX12_asks_142 : decode cX12_asks 142 = .ok (.iconst 0, 1) := by decide +kernel
theorem dX12_asks_143 : decode cX12_asks 143 = .ok (.invokevirtual 239, 3) := by decide +kernel
theorem dX12_asks_146 : decode cX12_asks 146 = .ok (.ireturn, 1) := by decide +kernel
theorem dX12_waits_0 : decode cX12_waits 0 = .ok (.aload_n 0, 1) := by decide +kernel
theorem dX12_waits_1 : decode cX12_waits 1 = .ok (.getfield 46, 3) := by decide +kernel
theorem dX12_waits_4 : decode cX12_waits 4 = .ok (.iload_n 1, 1) := by decide +kernel
theorem dX12_waits_5 : decode cX12_waits 5 = .ok (.iaload, 1) := by decide +kernel
theorem dX12_waits_6 : decode cX12_waits 6 = .ok (.aload_n 0, 1) := by decide +kernel
theorem dX12_waits_7 : decode cX12_waits 7 = .ok (.invokevirtual 164, 3) := by decide +kernel
theorem dX12_waits_10 : decode cX12_waits 10 = .ok (.if_icmp .gt 17, 3) := by decide +kernel
theorem dX12_waits_13 : decode cX12_waits 13 = .ok (.aload_n 0, 1) := by decide +kernel
theorem dX12_waits_14 : decode cX12_waits 14 = .ok (.iload_n 1, 1) := by decide +kernel
theorem dX12_waits_15 : decode cX12_waits 15 = .ok (.iconst 0, 1) := by decide +kernel
theorem dX12_waits_16 : decode cX12_waits 16 = .ok (.invokevirtual 261, 3) := by decide +kernel
theorem dX12_waits_19 : decode cX12_waits 19 = .ok (.iconst (-1), 1) := by decide +kernel
theorem dX12_waits_20 : decode cX12_waits 20 = .ok (.if_icmp .ne 7, 3) := by decide +kernel
theorem dX12_waits_23 : decode cX12_waits 23 = .ok (.iconst 1, 1) := by decide +kernel
theorem dX12_waits_24 : decode cX12_waits 24 = .ok (.goto 4, 3) := by decide +kernel
theorem dX12_waits_27 : decode cX12_waits 27 = .ok (.iconst 0, 1) := by decide +kernel
theorem dX12_waits_28 : decode cX12_waits 28 = .ok (.ireturn, 1) := by decide +kernel
theorem dX12_bits_0 : decode cX12_bits 0 = .ok (.iload_n 0, 1) := by decide +kernel
theorem dX12_bits_1 : decode cX12_bits 1 = .ok (.invokestatic 264, 3) := by decide +kernel
theorem dX12_bits_4 : decode cX12_bits 4 = .ok (.ireturn, 1) := by decide +kernel
theorem dX12_orderOf_0 : decode cX12_orderOf 0 = .ok (.iconst 0, 1) := by decide +kernel
theorem dX12_orderOf_1 : decode cX12_orderOf 1 = .ok (.istore_n 3, 1) := by decide +kernel
theorem dX12_orderOf_2 : decode cX12_orderOf 2 = .ok (.iconst 0, 1) := by decide +kernel
theorem dX12_orderOf_3 : decode cX12_orderOf 3 = .ok (.istore 4, 2) := by decide +kernel
theorem dX12_orderOf_5 : decode cX12_orderOf 5 = .ok (.iload 4, 2) := by decide +kernel
theorem dX12_orderOf_7 : decode cX12_orderOf 7 = .ok (.aload_n 0, 1) := by decide +kernel
theorem dX12_orderOf_8 : decode cX12_orderOf 8 = .ok (.getfield 149, 3) := by decide +kernel
theorem dX12_orderOf_11 : decode cX12_orderOf 11 = .ok (.if_icmp .ge 37, 3) := by decide +kernel
theorem dX12_orderOf_14 : decode cX12_orderOf 14 = .ok (.aload_n 0, 1) := by decide +kernel
theorem dX12_orderOf_15 : decode cX12_orderOf 15 = .ok (.getfield 31, 3) := by decide +kernel
theorem dX12_orderOf_18 : decode cX12_orderOf 18 = .ok (.iload 4, 2) := by decide +kernel
theorem dX12_orderOf_20 : decode cX12_orderOf 20 = .ok (.iaload, 1) := by decide +kernel
theorem dX12_orderOf_21 : decode cX12_orderOf 21 = .ok (.aload_n 0, 1) := by decide +kernel
theorem dX12_orderOf_22 : decode cX12_orderOf 22 = .ok (.getfield 31, 3) := by decide +kernel
theorem dX12_orderOf_25 : decode cX12_orderOf 25 = .ok (.iload_n 2, 1) := by decide +kernel
theorem dX12_orderOf_26 : decode cX12_orderOf 26 = .ok (.iaload, 1) := by decide +kernel
theorem dX12_orderOf_27 : decode cX12_orderOf 27 = .ok (.if_icmp .ne 15, 3) := by decide +kernel
theorem dX12_orderOf_30 : decode cX12_orderOf 30 = .ok (.aload_n 0, 1) := by decide +kernel
theorem dX12_orderOf_31 : decode cX12_orderOf 31 = .ok (.iload 4, 2) := by decide +kernel
theorem dX12_orderOf_33 : decode cX12_orderOf 33 = .ok (.invokevirtual 269, 3) := by decide +kernel
theorem dX12_orderOf_36 : decode cX12_orderOf 36 = .ok (.ifCond .eq 6, 3) := by decide +kernel
theorem dX12_orderOf_39 : decode cX12_orderOf 39 = .ok (.iinc 3 1, 3) := by decide +kernel
theorem dX12_orderOf_42 : decode cX12_orderOf 42 = .ok (.iinc 4 1, 3) := by decide +kernel
theorem dX12_orderOf_45 : decode cX12_orderOf 45 = .ok (.goto (-40), 3) := by decide +kernel
theorem dX12_orderOf_48 : decode cX12_orderOf 48 = .ok (.aload_n 0, 1) := by decide +kernel
theorem dX12_orderOf_49 : decode cX12_orderOf 49 = .ok (.getfield 116, 3) := by decide +kernel
theorem dX12_orderOf_52 : decode cX12_orderOf 52 = .ok (.iconst 0, 1) := by decide +kernel
theorem dX12_orderOf_53 : decode cX12_orderOf 53 = .ok (.aload_n 0, 1) := by decide +kernel
theorem dX12_orderOf_54 : decode cX12_orderOf 54 = .ok (.getfield 43, 3) := by decide +kernel
theorem dX12_orderOf_57 : decode cX12_orderOf 57 = .ok (.iload_n 2, 1) := by decide +kernel
theorem dX12_orderOf_58 : decode cX12_orderOf 58 = .ok (.iaload, 1) := by decide +kernel
theorem dX12_orderOf_59 : decode cX12_orderOf 59 = .ok (.iastore, 1) := by decide +kernel
theorem dX12_orderOf_60 : decode cX12_orderOf 60 = .ok (.aload_n 0, 1) := by decide +kernel
theorem dX12_orderOf_61 : decode cX12_orderOf 61 = .ok (.getfield 116, 3) := by decide +kernel
theorem dX12_orderOf_64 : decode cX12_orderOf 64 = .ok (.iconst 1, 1) := by decide +kernel
theorem dX12_orderOf_65 : decode cX12_orderOf 65 = .ok (.aload_n 0, 1) := by decide +kernel
theorem dX12_orderOf_66 : decode cX12_orderOf 66 = .ok (.invokevirtual 164, 3) := by decide +kernel
theorem dX12_orderOf_69 : decode cX12_orderOf 69 = .ok (.aload_n 0, 1) := by decide +kernel
theorem dX12_orderOf_70 : decode cX12_orderOf 70 = .ok (.getfield 46, 3) := by decide +kernel
theorem dX12_orderOf_73 : decode cX12_orderOf 73 = .ok (.iload_n 2, 1) := by decide +kernel
theorem dX12_orderOf_74 : decode cX12_orderOf 74 = .ok (.iaload, 1) := by decide +kernel
theorem dX12_orderOf_75 : decode cX12_orderOf 75 = .ok (.isub, 1) := by decide +kernel
theorem dX12_orderOf_76 : decode cX12_orderOf 76 = .ok (.iastore, 1) := by decide +kernel
theorem dX12_orderOf_77 : decode cX12_orderOf 77 = .ok (.aload_n 0, 1) := by decide +kernel
theorem dX12_orderOf_78 : decode cX12_orderOf 78 = .ok (.getfield 116, 3) := by decide +kernel
theorem dX12_orderOf_81 : decode cX12_orderOf 81 = .ok (.iconst 2, 1) := by decide +kernel
theorem dX12_orderOf_82 : decode cX12_orderOf 82 = .ok (.aload_n 0, 1) := by decide +kernel
theorem dX12_orderOf_83 : decode cX12_orderOf 83 = .ok (.getfield 37, 3) := by decide +kernel
theorem dX12_orderOf_86 : decode cX12_orderOf 86 = .ok (.iload_n 2, 1) := by decide +kernel
theorem dX12_orderOf_87 : decode cX12_orderOf 87 = .ok (.iaload, 1) := by decide +kernel
theorem dX12_orderOf_88 : decode cX12_orderOf 88 = .ok (.iastore, 1) := by decide +kernel
theorem dX12_orderOf_89 : decode cX12_orderOf 89 = .ok (.aload_n 0, 1) := by decide +kernel
theorem dX12_orderOf_90 : decode cX12_orderOf 90 = .ok (.getfield 116, 3) := by decide +kernel
theorem dX12_orderOf_93 : decode cX12_orderOf 93 = .ok (.iconst 3, 1) := by decide +kernel
theorem dX12_orderOf_94 : decode cX12_orderOf 94 = .ok (.aload_n 0, 1) := by decide +kernel
theorem dX12_orderOf_95 : decode cX12_orderOf 95 = .ok (.getfield 49, 3) := by decide +kernel
theorem dX12_orderOf_98 : decode cX12_orderOf 98 = .ok (.iload_n 2, 1) := by decide +kernel
theorem dX12_orderOf_99 : decode cX12_orderOf 99 = .ok (.iaload, 1) := by decide +kernel
theorem dX12_orderOf_100 : decode cX12_orderOf 100 = .ok (.aload_n 0, 1) := by decide +kernel
theorem dX12_orderOf_101 : decode cX12_orderOf 101 = .ok (.invokevirtual 164, 3) := by decide +kernel
theorem dX12_orderOf_104 : decode cX12_orderOf 104 = .ok (.isub, 1) := by decide +kernel
theorem dX12_orderOf_105 : decode cX12_orderOf 105 = .ok (.iastore, 1) := by decide +kernel
theorem dX12_orderOf_106 : decode cX12_orderOf 106 = .ok (.aload_n 0, 1) := by decide +kernel
theorem dX12_orderOf_107 : decode cX12_orderOf 107 = .ok (.getfield 116, 3) := by decide +kernel
theorem dX12_orderOf_110 : decode cX12_orderOf 110 = .ok (.iconst 4, 1) := by decide +kernel
theorem dX12_orderOf_111 : decode cX12_orderOf 111 = .ok (.aload_n 0, 1) := by decide +kernel
theorem dX12_orderOf_112 : decode cX12_orderOf 112 = .ok (.getfield 40, 3) := by decide +kernel
theorem dX12_orderOf_115 : decode cX12_orderOf 115 = .ok (.iload_n 2, 1) := by decide +kernel
theorem dX12_orderOf_116 : decode cX12_orderOf 116 = .ok (.iaload, 1) := by decide +kernel
theorem dX12_orderOf_117 : decode cX12_orderOf 117 = .ok (.iastore, 1) := by decide +kernel
theorem dX12_orderOf_118 : decode cX12_orderOf 118 = .ok (.aload_n 0, 1) := by decide +kernel
theorem dX12_orderOf_119 : decode cX12_orderOf 119 = .ok (.getfield 116, 3) := by decide +kernel
theorem dX12_orderOf_122 : decode cX12_orderOf 122 = .ok (.iconst 5, 1) := by decide +kernel
theorem dX12_orderOf_123 : decode cX12_orderOf 123 = .ok (.aload_n 0, 1) := by decide +kernel
theorem dX12_orderOf_124 : decode cX12_orderOf 124 = .ok (.getfield 31, 3) := by decide +kernel
theorem dX12_orderOf_127 : decode cX12_orderOf 127 = .ok (.iload_n 2, 1) := by decide +kernel
theorem dX12_orderOf_128 : decode cX12_orderOf 128 = .ok (.iaload, 1) := by decide +kernel
theorem dX12_orderOf_129 : decode cX12_orderOf 129 = .ok (.iastore, 1) := by decide +kernel
theorem dX12_orderOf_130 : decode cX12_orderOf 130 = .ok (.aload_n 0, 1) := by decide +kernel
theorem dX12_orderOf_131 : decode cX12_orderOf 131 = .ok (.getfield 116, 3) := by decide +kernel
theorem dX12_orderOf_134 : decode cX12_orderOf 134 = .ok (.bipush 6, 2) := by decide +kernel
theorem dX12_orderOf_136 : decode cX12_orderOf 136 = .ok (.aload_n 0, 1) := by decide +kernel
theorem dX12_orderOf_137 : decode cX12_orderOf 137 = .ok (.getfield 52, 3) := by decide +kernel
theorem dX12_orderOf_140 : decode cX12_orderOf 140 = .ok (.iload_n 2, 1) := by decide +kernel
theorem dX12_orderOf_141 : decode cX12_orderOf 141 = .ok (.iaload, 1) := by decide +kernel
theorem dX12_orderOf_142 : decode cX12_orderOf 142 = .ok (.aload_n 0, 1) := by decide +kernel
theorem dX12_orderOf_143 : decode cX12_orderOf 143 = .ok (.iload_n 1, 1) := by decide +kernel
theorem dX12_orderOf_144 : decode cX12_orderOf 144 = .ok (.iconst 2, 1) := by decide +kernel
theorem dX12_orderOf_145 : decode cX12_orderOf 145 = .ok (.invokevirtual 272, 3) := by decide +kernel
theorem dX12_orderOf_148 : decode cX12_orderOf 148 = .ok (.iconst (-1), 1) := by decide +kernel
theorem dX12_orderOf_149 : decode cX12_orderOf 149 = .ok (.ixor, 1) := by decide +kernel
theorem dX12_orderOf_150 : decode cX12_orderOf 150 = .ok (.iand, 1) := by decide +kernel
theorem dX12_orderOf_151 : decode cX12_orderOf 151 = .ok (.invokestatic 275, 3) := by decide +kernel
theorem dX12_orderOf_154 : decode cX12_orderOf 154 = .ok (.iastore, 1) := by decide +kernel
theorem dX12_orderOf_155 : decode cX12_orderOf 155 = .ok (.aload_n 0, 1) := by decide +kernel
theorem dX12_orderOf_156 : decode cX12_orderOf 156 = .ok (.getfield 116, 3) := by decide +kernel
theorem dX12_orderOf_159 : decode cX12_orderOf 159 = .ok (.bipush 7, 2) := by decide +kernel
theorem dX12_orderOf_161 : decode cX12_orderOf 161 = .ok (.iload_n 3, 1) := by decide +kernel
theorem dX12_orderOf_162 : decode cX12_orderOf 162 = .ok (.iastore, 1) := by decide +kernel
theorem dX12_orderOf_163 : decode cX12_orderOf 163 = .ok (.aload_n 0, 1) := by decide +kernel
theorem dX12_orderOf_164 : decode cX12_orderOf 164 = .ok (.iconst 0, 1) := by decide +kernel
theorem dX12_orderOf_165 : decode cX12_orderOf 165 = .ok (.aload_n 0, 1) := by decide +kernel
theorem dX12_orderOf_166 : decode cX12_orderOf 166 = .ok (.invokevirtual 164, 3) := by decide +kernel
theorem dX12_orderOf_169 : decode cX12_orderOf 169 = .ok (.sipush 480, 3) := by decide +kernel
theorem dX12_orderOf_172 : decode cX12_orderOf 172 = .ok (.idiv, 1) := by decide +kernel
theorem dX12_orderOf_173 : decode cX12_orderOf 173 = .ok (.invokevirtual 278, 3) := by decide +kernel
theorem dX12_orderOf_176 : decode cX12_orderOf 176 = .ok (.ireturn, 1) := by decide +kernel
theorem dX12_mayDo_0 : decode cX12_mayDo 0 = .ok (.aload_n 0, 1) := by decide +kernel
theorem dX12_mayDo_1 : decode cX12_mayDo 1 = .ok (.getfield 16, 3) := by decide +kernel
theorem dX12_mayDo_4 : decode cX12_mayDo 4 = .ok (.iload_n 1, 1) := by decide +kernel
theorem dX12_mayDo_5 : decode cX12_mayDo 5 = .ok (.iaload, 1) := by decide +kernel
theorem dX12_mayDo_6 : decode cX12_mayDo 6 = .ok (.aload_n 0, 1) := by decide +kernel
theorem dX12_mayDo_7 : decode cX12_mayDo 7 = .ok (.getfield 34, 3) := by decide +kernel
theorem dX12_mayDo_10 : decode cX12_mayDo 10 = .ok (.iload_n 2, 1) := by decide +kernel
theorem dX12_mayDo_11 : decode cX12_mayDo 11 = .ok (.iaload, 1) := by decide +kernel
theorem dX12_mayDo_12 : decode cX12_mayDo 12 = .ok (.ishr, 1) := by decide +kernel
theorem dX12_mayDo_13 : decode cX12_mayDo 13 = .ok (.iconst 1, 1) := by decide +kernel
theorem dX12_mayDo_14 : decode cX12_mayDo 14 = .ok (.iand, 1) := by decide +kernel
theorem dX12_mayDo_15 : decode cX12_mayDo 15 = .ok (.ifCond .ne 5, 3) := by decide +kernel
theorem dX12_mayDo_18 : decode cX12_mayDo 18 = .ok (.iconst 0, 1) := by decide +kernel
theorem dX12_mayDo_19 : decode cX12_mayDo 19 = .ok (.ireturn, 1) := by decide +kernel
theorem dX12_mayDo_20 : decode cX12_mayDo 20 = .ok (.aload_n 0, 1) := by decide +kernel
theorem dX12_mayDo_21 : decode cX12_mayDo 21 = .ok (.getfield 116, 3) := by decide +kernel
theorem dX12_mayDo_24 : decode cX12_mayDo 24 = .ok (.iconst 0, 1) := by decide +kernel
theorem dX12_mayDo_25 : decode cX12_mayDo 25 = .ok (.aload_n 0, 1) := by decide +kernel
theorem dX12_mayDo_26 : decode cX12_mayDo 26 = .ok (.getfield 40, 3) := by decide +kernel
theorem dX12_mayDo_29 : decode cX12_mayDo 29 = .ok (.iload_n 2, 1) := by decide +kernel
theorem dX12_mayDo_30 : decode cX12_mayDo 30 = .ok (.iaload, 1) := by decide +kernel
theorem dX12_mayDo_31 : decode cX12_mayDo 31 = .ok (.iastore, 1) := by decide +kernel
theorem dX12_mayDo_32 : decode cX12_mayDo 32 = .ok (.aload_n 0, 1) := by decide +kernel
theorem dX12_mayDo_33 : decode cX12_mayDo 33 = .ok (.getfield 116, 3) := by decide +kernel
theorem dX12_mayDo_36 : decode cX12_mayDo 36 = .ok (.iconst 1, 1) := by decide +kernel
theorem dX12_mayDo_37 : decode cX12_mayDo 37 = .ok (.aload_n 0, 1) := by decide +kernel
theorem dX12_mayDo_38 : decode cX12_mayDo 38 = .ok (.getfield 19, 3) := by decide +kernel
theorem dX12_mayDo_41 : decode cX12_mayDo 41 = .ok (.iload_n 1, 1) := by decide +kernel
theorem dX12_mayDo_42 : decode cX12_mayDo 42 = .ok (.iaload, 1) := by decide +kernel
theorem dX12_mayDo_43 : decode cX12_mayDo 43 = .ok (.iastore, 1) := by decide +kernel
theorem dX12_mayDo_44 : decode cX12_mayDo 44 = .ok (.aload_n 0, 1) := by decide +kernel
theorem dX12_mayDo_45 : decode cX12_mayDo 45 = .ok (.getfield 116, 3) := by decide +kernel
theorem dX12_mayDo_48 : decode cX12_mayDo 48 = .ok (.iconst 2, 1) := by decide +kernel
theorem dX12_mayDo_49 : decode cX12_mayDo 49 = .ok (.aload_n 0, 1) := by decide +kernel
theorem dX12_mayDo_50 : decode cX12_mayDo 50 = .ok (.getfield 31, 3) := by decide +kernel
theorem dX12_mayDo_53 : decode cX12_mayDo 53 = .ok (.iload_n 2, 1) := by decide +kernel
theorem dX12_mayDo_54 : decode cX12_mayDo 54 = .ok (.iaload, 1) := by decide +kernel
theorem dX12_mayDo_55 : decode cX12_mayDo 55 = .ok (.iastore, 1) := by decide +kernel
theorem dX12_mayDo_56 : decode cX12_mayDo 56 = .ok (.aload_n 0, 1) := by decide +kernel
theorem dX12_mayDo_57 : decode cX12_mayDo 57 = .ok (.getfield 116, 3) := by decide +kernel
theorem dX12_mayDo_60 : decode cX12_mayDo 60 = .ok (.iconst 3, 1) := by decide +kernel
theorem dX12_mayDo_61 : decode cX12_mayDo 61 = .ok (.iload_n 1, 1) := by decide +kernel
theorem dX12_mayDo_62 : decode cX12_mayDo 62 = .ok (.iastore, 1) := by decide +kernel
theorem dX12_mayDo_63 : decode cX12_mayDo 63 = .ok (.aload_n 0, 1) := by decide +kernel
theorem dX12_mayDo_64 : decode cX12_mayDo 64 = .ok (.iconst 1, 1) := by decide +kernel
theorem dX12_mayDo_65 : decode cX12_mayDo 65 = .ok (.aload_n 0, 1) := by decide +kernel
theorem dX12_mayDo_66 : decode cX12_mayDo 66 = .ok (.invokevirtual 164, 3) := by decide +kernel
theorem dX12_mayDo_69 : decode cX12_mayDo 69 = .ok (.sipush 480, 3) := by decide +kernel
theorem dX12_mayDo_72 : decode cX12_mayDo 72 = .ok (.idiv, 1) := by decide +kernel
theorem dX12_mayDo_73 : decode cX12_mayDo 73 = .ok (.invokevirtual 278, 3) := by decide +kernel
theorem dX12_mayDo_76 : decode cX12_mayDo 76 = .ok (.ifCond .eq 7, 3) := by decide +kernel
theorem dX12_mayDo_79 : decode cX12_mayDo 79 = .ok (.iconst 1, 1) := by decide +kernel
theorem dX12_mayDo_80 : decode cX12_mayDo 80 = .ok (.goto 4, 3) := by decide +kernel
theorem dX12_mayDo_83 : decode cX12_mayDo 83 = .ok (.iconst 0, 1) := by decide +kernel
theorem dX12_mayDo_84 : decode cX12_mayDo 84 = .ok (.ireturn, 1) := by decide +kernel
theorem dX12_rate_0 : decode cX12_rate 0 = .ok (.iconst 5, 1) := by decide +kernel
theorem dX12_rate_1 : decode cX12_rate 1 = .ok (.iload_n 0, 1) := by decide +kernel
theorem dX12_rate_2 : decode cX12_rate 2 = .ok (.iconst 5, 1) := by decide +kernel
theorem dX12_rate_3 : decode cX12_rate 3 = .ok (.iload_n 1, 1) := by decide +kernel
theorem dX12_rate_4 : decode cX12_rate 4 = .ok (.invokestatic 275, 3) := by decide +kernel
theorem dX12_rate_7 : decode cX12_rate 7 = .ok (.imul, 1) := by decide +kernel
theorem dX12_rate_8 : decode cX12_rate 8 = .ok (.isub, 1) := by decide +kernel
theorem dX12_rate_9 : decode cX12_rate 9 = .ok (.invokestatic 281, 3) := by decide +kernel
theorem dX12_rate_12 : decode cX12_rate 12 = .ok (.ireturn, 1) := by decide +kernel
theorem dX12_choose_0 : decode cX12_choose 0 = .ok (.iconst (-1), 1) := by decide +kernel
theorem dX12_choose_1 : decode cX12_choose 1 = .ok (.istore_n 2, 1) := by decide +kernel
theorem dX12_choose_2 : decode cX12_choose 2 = .ok (.iconst 0, 1) := by decide +kernel
theorem dX12_choose_3 : decode cX12_choose 3 = .ok (.istore_n 3, 1) := by decide +kernel
theorem dX12_choose_4 : decode cX12_choose 4 = .ok (.iconst 0, 1) := by decide +kernel
theorem dX12_choose_5 : decode cX12_choose 5 = .ok (.istore 4, 2) := by decide +kernel
theorem dX12_choose_7 : decode cX12_choose 7 = .ok (.iload 4, 2) := by decide +kernel
theorem dX12_choose_9 : decode cX12_choose 9 = .ok (.aload_n 0, 1) := by decide +kernel
theorem dX12_choose_10 : decode cX12_choose 10 = .ok (.getfield 149, 3) := by decide +kernel
theorem dX12_choose_13 : decode cX12_choose 13 = .ok (.if_icmp .ge 60, 3) := by decide +kernel
theorem dX12_choose_16 : decode cX12_choose 16 = .ok (.aload_n 0, 1) := by decide +kernel
theorem dX12_choose_17 : decode cX12_choose 17 = .ok (.iload 4, 2) := by decide +kernel
theorem dX12_choose_19 : decode cX12_choose 19 = .ok (.invokevirtual 269, 3) := by decide +kernel
theorem dX12_choose_22 : decode cX12_choose 22 = .ok (.ifCond .eq 45, 3) := by decide +kernel
theorem dX12_choose_25 : decode cX12_choose 25 = .ok (.aload_n 0, 1) := by decide +kernel
theorem dX12_choose_26 : decode cX12_choose 26 = .ok (.iload_n 1, 1) := by decide +kernel
theorem dX12_choose_27 : decode cX12_choose 27 = .ok (.iload 4, 2) := by decide +kernel
theorem dX12_choose_29 : decode cX12_choose 29 = .ok (.invokevirtual 286, 3) := by decide +kernel
theorem dX12_choose_32 : decode cX12_choose 32 = .ok (.ifCond .ne 6, 3) := by decide +kernel
theorem dX12_choose_35 : decode cX12_choose 35 = .ok (.goto 32, 3) := by decide +kernel
theorem dX12_choose_38 : decode cX12_choose 38 = .ok (.aload_n 0, 1) := by decide +kernel
theorem dX12_choose_39 : decode cX12_choose 39 = .ok (.iload_n 1, 1) := by decide +kernel
theorem dX12_choose_40 : decode cX12_choose 40 = .ok (.iload 4, 2) := by decide +kernel
theorem dX12_choose_42 : decode cX12_choose 42 = .ok (.invokevirtual 290, 3) := by decide +kernel
theorem dX12_choose_45 : decode cX12_choose 45 = .ok (.istore 5, 2) := by decide +kernel
theorem dX12_choose_47 : decode cX12_choose 47 = .ok (.iload_n 2, 1) := by decide +kernel
theorem dX12_choose_48 : decode cX12_choose 48 = .ok (.iconst (-1), 1) := by decide +kernel
theorem dX12_choose_49 : decode cX12_choose 49 = .ok (.if_icmp .eq 12, 3) := by decide +kernel
theorem dX12_choose_52 : decode cX12_choose 52 = .ok (.iload 5, 2) := by decide +kernel
theorem dX12_choose_54 : decode cX12_choose 54 = .ok (.iload_n 3, 1) := by decide +kernel
theorem dX12_choose_55 : decode cX12_choose 55 = .ok (.if_icmp .lt 6, 3) := by decide +kernel
theorem dX12_choose_58 : decode cX12_choose 58 = .ok (.goto 9, 3) := by decide +kernel
theorem dX12_choose_61 : decode cX12_choose 61 = .ok (.iload 4, 2) := by decide +kernel
theorem dX12_choose_63 : decode cX12_choose 63 = .ok (.istore_n 2, 1) := by decide +kernel
theorem dX12_choose_64 : decode cX12_choose 64 = .ok (.iload 5, 2) := by decide +kernel
theorem dX12_choose_66 : decode cX12_choose 66 = .ok (.istore_n 3, 1) := by decide +kernel
theorem dX12_choose_67 : decode cX12_choose 67 = .ok (.iinc 4 1, 3) := by decide +kernel
theorem dX12_choose_70 : decode cX12_choose 70 = .ok (.goto (-63), 3) := by decide +kernel
theorem dX12_choose_73 : decode cX12_choose 73 = .ok (.iload_n 2, 1) := by decide +kernel
theorem dX12_choose_74 : decode cX12_choose 74 = .ok (.ireturn, 1) := by decide +kernel
theorem dX12_goMinute_0 : decode cX12_goMinute 0 = .ok (.iconst 0, 1) := by decide +kernel
theorem dX12_goMinute_1 : decode cX12_goMinute 1 = .ok (.istore_n 1, 1) := by decide +kernel
theorem dX12_goMinute_2 : decode cX12_goMinute 2 = .ok (.iload_n 1, 1) := by decide +kernel
theorem dX12_goMinute_3 : decode cX12_goMinute 3 = .ok (.aload_n 0, 1) := by decide +kernel
theorem dX12_goMinute_4 : decode cX12_goMinute 4 = .ok (.getfield 142, 3) := by decide +kernel
theorem dX12_goMinute_7 : decode cX12_goMinute 7 = .ok (.if_icmp .ge 119, 3) := by decide +kernel
theorem dX12_goMinute_10 : decode cX12_goMinute 10 = .ok (.aload_n 0, 1) := by decide +kernel
theorem dX12_goMinute_11 : decode cX12_goMinute 11 = .ok (.iload_n 1, 1) := by decide +kernel
theorem dX12_goMinute_12 : decode cX12_goMinute 12 = .ok (.iconst 0, 1) := by decide +kernel
theorem dX12_goMinute_13 : decode cX12_goMinute 13 = .ok (.invokevirtual 272, 3) := by decide +kernel
theorem dX12_goMinute_16 : decode cX12_goMinute 16 = .ok (.iconst (-1), 1) := by decide +kernel
theorem dX12_goMinute_17 : decode cX12_goMinute 17 = .ok (.if_icmp .ne 103, 3) := by decide +kernel
theorem dX12_goMinute_20 : decode cX12_goMinute 20 = .ok (.aload_n 0, 1) := by decide +kernel
theorem dX12_goMinute_21 : decode cX12_goMinute 21 = .ok (.iload_n 1, 1) := by decide +kernel
theorem dX12_goMinute_22 : decode cX12_goMinute 22 = .ok (.aload_n 0, 1) := by decide +kernel
theorem dX12_goMinute_23 : decode cX12_goMinute 23 = .ok (.invokevirtual 164, 3) := by decide +kernel
theorem dX12_goMinute_26 : decode cX12_goMinute 26 = .ok (.invokevirtual 293, 3) := by decide +kernel
theorem dX12_goMinute_29 : decode cX12_goMinute 29 = .ok (.ifCond .eq 6, 3) := by decide +kernel
theorem dX12_goMinute_32 : decode cX12_goMinute 32 = .ok (.goto 88, 3) := by decide +kernel
theorem dX12_goMinute_35 : decode cX12_goMinute 35 = .ok (.aload_n 0, 1) := by decide +kernel
theorem dX12_goMinute_36 : decode cX12_goMinute 36 = .ok (.iload_n 1, 1) := by decide +kernel
theorem dX12_goMinute_37 : decode cX12_goMinute 37 = .ok (.invokevirtual 296, 3) := by decide +kernel
theorem dX12_goMinute_40 : decode cX12_goMinute 40 = .ok (.istore_n 2, 1) := by decide +kernel
theorem dX12_goMinute_41 : decode cX12_goMinute 41 = .ok (.iload_n 2, 1) := by decide +kernel
theorem dX12_goMinute_42 : decode cX12_goMinute 42 = .ok (.iconst (-1), 1) := by decide +kernel
theorem dX12_goMinute_43 : decode cX12_goMinute 43 = .ok (.if_icmp .ne 6, 3) := by decide +kernel
theorem dX12_goMinute_46 : decode cX12_goMinute 46 = .ok (.goto 74, 3) := by decide +kernel
theorem dX12_goMinute_49 : decode cX12_goMinute 49 = .ok (.aload_n 0, 1) := by decide +kernel
theorem dX12_goMinute_50 : decode cX12_goMinute 50 = .ok (.getfield 52, 3) := by decide +kernel
theorem dX12_goMinute_53 : decode cX12_goMinute 53 = .ok (.iload_n 2, 1) := by decide +kernel
theorem dX12_goMinute_54 : decode cX12_goMinute 54 = .ok (.iaload, 1) := by decide +kernel
theorem dX12_goMinute_55 : decode cX12_goMinute 55 = .ok (.aload_n 0, 1) := by decide +kernel
theorem dX12_goMinute_56 : decode cX12_goMinute 56 = .ok (.iload_n 1, 1) := by decide +kernel
theorem dX12_goMinute_57 : decode cX12_goMinute 57 = .ok (.iconst 2, 1) := by decide +kernel
theorem dX12_goMinute_58 : decode cX12_goMinute 58 = .ok (.invokevirtual 272, 3) := by decide +kernel
theorem dX12_goMinute_61 : decode cX12_goMinute 61 = .ok (.iconst (-1), 1) := by decide +kernel
theorem dX12_goMinute_62 : decode cX12_goMinute 62 = .ok (.ixor, 1) := by decide +kernel
theorem dX12_goMinute_63 : decode cX12_goMinute 63 = .ok (.iand, 1) := by decide +kernel
theorem dX12_goMinute_64 : decode cX12_goMinute 64 = .ok (.istore_n 3, 1) := by decide +kernel
theorem dX12_goMinute_65 : decode cX12_goMinute 65 = .ok (.aload_n 0, 1) := by decide +kernel
theorem dX12_goMinute_66 : decode cX12_goMinute 66 = .ok (.iload_n 1, 1) := by decide +kernel
theorem dX12_goMinute_67 : decode cX12_goMinute 67 = .ok (.iconst 0, 1) := by decide +kernel
theorem dX12_goMinute_68 : decode cX12_goMinute 68 = .ok (.iload_n 2, 1) := by decide +kernel
theorem dX12_goMinute_69 : decode cX12_goMinute 69 = .ok (.invokevirtual 156, 3) := by decide +kernel
theorem dX12_goMinute_72 : decode cX12_goMinute 72 = .ok (.aload_n 0, 1) := by decide +kernel
theorem dX12_goMinute_73 : decode cX12_goMinute 73 = .ok (.iload_n 1, 1) := by decide +kernel
theorem dX12_goMinute_74 : decode cX12_goMinute 74 = .ok (.iconst 1, 1) := by decide +kernel
theorem dX12_goMinute_75 : decode cX12_goMinute 75 = .ok (.aload_n 0, 1) := by decide +kernel
theorem dX12_goMinute_76 : decode cX12_goMinute 76 = .ok (.getfield 13, 3) := by decide +kernel
theorem dX12_goMinute_79 : decode cX12_goMinute 79 = .ok (.iload_n 1, 1) := by decide +kernel
theorem dX12_goMinute_80 : decode cX12_goMinute 80 = .ok (.iaload, 1) := by decide +kernel
theorem dX12_goMinute_81 : decode cX12_goMinute 81 = .ok (.iload_n 3, 1) := by decide +kernel
theorem dX12_goMinute_82 : decode cX12_goMinute 82 = .ok (.invokestatic 299, 3) := by decide +kernel
theorem dX12_goMinute_85 : decode cX12_goMinute 85 = .ok (.invokevirtual 156, 3) := by decide +kernel
theorem dX12_goMinute_88 : decode cX12_goMinute 88 = .ok (.aload_n 0, 1) := by decide +kernel
theorem dX12_goMinute_89 : decode cX12_goMinute 89 = .ok (.iload_n 2, 1) := by decide +kernel
theorem dX12_goMinute_90 : decode cX12_goMinute 90 = .ok (.iconst 0, 1) := by decide +kernel
theorem dX12_goMinute_91 : decode cX12_goMinute 91 = .ok (.iload_n 1, 1) := by decide +kernel
theorem dX12_goMinute_92 : decode cX12_goMinute 92 = .ok (.invokevirtual 170, 3) := by decide +kernel
theorem dX12_goMinute_95 : decode cX12_goMinute 95 = .ok (.aload_n 0, 1) := by decide +kernel
theorem dX12_goMinute_96 : decode cX12_goMinute 96 = .ok (.iload_n 2, 1) := by decide +kernel
theorem dX12_goMinute_97 : decode cX12_goMinute 97 = .ok (.iconst 1, 1) := by decide +kernel
theorem dX12_goMinute_98 : decode cX12_goMinute 98 = .ok (.aload_n 0, 1) := by decide +kernel
theorem dX12_goMinute_99 : decode cX12_goMinute 99 = .ok (.invokevirtual 164, 3) := by decide +kernel
theorem dX12_goMinute_102 : decode cX12_goMinute 102 = .ok (.invokevirtual 170, 3) := by decide +kernel
theorem dX12_goMinute_105 : decode cX12_goMinute 105 = .ok (.aload_n 0, 1) := by decide +kernel
theorem dX12_goMinute_106 : decode cX12_goMinute 106 = .ok (.iload_n 2, 1) := by decide +kernel
theorem dX12_goMinute_107 : decode cX12_goMinute 107 = .ok (.iconst 4, 1) := by decide +kernel
theorem dX12_goMinute_108 : decode cX12_goMinute 108 = .ok (.iload_n 3, 1) := by decide +kernel
theorem dX12_goMinute_109 : decode cX12_goMinute 109 = .ok (.ifCond .ne 7, 3) := by decide +kernel
theorem dX12_goMinute_112 : decode cX12_goMinute 112 = .ok (.iconst 1, 1) := by decide +kernel
theorem dX12_goMinute_113 : decode cX12_goMinute 113 = .ok (.goto 4, 3) := by decide +kernel
theorem dX12_goMinute_116 : decode cX12_goMinute 116 = .ok (.iconst 0, 1) := by decide +kernel
theorem dX12_goMinute_117 : decode cX12_goMinute 117 = .ok (.invokevirtual 170, 3) := by decide +kernel
theorem dX12_goMinute_120 : decode cX12_goMinute 120 = .ok (.iinc 1 1, 3) := by decide +kernel
theorem dX12_goMinute_123 : decode cX12_goMinute 123 = .ok (.goto (-121), 3) := by decide +kernel
theorem dX12_goMinute_126 : decode cX12_goMinute 126 = .ok (.iconst 0, 1) := by decide +kernel
theorem dX12_goMinute_127 : decode cX12_goMinute 127 = .ok (.istore_n 1, 1) := by decide +kernel
theorem dX12_goMinute_128 : decode cX12_goMinute 128 = .ok (.iload_n 1, 1) := by decide +kernel
theorem dX12_goMinute_129 : decode cX12_goMinute 129 = .ok (.aload_n 0, 1) := by decide +kernel
theorem dX12_goMinute_130 : decode cX12_goMinute 130 = .ok (.getfield 142, 3) := by decide +kernel
theorem dX12_goMinute_133 : decode cX12_goMinute 133 = .ok (.if_icmp .ge 163, 3) := by decide +kernel
theorem dX12_goMinute_136 : decode cX12_goMinute 136 = .ok (.aload_n 0, 1) := by decide +kernel
theorem dX12_goMinute_137 : decode cX12_goMinute 137 = .ok (.iload_n 1, 1) := by decide +kernel
theorem dX12_goMinute_138 : decode cX12_goMinute 138 = .ok (.iconst 0, 1) := by decide +kernel
theorem dX12_goMinute_139 : decode cX12_goMinute 139 = .ok (.invokevirtual 272, 3) := by decide +kernel
theorem dX12_goMinute_142 : decode cX12_goMinute 142 = .ok (.istore_n 2, 1) := by decide +kernel
theorem dX12_goMinute_143 : decode cX12_goMinute 143 = .ok (.iload_n 2, 1) := by decide +kernel
theorem dX12_goMinute_144 : decode cX12_goMinute 144 = .ok (.iconst (-1), 1) := by decide +kernel
theorem dX12_goMinute_145 : decode cX12_goMinute 145 = .ok (.if_icmp .eq 145, 3) := by decide +kernel
theorem dX12_goMinute_148 : decode cX12_goMinute 148 = .ok (.aload_n 0, 1) := by decide +kernel
theorem dX12_goMinute_149 : decode cX12_goMinute 149 = .ok (.iload_n 1, 1) := by decide +kernel
theorem dX12_goMinute_150 : decode cX12_goMinute 150 = .ok (.aload_n 0, 1) := by decide +kernel
theorem dX12_goMinute_151 : decode cX12_goMinute 151 = .ok (.invokevirtual 164, 3) := by decide +kernel
theorem dX12_goMinute_154 : decode cX12_goMinute 154 = .ok (.invokevirtual 293, 3) := by decide +kernel
theorem dX12_goMinute_157 : decode cX12_goMinute 157 = .ok (.ifCond .eq 6, 3) := by decide +kernel
theorem dX12_goMinute_160 : decode cX12_goMinute 160 = .ok (.goto 130, 3) := by decide +kernel
theorem dX12_goMinute_163 : decode cX12_goMinute 163 = .ok (.aload_n 0, 1) := by decide +kernel
theorem dX12_goMinute_164 : decode cX12_goMinute 164 = .ok (.iload_n 1, 1) := by decide +kernel
theorem dX12_goMinute_165 : decode cX12_goMinute 165 = .ok (.iconst 3, 1) := by decide +kernel
theorem dX12_goMinute_166 : decode cX12_goMinute 166 = .ok (.aload_n 0, 1) := by decide +kernel
theorem dX12_goMinute_167 : decode cX12_goMinute 167 = .ok (.iload_n 1, 1) := by decide +kernel
theorem dX12_goMinute_168 : decode cX12_goMinute 168 = .ok (.iconst 3, 1) := by decide +kernel
theorem dX12_goMinute_169 : decode cX12_goMinute 169 = .ok (.invokevirtual 272, 3) := by decide +kernel
theorem dX12_goMinute_172 : decode cX12_goMinute 172 = .ok (.iconst 1, 1) := by decide +kernel
theorem dX12_goMinute_173 : decode cX12_goMinute 173 = .ok (.iadd, 1) := by decide +kernel
theorem dX12_goMinute_174 : decode cX12_goMinute 174 = .ok (.invokevirtual 156, 3) := by decide +kernel
theorem dX12_goMinute_177 : decode cX12_goMinute 177 = .ok (.aload_n 0, 1) := by decide +kernel
theorem dX12_goMinute_178 : decode cX12_goMinute 178 = .ok (.iload_n 2, 1) := by decide +kernel
theorem dX12_goMinute_179 : decode cX12_goMinute 179 = .ok (.iconst 3, 1) := by decide +kernel
theorem dX12_goMinute_180 : decode cX12_goMinute 180 = .ok (.iconst 0, 1) := by decide +kernel
theorem dX12_goMinute_181 : decode cX12_goMinute 181 = .ok (.aload_n 0, 1) := by decide +kernel
theorem dX12_goMinute_182 : decode cX12_goMinute 182 = .ok (.iload_n 2, 1) := by decide +kernel
theorem dX12_goMinute_183 : decode cX12_goMinute 183 = .ok (.iconst 3, 1) := by decide +kernel
theorem dX12_goMinute_184 : decode cX12_goMinute 184 = .ok (.invokevirtual 261, 3) := by decide +kernel
theorem dX12_goMinute_187 : decode cX12_goMinute 187 = .ok (.aload_n 0, 1) := by decide +kernel
theorem dX12_goMinute_188 : decode cX12_goMinute 188 = .ok (.iload_n 1, 1) := by decide +kernel
theorem dX12_goMinute_189 : decode cX12_goMinute 189 = .ok (.iconst 1, 1) := by decide +kernel
theorem dX12_goMinute_190 : decode cX12_goMinute 190 = .ok (.invokevirtual 272, 3) := by decide +kernel
theorem dX12_goMinute_193 : decode cX12_goMinute 193 = .ok (.isub, 1) := by decide +kernel
theorem dX12_goMinute_194 : decode cX12_goMinute 194 = .ok (.invokestatic 281, 3) := by decide +kernel
theorem dX12_goMinute_197 : decode cX12_goMinute 197 = .ok (.invokevirtual 170, 3) := by decide +kernel
theorem dX12_goMinute_200 : decode cX12_goMinute 200 = .ok (.aload_n 0, 1) := by decide +kernel
theorem dX12_goMinute_201 : decode cX12_goMinute 201 = .ok (.iload_n 2, 1) := by decide +kernel
theorem dX12_goMinute_202 : decode cX12_goMinute 202 = .ok (.iconst 3, 1) := by decide +kernel
theorem dX12_goMinute_203 : decode cX12_goMinute 203 = .ok (.invokevirtual 261, 3) := by decide +kernel
theorem dX12_goMinute_206 : decode cX12_goMinute 206 = .ok (.ifCond .le 6, 3) := by decide +kernel
theorem dX12_goMinute_209 : decode cX12_goMinute 209 = .ok (.goto 81, 3) := by decide +kernel
theorem dX12_goMinute_212 : decode cX12_goMinute 212 = .ok (.aload_n 0, 1) := by decide +kernel
theorem dX12_goMinute_213 : decode cX12_goMinute 213 = .ok (.iload_n 2, 1) := by decide +kernel
theorem dX12_goMinute_214 : decode cX12_goMinute 214 = .ok (.iconst 2, 1) := by decide +kernel
theorem dX12_goMinute_215 : decode cX12_goMinute 215 = .ok (.aload_n 0, 1) := by decide +kernel
theorem dX12_goMinute_216 : decode cX12_goMinute 216 = .ok (.invokevirtual 164, 3) := by decide +kernel
theorem dX12_goMinute_219 : decode cX12_goMinute 219 = .ok (.iconst 1, 1) := by decide +kernel
theorem dX12_goMinute_220 : decode cX12_goMinute 220 = .ok (.iadd, 1) := by decide +kernel
theorem dX12_goMinute_221 : decode cX12_goMinute 221 = .ok (.invokevirtual 170, 3) := by decide +kernel
theorem dX12_goMinute_224 : decode cX12_goMinute 224 = .ok (.aload_n 0, 1) := by decide +kernel
theorem dX12_goMinute_225 : decode cX12_goMinute 225 = .ok (.iload_n 1, 1) := by decide +kernel
theorem dX12_goMinute_226 : decode cX12_goMinute 226 = .ok (.iconst 0, 1) := by decide +kernel
theorem dX12_goMinute_227 : decode cX12_goMinute 227 = .ok (.iconst (-1), 1) := by decide +kernel
theorem dX12_goMinute_228 : decode cX12_goMinute 228 = .ok (.invokevirtual 156, 3) := by decide +kernel
theorem dX12_goMinute_231 : decode cX12_goMinute 231 = .ok (.aload_n 0, 1) := by decide +kernel
theorem dX12_goMinute_232 : decode cX12_goMinute 232 = .ok (.iload_n 1, 1) := by decide +kernel
theorem dX12_goMinute_233 : decode cX12_goMinute 233 = .ok (.iconst 1, 1) := by decide +kernel
theorem dX12_goMinute_234 : decode cX12_goMinute 234 = .ok (.iconst (-1), 1) := by decide +kernel
theorem dX12_goMinute_235 : decode cX12_goMinute 235 = .ok (.invokevirtual 156, 3) := by decide +kernel
theorem dX12_goMinute_238 : decode cX12_goMinute 238 = .ok (.aload_n 0, 1) := by decide +kernel
theorem dX12_goMinute_239 : decode cX12_goMinute 239 = .ok (.iload_n 1, 1) := by decide +kernel
theorem dX12_goMinute_240 : decode cX12_goMinute 240 = .ok (.iconst 2, 1) := by decide +kernel
theorem dX12_goMinute_241 : decode cX12_goMinute 241 = .ok (.aload_n 0, 1) := by decide +kernel
theorem dX12_goMinute_242 : decode cX12_goMinute 242 = .ok (.iload_n 1, 1) := by decide +kernel
theorem dX12_goMinute_243 : decode cX12_goMinute 243 = .ok (.iconst 2, 1) := by decide +kernel
theorem dX12_goMinute_244 : decode cX12_goMinute 244 = .ok (.invokevirtual 272, 3) := by decide +kernel
theorem dX12_goMinute_247 : decode cX12_goMinute 247 = .ok (.aload_n 0, 1) := by decide +kernel
theorem dX12_goMinute_248 : decode cX12_goMinute 248 = .ok (.getfield 52, 3) := by decide +kernel
theorem dX12_goMinute_251 : decode cX12_goMinute 251 = .ok (.iload_n 2, 1) := by decide +kernel
theorem dX12_goMinute_252 : decode cX12_goMinute 252 = .ok (.iaload, 1) := by decide +kernel
theorem dX12_goMinute_253 : decode cX12_goMinute 253 = .ok (.ior, 1) := by decide +kernel
theorem dX12_goMinute_254 : decode cX12_goMinute 254 = .ok (.invokevirtual 156, 3) := by decide +kernel
theorem dX12_goMinute_257 : decode cX12_goMinute 257 = .ok (.aload_n 0, 1) := by decide +kernel
theorem dX12_goMinute_258 : decode cX12_goMinute 258 = .ok (.iload_n 1, 1) := by decide +kernel
theorem dX12_goMinute_259 : decode cX12_goMinute 259 = .ok (.iconst 4, 1) := by decide +kernel
theorem dX12_goMinute_260 : decode cX12_goMinute 260 = .ok (.aload_n 0, 1) := by decide +kernel
theorem dX12_goMinute_261 : decode cX12_goMinute 261 = .ok (.iload_n 1, 1) := by decide +kernel
theorem dX12_goMinute_262 : decode cX12_goMinute 262 = .ok (.iconst 4, 1) := by decide +kernel
theorem dX12_goMinute_263 : decode cX12_goMinute 263 = .ok (.invokevirtual 272, 3) := by decide +kernel
theorem dX12_goMinute_266 : decode cX12_goMinute 266 = .ok (.aload_n 0, 1) := by decide +kernel
theorem dX12_goMinute_267 : decode cX12_goMinute 267 = .ok (.getfield 37, 3) := by decide +kernel
theorem dX12_goMinute_270 : decode cX12_goMinute 270 = .ok (.iload_n 2, 1) := by decide +kernel
theorem dX12_goMinute_271 : decode cX12_goMinute 271 = .ok (.iaload, 1) := by decide +kernel
theorem dX12_goMinute_272 : decode cX12_goMinute 272 = .ok (.iadd, 1) := by decide +kernel
theorem dX12_goMinute_273 : decode cX12_goMinute 273 = .ok (.invokevirtual 156, 3) := by decide +kernel
theorem dX12_goMinute_276 : decode cX12_goMinute 276 = .ok (.aload_n 0, 1) := by decide +kernel
theorem dX12_goMinute_277 : decode cX12_goMinute 277 = .ok (.iload_n 1, 1) := by decide +kernel
theorem dX12_goMinute_278 : decode cX12_goMinute 278 = .ok (.iconst 5, 1) := by decide +kernel
theorem dX12_goMinute_279 : decode cX12_goMinute 279 = .ok (.aload_n 0, 1) := by decide +kernel
theorem dX12_goMinute_280 : decode cX12_goMinute 280 = .ok (.iload_n 1, 1) := by decide +kernel
theorem dX12_goMinute_281 : decode cX12_goMinute 281 = .ok (.iconst 5, 1) := by decide +kernel
theorem dX12_goMinute_282 : decode cX12_goMinute 282 = .ok (.invokevirtual 272, 3) := by decide +kernel
theorem dX12_goMinute_285 : decode cX12_goMinute 285 = .ok (.iconst 1, 1) := by decide +kernel
theorem dX12_goMinute_286 : decode cX12_goMinute 286 = .ok (.iadd, 1) := by decide +kernel
theorem dX12_goMinute_287 : decode cX12_goMinute 287 = .ok (.invokevirtual 156, 3) := by decide +kernel
theorem dX12_goMinute_290 : decode cX12_goMinute 290 = .ok (.iinc 1 1, 3) := by decide +kernel
theorem dX12_goMinute_293 : decode cX12_goMinute 293 = .ok (.goto (-165), 3) := by decide +kernel
theorem dX12_goMinute_296 : decode cX12_goMinute 296 = .ok (.aload_n 0, 1) := by decide +kernel
theorem dX12_goMinute_297 : decode cX12_goMinute 297 = .ok (.getfield 107, 3) := by decide +kernel
theorem dX12_goMinute_300 : decode cX12_goMinute 300 = .ok (.iconst 0, 1) := by decide +kernel
theorem dX12_goMinute_301 : decode cX12_goMinute 301 = .ok (.dup2, 1) := by decide +kernel
theorem dX12_goMinute_302 : decode cX12_goMinute 302 = .ok (.iaload, 1) := by decide +kernel
theorem dX12_goMinute_303 : decode cX12_goMinute 303 = .ok (.iconst 1, 1) := by decide +kernel
theorem dX12_goMinute_304 : decode cX12_goMinute 304 = .ok (.iadd, 1) := by decide +kernel
theorem dX12_goMinute_305 : decode cX12_goMinute 305 = .ok (.iastore, 1) := by decide +kernel
theorem dX12_goMinute_306 : decode cX12_goMinute 306 = .ok (.return_, 1) := by decide +kernel
theorem dX12_canGo_0 : decode cX12_canGo 0 = .ok (.iload_n 1, 1) := by decide +kernel
theorem dX12_canGo_1 : decode cX12_canGo 1 = .ok (.iload_n 2, 1) := by decide +kernel
theorem dX12_canGo_2 : decode cX12_canGo 2 = .ok (.sipush 960, 3) := by decide +kernel
theorem dX12_canGo_5 : decode cX12_canGo 5 = .ok (.invokestatic 145, 3) := by decide +kernel
theorem dX12_canGo_8 : decode cX12_canGo 8 = .ok (.ifCond .eq 19, 3) := by decide +kernel
theorem dX12_canGo_11 : decode cX12_canGo 11 = .ok (.aload_n 0, 1) := by decide +kernel
theorem dX12_canGo_12 : decode cX12_canGo 12 = .ok (.invokevirtual 164, 3) := by decide +kernel
theorem dX12_canGo_15 : decode cX12_canGo 15 = .ok (.iload_n 1, 1) := by decide +kernel
theorem dX12_canGo_16 : decode cX12_canGo 16 = .ok (.iadd, 1) := by decide +kernel
theorem dX12_canGo_17 : decode cX12_canGo 17 = .ok (.sipush 4800, 3) := by decide +kernel
theorem dX12_canGo_20 : decode cX12_canGo 20 = .ok (.if_icmp .gt 7, 3) := by decide +kernel
theorem dX12_canGo_23 : decode cX12_canGo 23 = .ok (.iconst 1, 1) := by decide +kernel
theorem dX12_canGo_24 : decode cX12_canGo 24 = .ok (.goto 4, 3) := by decide +kernel
theorem dX12_canGo_27 : decode cX12_canGo 27 = .ok (.iconst 0, 1) := by decide +kernel
theorem dX12_canGo_28 : decode cX12_canGo 28 = .ok (.ireturn, 1) := by decide +kernel
theorem dX12_go_0 : decode cX12_go 0 = .ok (.iconst 0, 1) := by decide +kernel
theorem dX12_go_1 : decode cX12_go 1 = .ok (.istore_n 2, 1) := by decide +kernel
theorem dX12_go_2 : decode cX12_go 2 = .ok (.iload_n 2, 1) := by decide +kernel
theorem dX12_go_3 : decode cX12_go 3 = .ok (.iload_n 1, 1) := by decide +kernel
theorem dX12_go_4 : decode cX12_go 4 = .ok (.if_icmp .ge 13, 3) := by decide +kernel
theorem dX12_go_7 : decode cX12_go 7 = .ok (.aload_n 0, 1) := by decide +kernel
theorem dX12_go_8 : decode cX12_go 8 = .ok (.invokevirtual 302, 3) := by decide +kernel
theorem dX12_go_11 : decode cX12_go 11 = .ok (.iinc 2 1, 3) := by decide +kernel
theorem dX12_go_14 : decode cX12_go 14 = .ok (.goto (-12), 3) := by decide +kernel
theorem dX12_go_17 : decode cX12_go 17 = .ok (.return_, 1) := by decide +kernel
theorem dX12_step_0 : decode cX12_step 0 = .ok (.aload_n 0, 1) := by decide +kernel
theorem dX12_step_1 : decode cX12_step 1 = .ok (.iconst 0, 1) := by decide +kernel
theorem dX12_step_2 : decode cX12_step 2 = .ok (.putfield 139, 3) := by decide +kernel
theorem dX12_step_5 : decode cX12_step 5 = .ok (.aload_n 0, 1) := by decide +kernel
theorem dX12_step_6 : decode cX12_step 6 = .ok (.iload_n 1, 1) := by decide +kernel
theorem dX12_step_7 : decode cX12_step 7 = .ok (.iconst 0, 1) := by decide +kernel
theorem dX12_step_8 : decode cX12_step 8 = .ok (.invokevirtual 305, 3) := by decide +kernel
theorem dX12_step_11 : decode cX12_step 11 = .ok (.ifCond .ne 5, 3) := by decide +kernel
theorem dX12_step_14 : decode cX12_step 14 = .ok (.iconst (-1), 1) := by decide +kernel
theorem dX12_step_15 : decode cX12_step 15 = .ok (.ireturn, 1) := by decide +kernel
theorem dX12_step_16 : decode cX12_step 16 = .ok (.aload_n 0, 1) := by decide +kernel
theorem dX12_step_17 : decode cX12_step 17 = .ok (.iload_n 1, 1) := by decide +kernel
theorem dX12_step_18 : decode cX12_step 18 = .ok (.invokevirtual 308, 3) := by decide +kernel
theorem dX12_step_21 : decode cX12_step 21 = .ok (.aload_n 0, 1) := by decide +kernel
theorem dX12_step_22 : decode cX12_step 22 = .ok (.invokevirtual 164, 3) := by decide +kernel
theorem dX12_step_25 : decode cX12_step 25 = .ok (.ireturn, 1) := by decide +kernel
theorem dX12_of_0 : decode cX12_of 0 = .ok (.aload_n 0, 1) := by decide +kernel
theorem dX12_of_1 : decode cX12_of 1 = .ok (.iconst 0, 1) := by decide +kernel
theorem dX12_of_2 : decode cX12_of 2 = .ok (.putfield 139, 3) := by decide +kernel
theorem dX12_of_5 : decode cX12_of 5 = .ok (.aload_n 0, 1) := by decide +kernel
theorem dX12_of_6 : decode cX12_of 6 = .ok (.iload_n 1, 1) := by decide +kernel
theorem dX12_of_7 : decode cX12_of 7 = .ok (.invokevirtual 160, 3) := by decide +kernel
theorem dX12_of_10 : decode cX12_of 10 = .ok (.ifCond .eq 13, 3) := by decide +kernel
theorem dX12_of_13 : decode cX12_of 13 = .ok (.iload_n 2, 1) := by decide +kernel
theorem dX12_of_14 : decode cX12_of 14 = .ok (.iconst 0, 1) := by decide +kernel
theorem dX12_of_15 : decode cX12_of 15 = .ok (.bipush 6, 2) := by decide +kernel
theorem dX12_of_17 : decode cX12_of 17 = .ok (.invokestatic 145, 3) := by decide +kernel
theorem dX12_of_20 : decode cX12_of 20 = .ok (.ifCond .ne 8, 3) := by decide +kernel
theorem dX12_of_23 : decode cX12_of 23 = .ok (.aload_n 0, 1) := by decide +kernel
theorem dX12_of_24 : decode cX12_of 24 = .ok (.invokevirtual 312, 3) := by decide +kernel
theorem dX12_of_27 : decode cX12_of 27 = .ok (.ireturn, 1) := by decide +kernel
theorem dX12_of_28 : decode cX12_of 28 = .ok (.iload_n 2, 1) := by decide +kernel
theorem dX12_of_29 : decode cX12_of 29 = .ok (.tableswitch 92 0 5 #[39, 46, 53, 60, 67, 74], 39) := by decide +kernel
theorem dX12_of_68 : decode cX12_of 68 = .ok (.aload_n 0, 1) := by decide +kernel
theorem dX12_of_69 : decode cX12_of 69 = .ok (.iload_n 1, 1) := by decide +kernel
theorem dX12_of_70 : decode cX12_of 70 = .ok (.iconst 0, 1) := by decide +kernel
theorem dX12_of_71 : decode cX12_of 71 = .ok (.invokevirtual 272, 3) := by decide +kernel
theorem dX12_of_74 : decode cX12_of 74 = .ok (.ireturn, 1) := by decide +kernel
theorem dX12_of_75 : decode cX12_of 75 = .ok (.aload_n 0, 1) := by decide +kernel
theorem dX12_of_76 : decode cX12_of 76 = .ok (.iload_n 1, 1) := by decide +kernel
theorem dX12_of_77 : decode cX12_of 77 = .ok (.iconst 2, 1) := by decide +kernel
theorem dX12_of_78 : decode cX12_of 78 = .ok (.invokevirtual 272, 3) := by decide +kernel
theorem dX12_of_81 : decode cX12_of 81 = .ok (.ireturn, 1) := by decide +kernel
theorem dX12_of_82 : decode cX12_of 82 = .ok (.aload_n 0, 1) := by decide +kernel
theorem dX12_of_83 : decode cX12_of 83 = .ok (.iload_n 1, 1) := by decide +kernel
theorem dX12_of_84 : decode cX12_of 84 = .ok (.iconst 3, 1) := by decide +kernel
theorem dX12_of_85 : decode cX12_of 85 = .ok (.invokevirtual 272, 3) := by decide +kernel
theorem dX12_of_88 : decode cX12_of 88 = .ok (.ireturn, 1) := by decide +kernel
theorem dX12_of_89 : decode cX12_of 89 = .ok (.aload_n 0, 1) := by decide +kernel
theorem dX12_of_90 : decode cX12_of 90 = .ok (.iload_n 1, 1) := by decide +kernel
theorem dX12_of_91 : decode cX12_of 91 = .ok (.iconst 4, 1) := by decide +kernel
theorem dX12_of_92 : decode cX12_of 92 = .ok (.invokevirtual 272, 3) := by decide +kernel
theorem dX12_of_95 : decode cX12_of 95 = .ok (.ireturn, 1) := by decide +kernel
theorem dX12_of_96 : decode cX12_of 96 = .ok (.aload_n 0, 1) := by decide +kernel
theorem dX12_of_97 : decode cX12_of 97 = .ok (.iload_n 1, 1) := by decide +kernel
theorem dX12_of_98 : decode cX12_of 98 = .ok (.iconst 5, 1) := by decide +kernel
theorem dX12_of_99 : decode cX12_of 99 = .ok (.invokevirtual 272, 3) := by decide +kernel
theorem dX12_of_102 : decode cX12_of 102 = .ok (.ireturn, 1) := by decide +kernel
theorem dX12_of_103 : decode cX12_of 103 = .ok (.aload_n 0, 1) := by decide +kernel
theorem dX12_of_104 : decode cX12_of 104 = .ok (.iload_n 1, 1) := by decide +kernel
theorem dX12_of_105 : decode cX12_of 105 = .ok (.aload_n 0, 1) := by decide +kernel
theorem dX12_of_106 : decode cX12_of 106 = .ok (.invokevirtual 164, 3) := by decide +kernel
theorem dX12_of_109 : decode cX12_of 109 = .ok (.invokevirtual 293, 3) := by decide +kernel
theorem dX12_of_112 : decode cX12_of 112 = .ok (.ifCond .eq 7, 3) := by decide +kernel
theorem dX12_of_115 : decode cX12_of 115 = .ok (.iconst 1, 1) := by decide +kernel
theorem dX12_of_116 : decode cX12_of 116 = .ok (.goto 4, 3) := by decide +kernel
theorem dX12_of_119 : decode cX12_of 119 = .ok (.iconst 0, 1) := by decide +kernel
theorem dX12_of_120 : decode cX12_of 120 = .ok (.ireturn, 1) := by decide +kernel
theorem dX12_of_121 : decode cX12_of 121 = .ok (.aload_n 0, 1) := by decide +kernel
theorem dX12_of_122 : decode cX12_of 122 = .ok (.iload_n 1, 1) := by decide +kernel
theorem dX12_of_123 : decode cX12_of 123 = .ok (.iconst 1, 1) := by decide +kernel
theorem dX12_of_124 : decode cX12_of 124 = .ok (.invokevirtual 272, 3) := by decide +kernel
theorem dX12_of_127 : decode cX12_of 127 = .ok (.ireturn, 1) := by decide +kernel
theorem dX12_late_0 : decode cX12_late 0 = .ok (.iconst 0, 1) := by decide +kernel
theorem dX12_late_1 : decode cX12_late 1 = .ok (.aload_n 0, 1) := by decide +kernel
theorem dX12_late_2 : decode cX12_late 2 = .ok (.iload_n 1, 1) := by decide +kernel
theorem dX12_late_3 : decode cX12_late 3 = .ok (.iconst 2, 1) := by decide +kernel
theorem dX12_late_4 : decode cX12_late 4 = .ok (.invokevirtual 261, 3) := by decide +kernel
theorem dX12_late_7 : decode cX12_late 7 = .ok (.iconst (-1), 1) := by decide +kernel
theorem dX12_late_8 : decode cX12_late 8 = .ok (.if_icmp .ne 10, 3) := by decide +kernel
theorem dX12_late_11 : decode cX12_late 11 = .ok (.aload_n 0, 1) := by decide +kernel
theorem dX12_late_12 : decode cX12_late 12 = .ok (.invokevirtual 164, 3) := by decide +kernel
theorem dX12_late_15 : decode cX12_late 15 = .ok (.goto 9, 3) := by decide +kernel
theorem dX12_late_18 : decode cX12_late 18 = .ok (.aload_n 0, 1) := by decide +kernel
theorem dX12_late_19 : decode cX12_late 19 = .ok (.iload_n 1, 1) := by decide +kernel
theorem dX12_late_20 : decode cX12_late 20 = .ok (.iconst 2, 1) := by decide +kernel
theorem dX12_late_21 : decode cX12_late 21 = .ok (.invokevirtual 261, 3) := by decide +kernel
theorem dX12_late_24 : decode cX12_late 24 = .ok (.aload_n 0, 1) := by decide +kernel
theorem dX12_late_25 : decode cX12_late 25 = .ok (.getfield 49, 3) := by decide +kernel
theorem dX12_late_28 : decode cX12_late 28 = .ok (.iload_n 1, 1) := by decide +kernel
theorem dX12_late_29 : decode cX12_late 29 = .ok (.iaload, 1) := by decide +kernel
theorem dX12_late_30 : decode cX12_late 30 = .ok (.isub, 1) := by decide +kernel
theorem dX12_late_31 : decode cX12_late 31 = .ok (.invokestatic 281, 3) := by decide +kernel
theorem dX12_late_34 : decode cX12_late 34 = .ok (.ireturn, 1) := by decide +kernel
theorem dX12_at_0 : decode cX12_at 0 = .ok (.aload_n 0, 1) := by decide +kernel
theorem dX12_at_1 : decode cX12_at 1 = .ok (.iconst 0, 1) := by decide +kernel
theorem dX12_at_2 : decode cX12_at 2 = .ok (.putfield 139, 3) := by decide +kernel
theorem dX12_at_5 : decode cX12_at 5 = .ok (.aload_n 0, 1) := by decide +kernel
theorem dX12_at_6 : decode cX12_at 6 = .ok (.iload_n 1, 1) := by decide +kernel
theorem dX12_at_7 : decode cX12_at 7 = .ok (.invokevirtual 315, 3) := by decide +kernel
theorem dX12_at_10 : decode cX12_at 10 = .ok (.ifCond .ne 5, 3) := by decide +kernel
theorem dX12_at_13 : decode cX12_at 13 = .ok (.iconst (-1), 1) := by decide +kernel
theorem dX12_at_14 : decode cX12_at 14 = .ok (.ireturn, 1) := by decide +kernel
theorem dX12_at_15 : decode cX12_at 15 = .ok (.iload_n 2, 1) := by decide +kernel
theorem dX12_at_16 : decode cX12_at 16 = .ok (.tableswitch 139 0 6 #[44, 91, 98, 105, 112, 119, 133], 44) := by decide +kernel
theorem dX12_at_60 : decode cX12_at 60 = .ok (.aload_n 0, 1) := by decide +kernel
theorem dX12_at_61 : decode cX12_at 61 = .ok (.iload_n 1, 1) := by decide +kernel
theorem dX12_at_62 : decode cX12_at 62 = .ok (.iconst 2, 1) := by decide +kernel
theorem dX12_at_63 : decode cX12_at 63 = .ok (.invokevirtual 261, 3) := by decide +kernel
theorem dX12_at_66 : decode cX12_at 66 = .ok (.iconst (-1), 1) := by decide +kernel
theorem dX12_at_67 : decode cX12_at 67 = .ok (.if_icmp .eq 7, 3) := by decide +kernel
theorem dX12_at_70 : decode cX12_at 70 = .ok (.iconst 3, 1) := by decide +kernel
theorem dX12_at_71 : decode cX12_at 71 = .ok (.goto 35, 3) := by decide +kernel
theorem dX12_at_74 : decode cX12_at 74 = .ok (.aload_n 0, 1) := by decide +kernel
theorem dX12_at_75 : decode cX12_at 75 = .ok (.iload_n 1, 1) := by decide +kernel
theorem dX12_at_76 : decode cX12_at 76 = .ok (.iconst 0, 1) := by decide +kernel
theorem dX12_at_77 : decode cX12_at 77 = .ok (.invokevirtual 261, 3) := by decide +kernel
theorem dX12_at_80 : decode cX12_at 80 = .ok (.iconst (-1), 1) := by decide +kernel
theorem dX12_at_81 : decode cX12_at 81 = .ok (.if_icmp .eq 7, 3) := by decide +kernel
theorem dX12_at_84 : decode cX12_at 84 = .ok (.iconst 2, 1) := by decide +kernel
theorem dX12_at_85 : decode cX12_at 85 = .ok (.goto 21, 3) := by decide +kernel
theorem dX12_at_88 : decode cX12_at 88 = .ok (.aload_n 0, 1) := by decide +kernel
theorem dX12_at_89 : decode cX12_at 89 = .ok (.getfield 46, 3) := by decide +kernel
theorem dX12_at_92 : decode cX12_at 92 = .ok (.iload_n 1, 1) := by decide +kernel
theorem dX12_at_93 : decode cX12_at 93 = .ok (.iaload, 1) := by decide +kernel
theorem dX12_at_94 : decode cX12_at 94 = .ok (.aload_n 0, 1) := by decide +kernel
theorem dX12_at_95 : decode cX12_at 95 = .ok (.invokevirtual 164, 3) := by decide +kernel
theorem dX12_at_98 : decode cX12_at 98 = .ok (.if_icmp .gt 7, 3) := by decide +kernel
theorem dX12_at_101 : decode cX12_at 101 = .ok (.iconst 1, 1) := by decide +kernel
theorem dX12_at_102 : decode cX12_at 102 = .ok (.goto 4, 3) := by decide +kernel
theorem dX12_at_105 : decode cX12_at 105 = .ok (.iconst 0, 1) := by decide +kernel
theorem dX12_at_106 : decode cX12_at 106 = .ok (.ireturn, 1) := by decide +kernel
theorem dX12_at_107 : decode cX12_at 107 = .ok (.aload_n 0, 1) := by decide +kernel
theorem dX12_at_108 : decode cX12_at 108 = .ok (.iload_n 1, 1) := by decide +kernel
theorem dX12_at_109 : decode cX12_at 109 = .ok (.iconst 0, 1) := by decide +kernel
theorem dX12_at_110 : decode cX12_at 110 = .ok (.invokevirtual 261, 3) := by decide +kernel
theorem dX12_at_113 : decode cX12_at 113 = .ok (.ireturn, 1) := by decide +kernel
theorem dX12_at_114 : decode cX12_at 114 = .ok (.aload_n 0, 1) := by decide +kernel
theorem dX12_at_115 : decode cX12_at 115 = .ok (.iload_n 1, 1) := by decide +kernel
theorem dX12_at_116 : decode cX12_at 116 = .ok (.iconst 1, 1) := by decide +kernel
theorem dX12_at_117 : decode cX12_at 117 = .ok (.invokevirtual 261, 3) := by decide +kernel
theorem dX12_at_120 : decode cX12_at 120 = .ok (.ireturn, 1) := by decide +kernel
theorem dX12_at_121 : decode cX12_at 121 = .ok (.aload_n 0, 1) := by decide +kernel
theorem dX12_at_122 : decode cX12_at 122 = .ok (.iload_n 1, 1) := by decide +kernel
theorem dX12_at_123 : decode cX12_at 123 = .ok (.iconst 2, 1) := by decide +kernel
theorem dX12_at_124 : decode cX12_at 124 = .ok (.invokevirtual 261, 3) := by decide +kernel
theorem dX12_at_127 : decode cX12_at 127 = .ok (.ireturn, 1) := by decide +kernel
theorem dX12_at_128 : decode cX12_at 128 = .ok (.aload_n 0, 1) := by decide +kernel
theorem dX12_at_129 : decode cX12_at 129 = .ok (.iload_n 1, 1) := by decide +kernel
theorem dX12_at_130 : decode cX12_at 130 = .ok (.iconst 3, 1) := by decide +kernel
theorem dX12_at_131 : decode cX12_at 131 = .ok (.invokevirtual 261, 3) := by decide +kernel
theorem dX12_at_134 : decode cX12_at 134 = .ok (.ireturn, 1) := by decide +kernel
theorem dX12_at_135 : decode cX12_at 135 = .ok (.aload_n 0, 1) := by decide +kernel
theorem dX12_at_136 : decode cX12_at 136 = .ok (.iload_n 1, 1) := by decide +kernel
theorem dX12_at_137 : decode cX12_at 137 = .ok (.invokevirtual 318, 3) := by decide +kernel
theorem dX12_at_140 : decode cX12_at 140 = .ok (.ifCond .le 7, 3) := by decide +kernel
theorem dX12_at_143 : decode cX12_at 143 = .ok (.iconst 1, 1) := by decide +kernel
theorem dX12_at_144 : decode cX12_at 144 = .ok (.goto 4, 3) := by decide +kernel
theorem dX12_at_147 : decode cX12_at 147 = .ok (.iconst 0, 1) := by decide +kernel
theorem dX12_at_148 : decode cX12_at 148 = .ok (.ireturn, 1) := by decide +kernel
theorem dX12_at_149 : decode cX12_at 149 = .ok (.aload_n 0, 1) := by decide +kernel
theorem dX12_at_150 : decode cX12_at 150 = .ok (.iload_n 1, 1) := by decide +kernel
theorem dX12_at_151 : decode cX12_at 151 = .ok (.invokevirtual 318, 3) := by decide +kernel
theorem dX12_at_154 : decode cX12_at 154 = .ok (.ireturn, 1) := by decide +kernel
theorem dX12_at_155 : decode cX12_at 155 = .ok (.iconst (-1), 1) := by decide +kernel
theorem dX12_at_156 : decode cX12_at 156 = .ok (.ireturn, 1) := by decide +kernel
theorem dX12_may_0 : decode cX12_may 0 = .ok (.aload_n 0, 1) := by decide +kernel
theorem dX12_may_1 : decode cX12_may 1 = .ok (.iconst 0, 1) := by decide +kernel
theorem dX12_may_2 : decode cX12_may 2 = .ok (.putfield 139, 3) := by decide +kernel
theorem dX12_may_5 : decode cX12_may 5 = .ok (.aload_n 0, 1) := by decide +kernel
theorem dX12_may_6 : decode cX12_may 6 = .ok (.iload_n 1, 1) := by decide +kernel
theorem dX12_may_7 : decode cX12_may 7 = .ok (.invokevirtual 160, 3) := by decide +kernel
theorem dX12_may_10 : decode cX12_may 10 = .ok (.ifCond .eq 28, 3) := by decide +kernel
theorem dX12_may_13 : decode cX12_may 13 = .ok (.aload_n 0, 1) := by decide +kernel
theorem dX12_may_14 : decode cX12_may 14 = .ok (.iload_n 2, 1) := by decide +kernel
theorem dX12_may_15 : decode cX12_may 15 = .ok (.invokevirtual 315, 3) := by decide +kernel
theorem dX12_may_18 : decode cX12_may 18 = .ok (.ifCond .eq 20, 3) := by decide +kernel
theorem dX12_may_21 : decode cX12_may 21 = .ok (.aload_n 0, 1) := by decide +kernel
theorem dX12_may_22 : decode cX12_may 22 = .ok (.iload_n 1, 1) := by decide +kernel
theorem dX12_may_23 : decode cX12_may 23 = .ok (.iload_n 2, 1) := by decide +kernel
theorem dX12_may_24 : decode cX12_may 24 = .ok (.invokevirtual 286, 3) := by decide +kernel
theorem dX12_may_27 : decode cX12_may 27 = .ok (.ifCond .eq 7, 3) := by decide +kernel
theorem dX12_may_30 : decode cX12_may 30 = .ok (.iconst 1, 1) := by decide +kernel
theorem dX12_may_31 : decode cX12_may 31 = .ok (.goto 8, 3) := by decide +kernel
theorem dX12_may_34 : decode cX12_may 34 = .ok (.iconst 0, 1) := by decide +kernel
theorem dX12_may_35 : decode cX12_may 35 = .ok (.goto 4, 3) := by decide +kernel
theorem dX12_may_38 : decode cX12_may 38 = .ok (.iconst (-1), 1) := by decide +kernel
theorem dX12_may_39 : decode cX12_may 39 = .ok (.ireturn, 1) := by decide +kernel
theorem dX12_order_0 : decode cX12_order 0 = .ok (.aload_n 0, 1) := by decide +kernel
theorem dX12_order_1 : decode cX12_order 1 = .ok (.iconst 0, 1) := by decide +kernel
theorem dX12_order_2 : decode cX12_order 2 = .ok (.putfield 139, 3) := by decide +kernel
theorem dX12_order_5 : decode cX12_order 5 = .ok (.aload_n 0, 1) := by decide +kernel
theorem dX12_order_6 : decode cX12_order 6 = .ok (.iload_n 1, 1) := by decide +kernel
theorem dX12_order_7 : decode cX12_order 7 = .ok (.invokevirtual 160, 3) := by decide +kernel
theorem dX12_order_10 : decode cX12_order 10 = .ok (.ifCond .eq 20, 3) := by decide +kernel
theorem dX12_order_13 : decode cX12_order 13 = .ok (.aload_n 0, 1) := by decide +kernel
theorem dX12_order_14 : decode cX12_order 14 = .ok (.iload_n 2, 1) := by decide +kernel
theorem dX12_order_15 : decode cX12_order 15 = .ok (.invokevirtual 315, 3) := by decide +kernel
theorem dX12_order_18 : decode cX12_order 18 = .ok (.ifCond .eq 12, 3) := by decide +kernel
theorem dX12_order_21 : decode cX12_order 21 = .ok (.aload_n 0, 1) := by decide +kernel
theorem dX12_order_22 : decode cX12_order 22 = .ok (.iload_n 1, 1) := by decide +kernel
theorem dX12_order_23 : decode cX12_order 23 = .ok (.iload_n 2, 1) := by decide +kernel
theorem dX12_order_24 : decode cX12_order 24 = .ok (.invokevirtual 290, 3) := by decide +kernel
theorem dX12_order_27 : decode cX12_order 27 = .ok (.goto 7, 3) := by decide +kernel
theorem dX12_order_30 : decode cX12_order 30 = .ok (.aload_n 0, 1) := by decide +kernel
theorem dX12_order_31 : decode cX12_order 31 = .ok (.invokevirtual 312, 3) := by decide +kernel
theorem dX12_order_34 : decode cX12_order 34 = .ok (.ireturn, 1) := by decide +kernel
theorem dX12_goes_0 : decode cX12_goes 0 = .ok (.aload_n 0, 1) := by decide +kernel
theorem dX12_goes_1 : decode cX12_goes 1 = .ok (.iconst 0, 1) := by decide +kernel
theorem dX12_goes_2 : decode cX12_goes 2 = .ok (.putfield 139, 3) := by decide +kernel
theorem dX12_goes_5 : decode cX12_goes 5 = .ok (.aload_n 0, 1) := by decide +kernel
theorem dX12_goes_6 : decode cX12_goes 6 = .ok (.iload_n 1, 1) := by decide +kernel
theorem dX12_goes_7 : decode cX12_goes 7 = .ok (.invokevirtual 315, 3) := by decide +kernel
theorem dX12_goes_10 : decode cX12_goes 10 = .ok (.ifCond .eq 20, 3) := by decide +kernel
theorem dX12_goes_13 : decode cX12_goes 13 = .ok (.aload_n 0, 1) := by decide +kernel
theorem dX12_goes_14 : decode cX12_goes 14 = .ok (.iload_n 1, 1) := by decide +kernel
theorem dX12_goes_15 : decode cX12_goes 15 = .ok (.iconst 2, 1) := by decide +kernel
theorem dX12_goes_16 : decode cX12_goes 16 = .ok (.invokevirtual 261, 3) := by decide +kernel
theorem dX12_goes_19 : decode cX12_goes 19 = .ok (.iconst (-1), 1) := by decide +kernel
theorem dX12_goes_20 : decode cX12_goes 20 = .ok (.if_icmp .eq 10, 3) := by decide +kernel
theorem dX12_goes_23 : decode cX12_goes 23 = .ok (.aload_n 0, 1) := by decide +kernel
theorem dX12_goes_24 : decode cX12_goes 24 = .ok (.getfield 152, 3) := by decide +kernel
theorem dX12_goes_27 : decode cX12_goes 27 = .ok (.ifCond .ne 5, 3) := by decide +kernel
theorem dX12_goes_30 : decode cX12_goes 30 = .ok (.iconst (-1), 1) := by decide +kernel
theorem dX12_goes_31 : decode cX12_goes 31 = .ok (.ireturn, 1) := by decide +kernel
theorem dX12_goes_32 : decode cX12_goes 32 = .ok (.aload_n 0, 1) := by decide +kernel
theorem dX12_goes_33 : decode cX12_goes 33 = .ok (.iload_n 1, 1) := by decide +kernel
theorem dX12_goes_34 : decode cX12_goes 34 = .ok (.iconst 2, 1) := by decide +kernel
theorem dX12_goes_35 : decode cX12_goes 35 = .ok (.invokevirtual 261, 3) := by decide +kernel
theorem dX12_goes_38 : decode cX12_goes 38 = .ok (.istore_n 2, 1) := by decide +kernel
theorem dX12_goes_39 : decode cX12_goes 39 = .ok (.iconst (-1), 1) := by decide +kernel
theorem dX12_goes_40 : decode cX12_goes 40 = .ok (.istore_n 3, 1) := by decide +kernel
theorem dX12_goes_41 : decode cX12_goes 41 = .ok (.iconst 0, 1) := by decide +kernel
theorem dX12_goes_42 : decode cX12_goes 42 = .ok (.istore 4, 2) := by decide +kernel
theorem dX12_goes_44 : decode cX12_goes 44 = .ok (.iload 4, 2) := by decide +kernel
theorem dX12_goes_46 : decode cX12_goes 46 = .ok (.aload_n 0, 1) := by decide +kernel
theorem dX12_goes_47 : decode cX12_goes 47 = .ok (.getfield 152, 3) := by decide +kernel
theorem dX12_goes_50 : decode cX12_goes 50 = .ok (.if_icmp .ge 54, 3) := by decide +kernel
theorem dX12_goes_53 : decode cX12_goes 53 = .ok (.iload_n 2, 1) := by decide +kernel
theorem dX12_goes_54 : decode cX12_goes 54 = .ok (.sipush 480, 3) := by decide +kernel
theorem dX12_goes_57 : decode cX12_goes 57 = .ok (.idiv, 1) := by decide +kernel
theorem dX12_goes_58 : decode cX12_goes 58 = .ok (.sipush 480, 3) := by decide +kernel
theorem dX12_goes_61 : decode cX12_goes 61 = .ok (.imul, 1) := by decide +kernel
theorem dX12_goes_62 : decode cX12_goes 62 = .ok (.aload_n 0, 1) := by decide +kernel
theorem dX12_goes_63 : decode cX12_goes 63 = .ok (.getfield 9, 3) := by decide +kernel
theorem dX12_goes_66 : decode cX12_goes 66 = .ok (.iload 4, 2) := by decide +kernel
theorem dX12_goes_68 : decode cX12_goes 68 = .ok (.iaload, 1) := by decide +kernel
theorem dX12_goes_69 : decode cX12_goes 69 = .ok (.iadd, 1) := by decide +kernel
theorem dX12_goes_70 : decode cX12_goes 70 = .ok (.istore 5, 2) := by decide +kernel
theorem dX12_goes_72 : decode cX12_goes 72 = .ok (.iload 5, 2) := by decide +kernel
theorem dX12_goes_74 : decode cX12_goes 74 = .ok (.iload_n 2, 1) := by decide +kernel
theorem dX12_goes_75 : decode cX12_goes 75 = .ok (.if_icmp .ge 9, 3) := by decide +kernel
theorem dX12_goes_78 : decode cX12_goes 78 = .ok (.iinc 5 480, 6) := by decide +kernel
theorem dX12_goes_84 : decode cX12_goes 84 = .ok (.iload_n 3, 1) := by decide +kernel
theorem dX12_goes_85 : decode cX12_goes 85 = .ok (.iconst (-1), 1) := by decide +kernel
theorem dX12_goes_86 : decode cX12_goes 86 = .ok (.if_icmp .eq 9, 3) := by decide +kernel
theorem dX12_goes_89 : decode cX12_goes 89 = .ok (.iload 5, 2) := by decide +kernel
theorem dX12_goes_91 : decode cX12_goes 91 = .ok (.iload_n 3, 1) := by decide +kernel
theorem dX12_goes_92 : decode cX12_goes 92 = .ok (.if_icmp .ge 6, 3) := by decide +kernel
theorem dX12_goes_95 : decode cX12_goes 95 = .ok (.iload 5, 2) := by decide +kernel
theorem dX12_goes_97 : decode cX12_goes 97 = .ok (.istore_n 3, 1) := by decide +kernel
theorem dX12_goes_98 : decode cX12_goes 98 = .ok (.iinc 4 1, 3) := by decide +kernel
theorem dX12_goes_101 : decode cX12_goes 101 = .ok (.goto (-57), 3) := by decide +kernel
theorem dX12_goes_104 : decode cX12_goes 104 = .ok (.iload_n 3, 1) := by decide +kernel
theorem dX12_goes_105 : decode cX12_goes 105 = .ok (.ireturn, 1) := by decide +kernel
theorem dX12_lates_0 : decode cX12_lates 0 = .ok (.iconst 0, 1) := by decide +kernel
theorem dX12_lates_1 : decode cX12_lates 1 = .ok (.istore_n 1, 1) := by decide +kernel
theorem dX12_lates_2 : decode cX12_lates 2 = .ok (.iconst 0, 1) := by decide +kernel
theorem dX12_lates_3 : decode cX12_lates 3 = .ok (.istore_n 2, 1) := by decide +kernel
theorem dX12_lates_4 : decode cX12_lates 4 = .ok (.iload_n 2, 1) := by decide +kernel
theorem dX12_lates_5 : decode cX12_lates 5 = .ok (.aload_n 0, 1) := by decide +kernel
theorem dX12_lates_6 : decode cX12_lates 6 = .ok (.getfield 149, 3) := by decide +kernel
theorem dX12_lates_9 : decode cX12_lates 9 = .ok (.if_icmp .ge 20, 3) := by decide +kernel
theorem dX12_lates_12 : decode cX12_lates 12 = .ok (.aload_n 0, 1) := by decide +kernel
theorem dX12_lates_13 : decode cX12_lates 13 = .ok (.iload_n 2, 1) := by decide +kernel
theorem dX12_lates_14 : decode cX12_lates 14 = .ok (.invokevirtual 318, 3) := by decide +kernel
theorem dX12_lates_17 : decode cX12_lates 17 = .ok (.ifCond .le 6, 3) := by decide +kernel
theorem dX12_lates_20 : decode cX12_lates 20 = .ok (.iinc 1 1, 3) := by decide +kernel
theorem dX12_lates_23 : decode cX12_lates 23 = .ok (.iinc 2 1, 3) := by decide +kernel
theorem dX12_lates_26 : decode cX12_lates 26 = .ok (.goto (-22), 3) := by decide +kernel
theorem dX12_lates_29 : decode cX12_lates 29 = .ok (.iload_n 1, 1) := by decide +kernel
theorem dX12_lates_30 : decode cX12_lates 30 = .ok (.ireturn, 1) := by decide +kernel
theorem dX12_count_0 : decode cX12_count 0 = .ok (.aload_n 0, 1) := by decide +kernel
theorem dX12_count_1 : decode cX12_count 1 = .ok (.iconst 0, 1) := by decide +kernel
theorem dX12_count_2 : decode cX12_count 2 = .ok (.putfield 139, 3) := by decide +kernel
theorem dX12_count_5 : decode cX12_count 5 = .ok (.iconst 0, 1) := by decide +kernel
theorem dX12_count_6 : decode cX12_count 6 = .ok (.istore_n 2, 1) := by decide +kernel
theorem dX12_count_7 : decode cX12_count 7 = .ok (.iload_n 1, 1) := by decide +kernel
theorem dX12_count_8 : decode cX12_count 8 = .ok (.tableswitch 183 0 12 #[68, 73, 78, 83, 88, 93, 98, 127, 158, 163, 168, 173, 178], 68) := by decide +kernel
theorem dX12_count_76 : decode cX12_count 76 = .ok (.aload_n 0, 1) := by decide +kernel
theorem dX12_count_77 : decode cX12_count 77 = .ok (.invokevirtual 164, 3) := by decide +kernel
theorem dX12_count_80 : decode cX12_count 80 = .ok (.ireturn, 1) := by decide +kernel
theorem dX12_count_81 : decode cX12_count 81 = .ok (.aload_n 0, 1) := by decide +kernel
theorem dX12_count_82 : decode cX12_count 82 = .ok (.getfield 142, 3) := by decide +kernel
theorem dX12_count_85 : decode cX12_count 85 = .ok (.ireturn, 1) := by decide +kernel
theorem dX12_count_86 : decode cX12_count 86 = .ok (.aload_n 0, 1) := by decide +kernel
theorem dX12_count_87 : decode cX12_count 87 = .ok (.getfield 149, 3) := by decide +kernel
theorem dX12_count_90 : decode cX12_count 90 = .ok (.ireturn, 1) := by decide +kernel
theorem dX12_count_91 : decode cX12_count 91 = .ok (.aload_n 0, 1) := by decide +kernel
theorem dX12_count_92 : decode cX12_count 92 = .ok (.getfield 248, 3) := by decide +kernel
theorem dX12_count_95 : decode cX12_count 95 = .ok (.ireturn, 1) := by decide +kernel
theorem dX12_count_96 : decode cX12_count 96 = .ok (.aload_n 0, 1) := by decide +kernel
theorem dX12_count_97 : decode cX12_count 97 = .ok (.getfield 321, 3) := by decide +kernel
theorem dX12_count_100 : decode cX12_count 100 = .ok (.ireturn, 1) := by decide +kernel
theorem dX12_count_101 : decode cX12_count 101 = .ok (.aload_n 0, 1) := by decide +kernel
theorem dX12_count_102 : decode cX12_count 102 = .ok (.getfield 167, 3) := by decide +kernel
theorem dX12_count_105 : decode cX12_count 105 = .ok (.ireturn, 1) := by decide +kernel
theorem dX12_count_106 : decode cX12_count 106 = .ok (.iconst 0, 1) := by decide +kernel
theorem dX12_count_107 : decode cX12_count 107 = .ok (.istore_n 3, 1) := by decide +kernel
theorem dX12_count_108 : decode cX12_count 108 = .ok (.iload_n 3, 1) := by decide +kernel
theorem dX12_count_109 : decode cX12_count 109 = .ok (.aload_n 0, 1) := by decide +kernel
theorem dX12_count_110 : decode cX12_count 110 = .ok (.getfield 149, 3) := by decide +kernel
theorem dX12_count_113 : decode cX12_count 113 = .ok (.if_icmp .ge 20, 3) := by decide +kernel
theorem dX12_count_116 : decode cX12_count 116 = .ok (.aload_n 0, 1) := by decide +kernel
theorem dX12_count_117 : decode cX12_count 117 = .ok (.iload_n 3, 1) := by decide +kernel
theorem dX12_count_118 : decode cX12_count 118 = .ok (.invokevirtual 269, 3) := by decide +kernel
theorem dX12_count_121 : decode cX12_count 121 = .ok (.ifCond .eq 6, 3) := by decide +kernel
theorem dX12_count_124 : decode cX12_count 124 = .ok (.iinc 2 1, 3) := by decide +kernel
theorem dX12_count_127 : decode cX12_count 127 = .ok (.iinc 3 1, 3) := by decide +kernel
theorem dX12_count_130 : decode cX12_count 130 = .ok (.goto (-22), 3) := by decide +kernel
theorem dX12_count_133 : decode cX12_count 133 = .ok (.iload_n 2, 1) := by decide +kernel
theorem dX12_count_134 : decode cX12_count 134 = .ok (.ireturn, 1) := by decide +kernel
theorem dX12_count_135 : decode cX12_count 135 = .ok (.iconst 0, 1) := by decide +kernel
theorem dX12_count_136 : decode cX12_count 136 = .ok (.istore_n 3, 1) := by decide +kernel
theorem dX12_count_137 : decode cX12_count 137 = .ok (.iload_n 3, 1) := by decide +kernel
theorem dX12_count_138 : decode cX12_count 138 = .ok (.aload_n 0, 1) := by decide +kernel
theorem dX12_count_139 : decode cX12_count 139 = .ok (.getfield 149, 3) := by decide +kernel
theorem dX12_count_142 : decode cX12_count 142 = .ok (.if_icmp .ge 22, 3) := by decide +kernel
theorem dX12_count_145 : decode cX12_count 145 = .ok (.aload_n 0, 1) := by decide +kernel
theorem dX12_count_146 : decode cX12_count 146 = .ok (.iload_n 3, 1) := by decide +kernel
theorem dX12_count_147 : decode cX12_count 147 = .ok (.iconst 2, 1) := by decide +kernel
theorem dX12_count_148 : decode cX12_count 148 = .ok (.invokevirtual 261, 3) := by decide +kernel
theorem dX12_count_151 : decode cX12_count 151 = .ok (.iconst (-1), 1) := by decide +kernel
theorem dX12_count_152 : decode cX12_count 152 = .ok (.if_icmp .eq 6, 3) := by decide +kernel
theorem dX12_count_155 : decode cX12_count 155 = .ok (.iinc 2 1, 3) := by decide +kernel
theorem dX12_count_158 : decode cX12_count 158 = .ok (.iinc 3 1, 3) := by decide +kernel
theorem dX12_count_161 : decode cX12_count 161 = .ok (.goto (-24), 3) := by decide +kernel
theorem dX12_count_164 : decode cX12_count 164 = .ok (.iload_n 2, 1) := by decide +kernel
theorem dX12_count_165 : decode cX12_count 165 = .ok (.ireturn, 1) := by decide +kernel
theorem dX12_count_166 : decode cX12_count 166 = .ok (.aload_n 0, 1) := by decide +kernel
theorem dX12_count_167 : decode cX12_count 167 = .ok (.invokevirtual 324, 3) := by decide +kernel
theorem dX12_count_170 : decode cX12_count 170 = .ok (.ireturn, 1) := by decide +kernel
theorem dX12_count_171 : decode cX12_count 171 = .ok (.aload_n 0, 1) := by decide +kernel
theorem dX12_count_172 : decode cX12_count 172 = .ok (.getfield 94, 3) := by decide +kernel
theorem dX12_count_175 : decode cX12_count 175 = .ok (.ireturn, 1) := by decide +kernel
theorem dX12_count_176 : decode cX12_count 176 = .ok (.aload_n 0, 1) := by decide +kernel
theorem dX12_count_177 : decode cX12_count 177 = .ok (.getfield 327, 3) := by decide +kernel
theorem dX12_count_180 : decode cX12_count 180 = .ok (.ireturn, 1) := by decide +kernel
theorem dX12_count_181 : decode cX12_count 181 = .ok (.aload_n 0, 1) := by decide +kernel
theorem dX12_count_182 : decode cX12_count 182 = .ok (.getfield 177, 3) := by decide +kernel
theorem dX12_count_185 : decode cX12_count 185 = .ok (.ireturn, 1) := by decide +kernel
theorem dX12_count_186 : decode cX12_count 186 = .ok (.aload_n 0, 1) := by decide +kernel
theorem dX12_count_187 : decode cX12_count 187 = .ok (.getfield 152, 3) := by decide +kernel
theorem dX12_count_190 : decode cX12_count 190 = .ok (.ireturn, 1) := by decide +kernel
theorem dX12_count_191 : decode cX12_count 191 = .ok (.iconst (-1), 1) := by decide +kernel
theorem dX12_count_192 : decode cX12_count 192 = .ok (.ireturn, 1) := by decide +kernel
theorem dX12_correct_0 : decode cX12_correct 0 = .ok (.aload_n 0, 1) := by decide +kernel
theorem dX12_correct_1 : decode cX12_correct 1 = .ok (.iconst 0, 1) := by decide +kernel
theorem dX12_correct_2 : decode cX12_correct 2 = .ok (.putfield 139, 3) := by decide +kernel
theorem dX12_correct_5 : decode cX12_correct 5 = .ok (.aload_n 0, 1) := by decide +kernel
theorem dX12_correct_6 : decode cX12_correct 6 = .ok (.iload_n 1, 1) := by decide +kernel
theorem dX12_correct_7 : decode cX12_correct 7 = .ok (.invokevirtual 315, 3) := by decide +kernel
theorem dX12_correct_10 : decode cX12_correct 10 = .ok (.ifCond .eq 61, 3) := by decide +kernel
theorem dX12_correct_13 : decode cX12_correct 13 = .ok (.aload_n 0, 1) := by decide +kernel
theorem dX12_correct_14 : decode cX12_correct 14 = .ok (.iload_n 1, 1) := by decide +kernel
theorem dX12_correct_15 : decode cX12_correct 15 = .ok (.iconst 2, 1) := by decide +kernel
theorem dX12_correct_16 : decode cX12_correct 16 = .ok (.invokevirtual 261, 3) := by decide +kernel
theorem dX12_correct_19 : decode cX12_correct 19 = .ok (.iconst (-1), 1) := by decide +kernel
theorem dX12_correct_20 : decode cX12_correct 20 = .ok (.if_icmp .eq 51, 3) := by decide +kernel
theorem dX12_correct_23 : decode cX12_correct 23 = .ok (.iload_n 2, 1) := by decide +kernel
theorem dX12_correct_24 : decode cX12_correct 24 = .ok (.iconst 0, 1) := by decide +kernel
theorem dX12_correct_25 : decode cX12_correct 25 = .ok (.bipush 99, 2) := by decide +kernel
theorem dX12_correct_27 : decode cX12_correct 27 = .ok (.invokestatic 145, 3) := by decide +kernel
theorem dX12_correct_30 : decode cX12_correct 30 = .ok (.ifCond .eq 41, 3) := by decide +kernel
theorem dX12_correct_33 : decode cX12_correct 33 = .ok (.iload_n 3, 1) := by decide +kernel
theorem dX12_correct_34 : decode cX12_correct 34 = .ok (.iconst 0, 1) := by decide +kernel
theorem dX12_correct_35 : decode cX12_correct 35 = .ok (.iconst 1, 1) := by decide +kernel
theorem dX12_correct_36 : decode cX12_correct 36 = .ok (.invokestatic 145, 3) := by decide +kernel
theorem dX12_correct_39 : decode cX12_correct 39 = .ok (.ifCond .eq 32, 3) := by decide +kernel
theorem dX12_correct_42 : decode cX12_correct 42 = .ok (.iload 4, 2) := by decide +kernel
theorem dX12_correct_44 : decode cX12_correct 44 = .ok (.iconst 0, 1) := by decide +kernel
theorem dX12_correct_45 : decode cX12_correct 45 = .ok (.iconst 1, 1) := by decide +kernel
theorem dX12_correct_46 : decode cX12_correct 46 = .ok (.invokestatic 145, 3) := by decide +kernel
theorem dX12_correct_49 : decode cX12_correct 49 = .ok (.ifCond .eq 22, 3) := by decide +kernel
theorem dX12_correct_52 : decode cX12_correct 52 = .ok (.iload 5, 2) := by decide +kernel
theorem dX12_correct_54 : decode cX12_correct 54 = .ok (.iconst 0, 1) := by decide +kernel
theorem dX12_correct_55 : decode cX12_correct 55 = .ok (.iconst 1, 1) := by decide +kernel
theorem dX12_correct_56 : decode cX12_correct 56 = .ok (.invokestatic 145, 3) := by decide +kernel
theorem dX12_correct_59 : decode cX12_correct 59 = .ok (.ifCond .eq 12, 3) := by decide +kernel
theorem dX12_correct_62 : decode cX12_correct 62 = .ok (.aload_n 0, 1) := by decide +kernel
theorem dX12_correct_63 : decode cX12_correct 63 = .ok (.getfield 321, 3) := by decide +kernel
theorem dX12_correct_66 : decode cX12_correct 66 = .ok (.bipush 40, 2) := by decide +kernel
theorem dX12_correct_68 : decode cX12_correct 68 = .ok (.if_icmp .ne 5, 3) := by decide +kernel
theorem dX12_correct_71 : decode cX12_correct 71 = .ok (.iconst (-1), 1) := by decide +kernel
theorem dX12_correct_72 : decode cX12_correct 72 = .ok (.ireturn, 1) := by decide +kernel
theorem dX12_correct_73 : decode cX12_correct 73 = .ok (.aload_n 0, 1) := by decide +kernel
theorem dX12_correct_74 : decode cX12_correct 74 = .ok (.getfield 82, 3) := by decide +kernel
theorem dX12_correct_77 : decode cX12_correct 77 = .ok (.aload_n 0, 1) := by decide +kernel
theorem dX12_correct_78 : decode cX12_correct 78 = .ok (.getfield 321, 3) := by decide +kernel
theorem dX12_correct_81 : decode cX12_correct 81 = .ok (.iload_n 1, 1) := by decide +kernel
theorem dX12_correct_82 : decode cX12_correct 82 = .ok (.iastore, 1) := by decide +kernel
theorem dX12_correct_83 : decode cX12_correct 83 = .ok (.aload_n 0, 1) := by decide +kernel
theorem dX12_correct_84 : decode cX12_correct 84 = .ok (.getfield 85, 3) := by decide +kernel
theorem dX12_correct_87 : decode cX12_correct 87 = .ok (.aload_n 0, 1) := by decide +kernel
theorem dX12_correct_88 : decode cX12_correct 88 = .ok (.getfield 321, 3) := by decide +kernel
theorem dX12_correct_91 : decode cX12_correct 91 = .ok (.iload_n 2, 1) := by decide +kernel
theorem dX12_correct_92 : decode cX12_correct 92 = .ok (.iastore, 1) := by decide +kernel
theorem dX12_correct_93 : decode cX12_correct 93 = .ok (.aload_n 0, 1) := by decide +kernel
theorem dX12_correct_94 : decode cX12_correct 94 = .ok (.getfield 88, 3) := by decide +kernel
theorem dX12_correct_97 : decode cX12_correct 97 = .ok (.aload_n 0, 1) := by decide +kernel
theorem dX12_correct_98 : decode cX12_correct 98 = .ok (.getfield 321, 3) := by decide +kernel
theorem dX12_correct_101 : decode cX12_correct 101 = .ok (.bipush 100, 2) := by decide +kernel
theorem dX12_correct_103 : decode cX12_correct 103 = .ok (.iastore, 1) := by decide +kernel
theorem dX12_correct_104 : decode cX12_correct 104 = .ok (.aload_n 0, 1) := by decide +kernel
theorem dX12_correct_105 : decode cX12_correct 105 = .ok (.getfield 91, 3) := by decide +kernel
theorem dX12_correct_108 : decode cX12_correct 108 = .ok (.iconst 3, 1) := by decide +kernel
theorem dX12_correct_109 : decode cX12_correct 109 = .ok (.aload_n 0, 1) := by decide +kernel
theorem dX12_correct_110 : decode cX12_correct 110 = .ok (.getfield 321, 3) := by decide +kernel
theorem dX12_correct_113 : decode cX12_correct 113 = .ok (.imul, 1) := by decide +kernel
theorem dX12_correct_114 : decode cX12_correct 114 = .ok (.iload_n 3, 1) := by decide +kernel
theorem dX12_correct_115 : decode cX12_correct 115 = .ok (.iastore, 1) := by decide +kernel
theorem dX12_correct_116 : decode cX12_correct 116 = .ok (.aload_n 0, 1) := by decide +kernel
theorem dX12_correct_117 : decode cX12_correct 117 = .ok (.getfield 91, 3) := by decide +kernel
theorem dX12_correct_120 : decode cX12_correct 120 = .ok (.iconst 3, 1) := by decide +kernel
theorem dX12_correct_121 : decode cX12_correct 121 = .ok (.aload_n 0, 1) := by decide +kernel
theorem dX12_correct_122 : decode cX12_correct 122 = .ok (.getfield 321, 3) := by decide +kernel
theorem dX12_correct_125 : decode cX12_correct 125 = .ok (.imul, 1) := by decide +kernel
theorem dX12_correct_126 : decode cX12_correct 126 = .ok (.iconst 1, 1) := by decide +kernel
theorem dX12_correct_127 : decode cX12_correct 127 = .ok (.iadd, 1) := by decide +kernel
theorem dX12_correct_128 : decode cX12_correct 128 = .ok (.iload 4, 2) := by decide +kernel
theorem dX12_correct_130 : decode cX12_correct 130 = .ok (.iastore, 1) := by decide +kernel
theorem dX12_correct_131 : decode cX12_correct 131 = .ok (.aload_n 0, 1) := by decide +kernel
theorem dX12_correct_132 : decode cX12_correct 132 = .ok (.getfield 91, 3) := by decide +kernel
theorem dX12_correct_135 : decode cX12_correct 135 = .ok (.iconst 3, 1) := by decide +kernel
theorem dX12_correct_136 : decode cX12_correct 136 = .ok (.aload_n 0, 1) := by decide +kernel
theorem dX12_correct_137 : decode cX12_correct 137 = .ok (.getfield 321, 3) := by decide +kernel
theorem dX12_correct_140 : decode cX12_correct 140 = .ok (.imul, 1) := by decide +kernel
theorem dX12_correct_141 : decode cX12_correct 141 = .ok (.iconst 2, 1) := by decide +kernel
theorem dX12_correct_142 : decode cX12_correct 142 = .ok (.iadd, 1) := by decide +kernel
theorem dX12_correct_143 : decode cX12_correct 143 = .ok (.iload 5, 2) := by decide +kernel
theorem dX12_correct_145 : decode cX12_correct 145 = .ok (.iastore, 1) := by decide +kernel
theorem dX12_correct_146 : decode cX12_correct 146 = .ok (.aload_n 0, 1) := by decide +kernel
theorem dX12_correct_147 : decode cX12_correct 147 = .ok (.dup, 1) := by decide +kernel
theorem dX12_correct_148 : decode cX12_correct 148 = .ok (.getfield 321, 3) := by decide +kernel
theorem dX12_correct_151 : decode cX12_correct 151 = .ok (.iconst 1, 1) := by decide +kernel
theorem dX12_correct_152 : decode cX12_correct 152 = .ok (.iadd, 1) := by decide +kernel
theorem dX12_correct_153 : decode cX12_correct 153 = .ok (.putfield 321, 3) := by decide +kernel
theorem dX12_correct_156 : decode cX12_correct 156 = .ok (.aload_n 0, 1) := by decide +kernel
theorem dX12_correct_157 : decode cX12_correct 157 = .ok (.getfield 321, 3) := by decide +kernel
theorem dX12_correct_160 : decode cX12_correct 160 = .ok (.iconst 1, 1) := by decide +kernel
theorem dX12_correct_161 : decode cX12_correct 161 = .ok (.isub, 1) := by decide +kernel
theorem dX12_correct_162 : decode cX12_correct 162 = .ok (.ireturn, 1) := by decide +kernel
theorem dX12_undo_0 : decode cX12_undo 0 = .ok (.aload_n 0, 1) := by decide +kernel
theorem dX12_undo_1 : decode cX12_undo 1 = .ok (.iconst 0, 1) := by decide +kernel
theorem dX12_undo_2 : decode cX12_undo 2 = .ok (.putfield 139, 3) := by decide +kernel
theorem dX12_undo_5 : decode cX12_undo 5 = .ok (.iload_n 1, 1) := by decide +kernel
theorem dX12_undo_6 : decode cX12_undo 6 = .ok (.iconst 0, 1) := by decide +kernel
theorem dX12_undo_7 : decode cX12_undo 7 = .ok (.aload_n 0, 1) := by decide +kernel
theorem dX12_undo_8 : decode cX12_undo 8 = .ok (.getfield 321, 3) := by decide +kernel
theorem dX12_undo_11 : decode cX12_undo 11 = .ok (.iconst 1, 1) := by decide +kernel
theorem dX12_undo_12 : decode cX12_undo 12 = .ok (.isub, 1) := by decide +kernel
theorem dX12_undo_13 : decode cX12_undo 13 = .ok (.invokestatic 145, 3) := by decide +kernel
theorem dX12_undo_16 : decode cX12_undo 16 = .ok (.ifCond .eq 13, 3) := by decide +kernel
theorem dX12_undo_19 : decode cX12_undo 19 = .ok (.iload_n 2, 1) := by decide +kernel
theorem dX12_undo_20 : decode cX12_undo 20 = .ok (.iconst 0, 1) := by decide +kernel
theorem dX12_undo_21 : decode cX12_undo 21 = .ok (.bipush 99, 2) := by decide +kernel
theorem dX12_undo_23 : decode cX12_undo 23 = .ok (.invokestatic 145, 3) := by decide +kernel
theorem dX12_undo_26 : decode cX12_undo 26 = .ok (.ifCond .ne 5, 3) := by decide +kernel
theorem dX12_undo_29 : decode cX12_undo 29 = .ok (.iconst 0, 1) := by decide +kernel
theorem dX12_undo_30 : decode cX12_undo 30 = .ok (.ireturn, 1) := by decide +kernel
theorem dX12_undo_31 : decode cX12_undo 31 = .ok (.aload_n 0, 1) := by decide +kernel
theorem dX12_undo_32 : decode cX12_undo 32 = .ok (.getfield 88, 3) := by decide +kernel
theorem dX12_undo_35 : decode cX12_undo 35 = .ok (.iload_n 1, 1) := by decide +kernel
theorem dX12_undo_36 : decode cX12_undo 36 = .ok (.iload_n 2, 1) := by decide +kernel
theorem dX12_undo_37 : decode cX12_undo 37 = .ok (.iastore, 1) := by decide +kernel
theorem dX12_undo_38 : decode cX12_undo 38 = .ok (.iconst 1, 1) := by decide +kernel
theorem dX12_undo_39 : decode cX12_undo 39 = .ok (.ireturn, 1) := by decide +kernel
theorem dX12_as_0 : decode cX12_as 0 = .ok (.aload_n 0, 1) := by decide +kernel
theorem dX12_as_1 : decode cX12_as 1 = .ok (.iconst 0, 1) := by decide +kernel
theorem dX12_as_2 : decode cX12_as 2 = .ok (.putfield 139, 3) := by decide +kernel
theorem dX12_as_5 : decode cX12_as 5 = .ok (.iload_n 1, 1) := by decide +kernel
theorem dX12_as_6 : decode cX12_as 6 = .ok (.iconst 0, 1) := by decide +kernel
theorem dX12_as_7 : decode cX12_as 7 = .ok (.bipush 99, 2) := by decide +kernel
theorem dX12_as_9 : decode cX12_as 9 = .ok (.invokestatic 145, 3) := by decide +kernel
theorem dX12_as_12 : decode cX12_as 12 = .ok (.ifCond .ne 5, 3) := by decide +kernel
theorem dX12_as_15 : decode cX12_as 15 = .ok (.iconst (-1), 1) := by decide +kernel
theorem dX12_as_16 : decode cX12_as 16 = .ok (.ireturn, 1) := by decide +kernel
theorem dX12_as_17 : decode cX12_as 17 = .ok (.aload_n 0, 1) := by decide +kernel
theorem dX12_as_18 : decode cX12_as 18 = .ok (.getfield 94, 3) := by decide +kernel
theorem dX12_as_21 : decode cX12_as 21 = .ok (.istore_n 2, 1) := by decide +kernel
theorem dX12_as_22 : decode cX12_as 22 = .ok (.aload_n 0, 1) := by decide +kernel
theorem dX12_as_23 : decode cX12_as 23 = .ok (.iload_n 1, 1) := by decide +kernel
theorem dX12_as_24 : decode cX12_as 24 = .ok (.putfield 94, 3) := by decide +kernel
theorem dX12_as_27 : decode cX12_as 27 = .ok (.iload_n 2, 1) := by decide +kernel
theorem dX12_as_28 : decode cX12_as 28 = .ok (.ireturn, 1) := by decide +kernel
theorem dX12_isKnown_0 : decode cX12_isKnown 0 = .ok (.aload_n 0, 1) := by decide +kernel
theorem dX12_isKnown_1 : decode cX12_isKnown 1 = .ok (.getfield 85, 3) := by decide +kernel
theorem dX12_isKnown_4 : decode cX12_isKnown 4 = .ok (.iload_n 1, 1) := by decide +kernel
theorem dX12_isKnown_5 : decode cX12_isKnown 5 = .ok (.iaload, 1) := by decide +kernel
theorem dX12_isKnown_6 : decode cX12_isKnown 6 = .ok (.aload_n 0, 1) := by decide +kernel
theorem dX12_isKnown_7 : decode cX12_isKnown 7 = .ok (.getfield 94, 3) := by decide +kernel
theorem dX12_isKnown_10 : decode cX12_isKnown 10 = .ok (.if_icmp .gt 20, 3) := by decide +kernel
theorem dX12_isKnown_13 : decode cX12_isKnown 13 = .ok (.aload_n 0, 1) := by decide +kernel
theorem dX12_isKnown_14 : decode cX12_isKnown 14 = .ok (.getfield 88, 3) := by decide +kernel
theorem dX12_isKnown_17 : decode cX12_isKnown 17 = .ok (.iload_n 1, 1) := by decide +kernel
theorem dX12_isKnown_18 : decode cX12_isKnown 18 = .ok (.iaload, 1) := by decide +kernel
theorem dX12_isKnown_19 : decode cX12_isKnown 19 = .ok (.aload_n 0, 1) := by decide +kernel
theorem dX12_isKnown_20 : decode cX12_isKnown 20 = .ok (.getfield 94, 3) := by decide +kernel
theorem dX12_isKnown_23 : decode cX12_isKnown 23 = .ok (.if_icmp .le 7, 3) := by decide +kernel
theorem dX12_isKnown_26 : decode cX12_isKnown 26 = .ok (.iconst 1, 1) := by decide +kernel
theorem dX12_isKnown_27 : decode cX12_isKnown 27 = .ok (.goto 4, 3) := by decide +kernel
theorem dX12_isKnown_30 : decode cX12_isKnown 30 = .ok (.iconst 0, 1) := by decide +kernel
theorem dX12_isKnown_31 : decode cX12_isKnown 31 = .ok (.ireturn, 1) := by decide +kernel
theorem dX12_faultOf_0 : decode cX12_faultOf 0 = .ok (.iconst 0, 1) := by decide +kernel
theorem dX12_faultOf_1 : decode cX12_faultOf 1 = .ok (.istore_n 2, 1) := by decide +kernel
theorem dX12_faultOf_2 : decode cX12_faultOf 2 = .ok (.iload_n 2, 1) := by decide +kernel
theorem dX12_faultOf_3 : decode cX12_faultOf 3 = .ok (.iconst 3, 1) := by decide +kernel
theorem dX12_faultOf_4 : decode cX12_faultOf 4 = .ok (.if_icmp .ge 25, 3) := by decide +kernel
theorem dX12_faultOf_7 : decode cX12_faultOf 7 = .ok (.aload_n 0, 1) := by decide +kernel
theorem dX12_faultOf_8 : decode cX12_faultOf 8 = .ok (.getfield 116, 3) := by decide +kernel
theorem dX12_faultOf_11 : decode cX12_faultOf 11 = .ok (.iload_n 2, 1) := by decide +kernel
theorem dX12_faultOf_12 : decode cX12_faultOf 12 = .ok (.aload_n 0, 1) := by decide +kernel
theorem dX12_faultOf_13 : decode cX12_faultOf 13 = .ok (.getfield 91, 3) := by decide +kernel
theorem dX12_faultOf_16 : decode cX12_faultOf 16 = .ok (.iconst 3, 1) := by decide +kernel
theorem dX12_faultOf_17 : decode cX12_faultOf 17 = .ok (.iload_n 1, 1) := by decide +kernel
theorem dX12_faultOf_18 : decode cX12_faultOf 18 = .ok (.imul, 1) := by decide +kernel
theorem dX12_faultOf_19 : decode cX12_faultOf 19 = .ok (.iload_n 2, 1) := by decide +kernel
theorem dX12_faultOf_20 : decode cX12_faultOf 20 = .ok (.iadd, 1) := by decide +kernel
theorem dX12_faultOf_21 : decode cX12_faultOf 21 = .ok (.iaload, 1) := by decide +kernel
theorem dX12_faultOf_22 : decode cX12_faultOf 22 = .ok (.iastore, 1) := by decide +kernel
theorem dX12_faultOf_23 : decode cX12_faultOf 23 = .ok (.iinc 2 1, 3) := by decide +kernel
theorem dX12_faultOf_26 : decode cX12_faultOf 26 = .ok (.goto (-24), 3) := by decide +kernel
theorem dX12_faultOf_29 : decode cX12_faultOf 29 = .ok (.aload_n 0, 1) := by decide +kernel
theorem dX12_faultOf_30 : decode cX12_faultOf 30 = .ok (.getfield 116, 3) := by decide +kernel
theorem dX12_faultOf_33 : decode cX12_faultOf 33 = .ok (.iconst 3, 1) := by decide +kernel
theorem dX12_faultOf_34 : decode cX12_faultOf 34 = .ok (.aload_n 0, 1) := by decide +kernel
theorem dX12_faultOf_35 : decode cX12_faultOf 35 = .ok (.aload_n 0, 1) := by decide +kernel
theorem dX12_faultOf_36 : decode cX12_faultOf 36 = .ok (.getfield 82, 3) := by decide +kernel
theorem dX12_faultOf_39 : decode cX12_faultOf 39 = .ok (.iload_n 1, 1) := by decide +kernel
theorem dX12_faultOf_40 : decode cX12_faultOf 40 = .ok (.iaload, 1) := by decide +kernel
theorem dX12_faultOf_41 : decode cX12_faultOf 41 = .ok (.iconst 4, 1) := by decide +kernel
theorem dX12_faultOf_42 : decode cX12_faultOf 42 = .ok (.invokevirtual 261, 3) := by decide +kernel
theorem dX12_faultOf_45 : decode cX12_faultOf 45 = .ok (.iastore, 1) := by decide +kernel
theorem dX12_faultOf_46 : decode cX12_faultOf 46 = .ok (.aload_n 0, 1) := by decide +kernel
theorem dX12_faultOf_47 : decode cX12_faultOf 47 = .ok (.iconst 2, 1) := by decide +kernel
theorem dX12_faultOf_48 : decode cX12_faultOf 48 = .ok (.aload_n 0, 1) := by decide +kernel
theorem dX12_faultOf_49 : decode cX12_faultOf 49 = .ok (.getfield 85, 3) := by decide +kernel
theorem dX12_faultOf_52 : decode cX12_faultOf 52 = .ok (.iload_n 1, 1) := by decide +kernel
theorem dX12_faultOf_53 : decode cX12_faultOf 53 = .ok (.iaload, 1) := by decide +kernel
theorem dX12_faultOf_54 : decode cX12_faultOf 54 = .ok (.invokevirtual 278, 3) := by decide +kernel
theorem dX12_faultOf_57 : decode cX12_faultOf 57 = .ok (.istore_n 2, 1) := by decide +kernel
theorem dX12_faultOf_58 : decode cX12_faultOf 58 = .ok (.iload_n 2, 1) := by decide +kernel
theorem dX12_faultOf_59 : decode cX12_faultOf 59 = .ok (.iconst 1, 1) := by decide +kernel
theorem dX12_faultOf_60 : decode cX12_faultOf 60 = .ok (.if_icmp .eq 8, 3) := by decide +kernel
theorem dX12_faultOf_63 : decode cX12_faultOf 63 = .ok (.iload_n 2, 1) := by decide +kernel
theorem dX12_faultOf_64 : decode cX12_faultOf 64 = .ok (.iconst 2, 1) := by decide +kernel
theorem dX12_faultOf_65 : decode cX12_faultOf 65 = .ok (.if_icmp .ne 7, 3) := by decide +kernel
theorem dX12_faultOf_68 : decode cX12_faultOf 68 = .ok (.iload_n 2, 1) := by decide +kernel
theorem dX12_faultOf_69 : decode cX12_faultOf 69 = .ok (.goto 4, 3) := by decide +kernel
theorem dX12_faultOf_72 : decode cX12_faultOf 72 = .ok (.iconst 0, 1) := by decide +kernel
theorem dX12_faultOf_73 : decode cX12_faultOf 73 = .ok (.ireturn, 1) := by decide +kernel
theorem dX12_fault_0 : decode cX12_fault 0 = .ok (.aload_n 0, 1) := by decide +kernel
theorem dX12_fault_1 : decode cX12_fault 1 = .ok (.iconst 0, 1) := by decide +kernel
theorem dX12_fault_2 : decode cX12_fault 2 = .ok (.putfield 139, 3) := by decide +kernel
theorem dX12_fault_5 : decode cX12_fault 5 = .ok (.iload_n 1, 1) := by decide +kernel
theorem dX12_fault_6 : decode cX12_fault 6 = .ok (.iconst 0, 1) := by decide +kernel
theorem dX12_fault_7 : decode cX12_fault 7 = .ok (.aload_n 0, 1) := by decide +kernel
theorem dX12_fault_8 : decode cX12_fault 8 = .ok (.getfield 321, 3) := by decide +kernel
theorem dX12_fault_11 : decode cX12_fault 11 = .ok (.iconst 1, 1) := by decide +kernel
theorem dX12_fault_12 : decode cX12_fault 12 = .ok (.isub, 1) := by decide +kernel
theorem dX12_fault_13 : decode cX12_fault 13 = .ok (.invokestatic 145, 3) := by decide +kernel
theorem dX12_fault_16 : decode cX12_fault 16 = .ok (.ifCond .eq 19, 3) := by decide +kernel
theorem dX12_fault_19 : decode cX12_fault 19 = .ok (.aload_n 0, 1) := by decide +kernel
theorem dX12_fault_20 : decode cX12_fault 20 = .ok (.iload_n 1, 1) := by decide +kernel
theorem dX12_fault_21 : decode cX12_fault 21 = .ok (.invokevirtual 330, 3) := by decide +kernel
theorem dX12_fault_24 : decode cX12_fault 24 = .ok (.ifCond .eq 11, 3) := by decide +kernel
theorem dX12_fault_27 : decode cX12_fault 27 = .ok (.aload_n 0, 1) := by decide +kernel
theorem dX12_fault_28 : decode cX12_fault 28 = .ok (.iload_n 1, 1) := by decide +kernel
theorem dX12_fault_29 : decode cX12_fault 29 = .ok (.invokevirtual 333, 3) := by decide +kernel
theorem dX12_fault_32 : decode cX12_fault 32 = .ok (.goto 4, 3) := by decide +kernel
theorem dX12_fault_35 : decode cX12_fault 35 = .ok (.iconst (-1), 1) := by decide +kernel
theorem dX12_fault_36 : decode cX12_fault 36 = .ok (.ireturn, 1) := by decide +kernel
theorem dX12_faults_0 : decode cX12_faults 0 = .ok (.aload_n 0, 1) := by decide +kernel
theorem dX12_faults_1 : decode cX12_faults 1 = .ok (.iconst 0, 1) := by decide +kernel
theorem dX12_faults_2 : decode cX12_faults 2 = .ok (.putfield 139, 3) := by decide +kernel
theorem dX12_faults_5 : decode cX12_faults 5 = .ok (.aload_n 0, 1) := by decide +kernel
theorem dX12_faults_6 : decode cX12_faults 6 = .ok (.iload_n 1, 1) := by decide +kernel
theorem dX12_faults_7 : decode cX12_faults 7 = .ok (.invokevirtual 160, 3) := by decide +kernel
theorem dX12_faults_10 : decode cX12_faults 10 = .ok (.ifCond .eq 12, 3) := by decide +kernel
theorem dX12_faults_13 : decode cX12_faults 13 = .ok (.iload_n 2, 1) := by decide +kernel
theorem dX12_faults_14 : decode cX12_faults 14 = .ok (.iconst 0, 1) := by decide +kernel
theorem dX12_faults_15 : decode cX12_faults 15 = .ok (.iconst 2, 1) := by decide +kernel
theorem dX12_faults_16 : decode cX12_faults 16 = .ok (.invokestatic 145, 3) := by decide +kernel
theorem dX12_faults_19 : decode cX12_faults 19 = .ok (.ifCond .ne 5, 3) := by decide +kernel
theorem dX12_faults_22 : decode cX12_faults 22 = .ok (.iconst (-1), 1) := by decide +kernel
theorem dX12_faults_23 : decode cX12_faults 23 = .ok (.ireturn, 1) := by decide +kernel
theorem dX12_faults_24 : decode cX12_faults 24 = .ok (.iconst 0, 1) := by decide +kernel
theorem dX12_faults_25 : decode cX12_faults 25 = .ok (.istore_n 3, 1) := by decide +kernel
theorem dX12_faults_26 : decode cX12_faults 26 = .ok (.iconst 0, 1) := by decide +kernel
theorem dX12_faults_27 : decode cX12_faults 27 = .ok (.istore 4, 2) := by decide +kernel
theorem dX12_faults_29 : decode cX12_faults 29 = .ok (.iload 4, 2) := by decide +kernel
theorem dX12_faults_31 : decode cX12_faults 31 = .ok (.aload_n 0, 1) := by decide +kernel
theorem dX12_faults_32 : decode cX12_faults 32 = .ok (.getfield 321, 3) := by decide +kernel
theorem dX12_faults_35 : decode cX12_faults 35 = .ok (.if_icmp .ge 47, 3) := by decide +kernel
theorem dX12_faults_38 : decode cX12_faults 38 = .ok (.aload_n 0, 1) := by decide +kernel
theorem dX12_faults_39 : decode cX12_faults 39 = .ok (.iload 4, 2) := by decide +kernel
theorem dX12_faults_41 : decode cX12_faults 41 = .ok (.invokevirtual 330, 3) := by decide +kernel
theorem dX12_faults_44 : decode cX12_faults 44 = .ok (.ifCond .eq 32, 3) := by decide +kernel
theorem dX12_faults_47 : decode cX12_faults 47 = .ok (.aload_n 0, 1) := by decide +kernel
theorem dX12_faults_48 : decode cX12_faults 48 = .ok (.aload_n 0, 1) := by decide +kernel
theorem dX12_faults_49 : decode cX12_faults 49 = .ok (.getfield 82, 3) := by decide +kernel
theorem dX12_faults_52 : decode cX12_faults 52 = .ok (.iload 4, 2) := by decide +kernel
theorem dX12_faults_54 : decode cX12_faults 54 = .ok (.iaload, 1) := by decide +kernel
theorem dX12_faults_55 : decode cX12_faults 55 = .ok (.iconst 0, 1) := by decide +kernel
theorem dX12_faults_56 : decode cX12_faults 56 = .ok (.invokevirtual 261, 3) := by decide +kernel
theorem dX12_faults_59 : decode cX12_faults 59 = .ok (.iload_n 1, 1) := by decide +kernel
theorem dX12_faults_60 : decode cX12_faults 60 = .ok (.if_icmp .ne 16, 3) := by decide +kernel
theorem dX12_faults_63 : decode cX12_faults 63 = .ok (.aload_n 0, 1) := by decide +kernel
theorem dX12_faults_64 : decode cX12_faults 64 = .ok (.iload 4, 2) := by decide +kernel
theorem dX12_faults_66 : decode cX12_faults 66 = .ok (.invokevirtual 333, 3) := by decide +kernel
theorem dX12_faults_69 : decode cX12_faults 69 = .ok (.iload_n 2, 1) := by decide +kernel
theorem dX12_faults_70 : decode cX12_faults 70 = .ok (.if_icmp .ne 6, 3) := by decide +kernel
theorem dX12_faults_73 : decode cX12_faults 73 = .ok (.iinc 3 1, 3) := by decide +kernel
theorem dX12_faults_76 : decode cX12_faults 76 = .ok (.iinc 4 1, 3) := by decide +kernel
theorem dX12_faults_79 : decode cX12_faults 79 = .ok (.goto (-50), 3) := by decide +kernel
theorem dX12_faults_82 : decode cX12_faults 82 = .ok (.iload_n 3, 1) := by decide +kernel
theorem dX12_faults_83 : decode cX12_faults 83 = .ok (.ireturn, 1) := by decide +kernel
theorem dX12_payOf_0 : decode cX12_payOf 0 = .ok (.aload_n 0, 1) := by decide +kernel
theorem dX12_payOf_1 : decode cX12_payOf 1 = .ok (.iload_n 1, 1) := by decide +kernel
theorem dX12_payOf_2 : decode cX12_payOf 2 = .ok (.iconst 2, 1) := by decide +kernel
theorem dX12_payOf_3 : decode cX12_payOf 3 = .ok (.invokevirtual 261, 3) := by decide +kernel
theorem dX12_payOf_6 : decode cX12_payOf 6 = .ok (.iconst (-1), 1) := by decide +kernel
theorem dX12_payOf_7 : decode cX12_payOf 7 = .ok (.if_icmp .ne 5, 3) := by decide +kernel
theorem dX12_payOf_10 : decode cX12_payOf 10 = .ok (.iconst 0, 1) := by decide +kernel
theorem dX12_payOf_11 : decode cX12_payOf 11 = .ok (.ireturn, 1) := by decide +kernel
theorem dX12_payOf_12 : decode cX12_payOf 12 = .ok (.iconst 0, 1) := by decide +kernel
theorem dX12_payOf_13 : decode cX12_payOf 13 = .ok (.istore_n 2, 1) := by decide +kernel
theorem dX12_payOf_14 : decode cX12_payOf 14 = .ok (.iconst 0, 1) := by decide +kernel
theorem dX12_payOf_15 : decode cX12_payOf 15 = .ok (.istore_n 3, 1) := by decide +kernel
theorem dX12_payOf_16 : decode cX12_payOf 16 = .ok (.iload_n 3, 1) := by decide +kernel
theorem dX12_payOf_17 : decode cX12_payOf 17 = .ok (.aload_n 0, 1) := by decide +kernel
theorem dX12_payOf_18 : decode cX12_payOf 18 = .ok (.getfield 321, 3) := by decide +kernel
theorem dX12_payOf_21 : decode cX12_payOf 21 = .ok (.if_icmp .ge 39, 3) := by decide +kernel
theorem dX12_payOf_24 : decode cX12_payOf 24 = .ok (.aload_n 0, 1) := by decide +kernel
theorem dX12_payOf_25 : decode cX12_payOf 25 = .ok (.getfield 82, 3) := by decide +kernel
theorem dX12_payOf_28 : decode cX12_payOf 28 = .ok (.iload_n 3, 1) := by decide +kernel
theorem dX12_payOf_29 : decode cX12_payOf 29 = .ok (.iaload, 1) := by decide +kernel
theorem dX12_payOf_30 : decode cX12_payOf 30 = .ok (.iload_n 1, 1) := by decide +kernel
theorem dX12_payOf_31 : decode cX12_payOf 31 = .ok (.if_icmp .ne 23, 3) := by decide +kernel
theorem dX12_payOf_34 : decode cX12_payOf 34 = .ok (.aload_n 0, 1) := by decide +kernel
theorem dX12_payOf_35 : decode cX12_payOf 35 = .ok (.iload_n 3, 1) := by decide +kernel
theorem dX12_payOf_36 : decode cX12_payOf 36 = .ok (.invokevirtual 330, 3) := by decide +kernel
theorem dX12_payOf_39 : decode cX12_payOf 39 = .ok (.ifCond .eq 15, 3) := by decide +kernel
theorem dX12_payOf_42 : decode cX12_payOf 42 = .ok (.aload_n 0, 1) := by decide +kernel
theorem dX12_payOf_43 : decode cX12_payOf 43 = .ok (.iload_n 3, 1) := by decide +kernel
theorem dX12_payOf_44 : decode cX12_payOf 44 = .ok (.invokevirtual 333, 3) := by decide +kernel
theorem dX12_payOf_47 : decode cX12_payOf 47 = .ok (.iconst 1, 1) := by decide +kernel
theorem dX12_payOf_48 : decode cX12_payOf 48 = .ok (.if_icmp .ne 6, 3) := by decide +kernel
theorem dX12_payOf_51 : decode cX12_payOf 51 = .ok (.iinc 2 1, 3) := by decide +kernel
theorem dX12_payOf_54 : decode cX12_payOf 54 = .ok (.iinc 3 1, 3) := by decide +kernel
theorem dX12_payOf_57 : decode cX12_payOf 57 = .ok (.goto (-41), 3) := by decide +kernel
theorem dX12_payOf_60 : decode cX12_payOf 60 = .ok (.aload_n 0, 1) := by decide +kernel
theorem dX12_payOf_61 : decode cX12_payOf 61 = .ok (.getfield 116, 3) := by decide +kernel
theorem dX12_payOf_64 : decode cX12_payOf 64 = .ok (.iconst 0, 1) := by decide +kernel
theorem dX12_payOf_65 : decode cX12_payOf 65 = .ok (.aload_n 0, 1) := by decide +kernel
theorem dX12_payOf_66 : decode cX12_payOf 66 = .ok (.getfield 37, 3) := by decide +kernel
theorem dX12_payOf_69 : decode cX12_payOf 69 = .ok (.iload_n 1, 1) := by decide +kernel
theorem dX12_payOf_70 : decode cX12_payOf 70 = .ok (.iaload, 1) := by decide +kernel
theorem dX12_payOf_71 : decode cX12_payOf 71 = .ok (.iastore, 1) := by decide +kernel
theorem dX12_payOf_72 : decode cX12_payOf 72 = .ok (.aload_n 0, 1) := by decide +kernel
theorem dX12_payOf_73 : decode cX12_payOf 73 = .ok (.getfield 116, 3) := by decide +kernel
theorem dX12_payOf_76 : decode cX12_payOf 76 = .ok (.iconst 1, 1) := by decide +kernel
theorem dX12_payOf_77 : decode cX12_payOf 77 = .ok (.aload_n 0, 1) := by decide +kernel
theorem dX12_payOf_78 : decode cX12_payOf 78 = .ok (.getfield 55, 3) := by decide +kernel
theorem dX12_payOf_81 : decode cX12_payOf 81 = .ok (.iload_n 1, 1) := by decide +kernel
theorem dX12_payOf_82 : decode cX12_payOf 82 = .ok (.iaload, 1) := by decide +kernel
theorem dX12_payOf_83 : decode cX12_payOf 83 = .ok (.iastore, 1) := by decide +kernel
theorem dX12_payOf_84 : decode cX12_payOf 84 = .ok (.aload_n 0, 1) := by decide +kernel
theorem dX12_payOf_85 : decode cX12_payOf 85 = .ok (.getfield 116, 3) := by decide +kernel
theorem dX12_payOf_88 : decode cX12_payOf 88 = .ok (.iconst 2, 1) := by decide +kernel
theorem dX12_payOf_89 : decode cX12_payOf 89 = .ok (.aload_n 0, 1) := by decide +kernel
theorem dX12_payOf_90 : decode cX12_payOf 90 = .ok (.getfield 40, 3) := by decide +kernel
theorem dX12_payOf_93 : decode cX12_payOf 93 = .ok (.iload_n 1, 1) := by decide +kernel
theorem dX12_payOf_94 : decode cX12_payOf 94 = .ok (.iaload, 1) := by decide +kernel
theorem dX12_payOf_95 : decode cX12_payOf 95 = .ok (.iastore, 1) := by decide +kernel
theorem dX12_payOf_96 : decode cX12_payOf 96 = .ok (.aload_n 0, 1) := by decide +kernel
theorem dX12_payOf_97 : decode cX12_payOf 97 = .ok (.getfield 116, 3) := by decide +kernel
theorem dX12_payOf_100 : decode cX12_payOf 100 = .ok (.iconst 3, 1) := by decide +kernel
theorem dX12_payOf_101 : decode cX12_payOf 101 = .ok (.aload_n 0, 1) := by decide +kernel
theorem dX12_payOf_102 : decode cX12_payOf 102 = .ok (.iload_n 1, 1) := by decide +kernel
theorem dX12_payOf_103 : decode cX12_payOf 103 = .ok (.invokevirtual 318, 3) := by decide +kernel
theorem dX12_payOf_106 : decode cX12_payOf 106 = .ok (.iastore, 1) := by decide +kernel
theorem dX12_payOf_107 : decode cX12_payOf 107 = .ok (.aload_n 0, 1) := by decide +kernel
theorem dX12_payOf_108 : decode cX12_payOf 108 = .ok (.getfield 116, 3) := by decide +kernel
theorem dX12_payOf_111 : decode cX12_payOf 111 = .ok (.iconst 4, 1) := by decide +kernel
theorem dX12_payOf_112 : decode cX12_payOf 112 = .ok (.iload_n 2, 1) := by decide +kernel
theorem dX12_payOf_113 : decode cX12_payOf 113 = .ok (.iastore, 1) := by decide +kernel
theorem dX12_payOf_114 : decode cX12_payOf 114 = .ok (.aload_n 0, 1) := by decide +kernel
theorem dX12_payOf_115 : decode cX12_payOf 115 = .ok (.iconst 3, 1) := by decide +kernel
theorem dX12_payOf_116 : decode cX12_payOf 116 = .ok (.aload_n 0, 1) := by decide +kernel
theorem dX12_payOf_117 : decode cX12_payOf 117 = .ok (.iload_n 1, 1) := by decide +kernel
theorem dX12_payOf_118 : decode cX12_payOf 118 = .ok (.iconst 2, 1) := by decide +kernel
theorem dX12_payOf_119 : decode cX12_payOf 119 = .ok (.invokevirtual 261, 3) := by decide +kernel
theorem dX12_payOf_122 : decode cX12_payOf 122 = .ok (.sipush 480, 3) := by decide +kernel
theorem dX12_payOf_125 : decode cX12_payOf 125 = .ok (.idiv, 1) := by decide +kernel
theorem dX12_payOf_126 : decode cX12_payOf 126 = .ok (.invokevirtual 278, 3) := by decide +kernel
theorem dX12_payOf_129 : decode cX12_payOf 129 = .ok (.ireturn, 1) := by decide +kernel
theorem dX12_pay_0 : decode cX12_pay 0 = .ok (.aload_n 0, 1) := by decide +kernel
theorem dX12_pay_1 : decode cX12_pay 1 = .ok (.iconst 0, 1) := by decide +kernel
theorem dX12_pay_2 : decode cX12_pay 2 = .ok (.putfield 139, 3) := by decide +kernel
theorem dX12_pay_5 : decode cX12_pay 5 = .ok (.aload_n 0, 1) := by decide +kernel
theorem dX12_pay_6 : decode cX12_pay 6 = .ok (.iload_n 1, 1) := by decide +kernel
theorem dX12_pay_7 : decode cX12_pay 7 = .ok (.invokevirtual 315, 3) := by decide +kernel
theorem dX12_pay_10 : decode cX12_pay 10 = .ok (.ifCond .eq 11, 3) := by decide +kernel
theorem dX12_pay_13 : decode cX12_pay 13 = .ok (.aload_n 0, 1) := by decide +kernel
theorem dX12_pay_14 : decode cX12_pay 14 = .ok (.iload_n 1, 1) := by decide +kernel
theorem dX12_pay_15 : decode cX12_pay 15 = .ok (.invokevirtual 336, 3) := by decide +kernel
theorem dX12_pay_18 : decode cX12_pay 18 = .ok (.goto 7, 3) := by decide +kernel
theorem dX12_pay_21 : decode cX12_pay 21 = .ok (.aload_n 0, 1) := by decide +kernel
theorem dX12_pay_22 : decode cX12_pay 22 = .ok (.invokevirtual 312, 3) := by decide +kernel
theorem dX12_pay_25 : decode cX12_pay 25 = .ok (.ireturn, 1) := by decide +kernel
theorem dX12_earns_0 : decode cX12_earns 0 = .ok (.aload_n 0, 1) := by decide +kernel
theorem dX12_earns_1 : decode cX12_earns 1 = .ok (.iconst 0, 1) := by decide +kernel
theorem dX12_earns_2 : decode cX12_earns 2 = .ok (.putfield 139, 3) := by decide +kernel
theorem dX12_earns_5 : decode cX12_earns 5 = .ok (.aload_n 0, 1) := by decide +kernel
theorem dX12_earns_6 : decode cX12_earns 6 = .ok (.iload_n 1, 1) := by decide +kernel
theorem dX12_earns_7 : decode cX12_earns 7 = .ok (.invokevirtual 160, 3) := by decide +kernel
theorem dX12_earns_10 : decode cX12_earns 10 = .ok (.ifCond .eq 13, 3) := by decide +kernel
theorem dX12_earns_13 : decode cX12_earns 13 = .ok (.iload_n 2, 1) := by decide +kernel
theorem dX12_earns_14 : decode cX12_earns 14 = .ok (.iconst (-1), 1) := by decide +kernel
theorem dX12_earns_15 : decode cX12_earns 15 = .ok (.bipush 9, 2) := by decide +kernel
theorem dX12_earns_17 : decode cX12_earns 17 = .ok (.invokestatic 145, 3) := by decide +kernel
theorem dX12_earns_20 : decode cX12_earns 20 = .ok (.ifCond .ne 8, 3) := by decide +kernel
theorem dX12_earns_23 : decode cX12_earns 23 = .ok (.aload_n 0, 1) := by decide +kernel
theorem dX12_earns_24 : decode cX12_earns 24 = .ok (.invokevirtual 312, 3) := by decide +kernel
theorem dX12_earns_27 : decode cX12_earns 27 = .ok (.ireturn, 1) := by decide +kernel
theorem dX12_earns_28 : decode cX12_earns 28 = .ok (.iconst 0, 1) := by decide +kernel
theorem dX12_earns_29 : decode cX12_earns 29 = .ok (.istore_n 3, 1) := by decide +kernel
theorem dX12_earns_30 : decode cX12_earns 30 = .ok (.iconst 0, 1) := by decide +kernel
theorem dX12_earns_31 : decode cX12_earns 31 = .ok (.istore 4, 2) := by decide +kernel
theorem dX12_earns_33 : decode cX12_earns 33 = .ok (.iload 4, 2) := by decide +kernel
theorem dX12_earns_35 : decode cX12_earns 35 = .ok (.aload_n 0, 1) := by decide +kernel
theorem dX12_earns_36 : decode cX12_earns 36 = .ok (.getfield 149, 3) := by decide +kernel
theorem dX12_earns_39 : decode cX12_earns 39 = .ok (.if_icmp .ge 60, 3) := by decide +kernel
theorem dX12_earns_42 : decode cX12_earns 42 = .ok (.aload_n 0, 1) := by decide +kernel
theorem dX12_earns_43 : decode cX12_earns 43 = .ok (.iload 4, 2) := by decide +kernel
theorem dX12_earns_45 : decode cX12_earns 45 = .ok (.iconst 0, 1) := by decide +kernel
theorem dX12_earns_46 : decode cX12_earns 46 = .ok (.invokevirtual 261, 3) := by decide +kernel
theorem dX12_earns_49 : decode cX12_earns 49 = .ok (.iload_n 1, 1) := by decide +kernel
theorem dX12_earns_50 : decode cX12_earns 50 = .ok (.if_icmp .ne 43, 3) := by decide +kernel
theorem dX12_earns_53 : decode cX12_earns 53 = .ok (.aload_n 0, 1) := by decide +kernel
theorem dX12_earns_54 : decode cX12_earns 54 = .ok (.iload 4, 2) := by decide +kernel
theorem dX12_earns_56 : decode cX12_earns 56 = .ok (.iconst 2, 1) := by decide +kernel
theorem dX12_earns_57 : decode cX12_earns 57 = .ok (.invokevirtual 261, 3) := by decide +kernel
theorem dX12_earns_60 : decode cX12_earns 60 = .ok (.iconst (-1), 1) := by decide +kernel
theorem dX12_earns_61 : decode cX12_earns 61 = .ok (.if_icmp .eq 32, 3) := by decide +kernel
theorem dX12_earns_64 : decode cX12_earns 64 = .ok (.iload_n 2, 1) := by decide +kernel
theorem dX12_earns_65 : decode cX12_earns 65 = .ok (.iconst (-1), 1) := by decide +kernel
theorem dX12_earns_66 : decode cX12_earns 66 = .ok (.if_icmp .eq 18, 3) := by decide +kernel
theorem dX12_earns_69 : decode cX12_earns 69 = .ok (.aload_n 0, 1) := by decide +kernel
theorem dX12_earns_70 : decode cX12_earns 70 = .ok (.iload 4, 2) := by decide +kernel
theorem dX12_earns_72 : decode cX12_earns 72 = .ok (.iconst 2, 1) := by decide +kernel
theorem dX12_earns_73 : decode cX12_earns 73 = .ok (.invokevirtual 261, 3) := by decide +kernel
theorem dX12_earns_76 : decode cX12_earns 76 = .ok (.sipush 480, 3) := by decide +kernel
theorem dX12_earns_79 : decode cX12_earns 79 = .ok (.idiv, 1) := by decide +kernel
theorem dX12_earns_80 : decode cX12_earns 80 = .ok (.iload_n 2, 1) := by decide +kernel
theorem dX12_earns_81 : decode cX12_earns 81 = .ok (.if_icmp .ne 12, 3) := by decide +kernel
theorem dX12_earns_84 : decode cX12_earns 84 = .ok (.iload_n 3, 1) := by decide +kernel
theorem dX12_earns_85 : decode cX12_earns 85 = .ok (.aload_n 0, 1) := by decide +kernel
theorem dX12_earns_86 : decode cX12_earns 86 = .ok (.iload 4, 2) := by decide +kernel
theorem dX12_earns_88 : decode cX12_earns 88 = .ok (.invokevirtual 336, 3) := by decide +kernel
theorem dX12_earns_91 : decode cX12_earns 91 = .ok (.iadd, 1) := by decide +kernel
theorem dX12_earns_92 : decode cX12_earns 92 = .ok (.istore_n 3, 1) := by decide +kernel
theorem dX12_earns_93 : decode cX12_earns 93 = .ok (.iinc 4 1, 3) := by decide +kernel
theorem dX12_earns_96 : decode cX12_earns 96 = .ok (.goto (-63), 3) := by decide +kernel
theorem dX12_earns_99 : decode cX12_earns 99 = .ok (.iload_n 3, 1) := by decide +kernel
theorem dX12_earns_100 : decode cX12_earns 100 = .ok (.ireturn, 1) := by decide +kernel
theorem dX12_slips_0 : decode cX12_slips 0 = .ok (.aload_n 0, 1) := by decide +kernel
theorem dX12_slips_1 : decode cX12_slips 1 = .ok (.iconst 0, 1) := by decide +kernel
theorem dX12_slips_2 : decode cX12_slips 2 = .ok (.putfield 139, 3) := by decide +kernel
theorem dX12_slips_5 : decode cX12_slips 5 = .ok (.aload_n 0, 1) := by decide +kernel
theorem dX12_slips_6 : decode cX12_slips 6 = .ok (.iload_n 1, 1) := by decide +kernel
theorem dX12_slips_7 : decode cX12_slips 7 = .ok (.invokevirtual 315, 3) := by decide +kernel
theorem dX12_slips_10 : decode cX12_slips 10 = .ok (.ifCond .eq 22, 3) := by decide +kernel
theorem dX12_slips_13 : decode cX12_slips 13 = .ok (.iload_n 2, 1) := by decide +kernel
theorem dX12_slips_14 : decode cX12_slips 14 = .ok (.iconst 0, 1) := by decide +kernel
theorem dX12_slips_15 : decode cX12_slips 15 = .ok (.iconst 1, 1) := by decide +kernel
theorem dX12_slips_16 : decode cX12_slips 16 = .ok (.invokestatic 145, 3) := by decide +kernel
theorem dX12_slips_19 : decode cX12_slips 19 = .ok (.ifCond .eq 13, 3) := by decide +kernel
theorem dX12_slips_22 : decode cX12_slips 22 = .ok (.iload_n 3, 1) := by decide +kernel
theorem dX12_slips_23 : decode cX12_slips 23 = .ok (.iconst 0, 1) := by decide +kernel
theorem dX12_slips_24 : decode cX12_slips 24 = .ok (.ldc 155, 2) := by decide +kernel
theorem dX12_slips_26 : decode cX12_slips 26 = .ok (.invokestatic 145, 3) := by decide +kernel
theorem dX12_slips_29 : decode cX12_slips 29 = .ok (.ifCond .ne 5, 3) := by decide +kernel
theorem dX12_slips_32 : decode cX12_slips 32 = .ok (.iconst 0, 1) := by decide +kernel
theorem dX12_slips_33 : decode cX12_slips 33 = .ok (.ireturn, 1) := by decide +kernel
theorem dX12_slips_34 : decode cX12_slips 34 = .ok (.aload_n 0, 1) := by decide +kernel
theorem dX12_slips_35 : decode cX12_slips 35 = .ok (.getfield 98, 3) := by decide +kernel
theorem dX12_slips_38 : decode cX12_slips 38 = .ok (.iconst 2, 1) := by decide +kernel
theorem dX12_slips_39 : decode cX12_slips 39 = .ok (.iload_n 1, 1) := by decide +kernel
theorem dX12_slips_40 : decode cX12_slips 40 = .ok (.imul, 1) := by decide +kernel
theorem dX12_slips_41 : decode cX12_slips 41 = .ok (.iload_n 2, 1) := by decide +kernel
theorem dX12_slips_42 : decode cX12_slips 42 = .ok (.iadd, 1) := by decide +kernel
theorem dX12_slips_43 : decode cX12_slips 43 = .ok (.iload_n 3, 1) := by decide +kernel
theorem dX12_slips_44 : decode cX12_slips 44 = .ok (.iastore, 1) := by decide +kernel
theorem dX12_slips_45 : decode cX12_slips 45 = .ok (.iconst 1, 1) := by decide +kernel
theorem dX12_slips_46 : decode cX12_slips 46 = .ok (.ireturn, 1) := by decide +kernel
theorem dX12_left_0 : decode cX12_left 0 = .ok (.aload_n 0, 1) := by decide +kernel
theorem dX12_left_1 : decode cX12_left 1 = .ok (.iconst 0, 1) := by decide +kernel
theorem dX12_left_2 : decode cX12_left 2 = .ok (.putfield 139, 3) := by decide +kernel
theorem dX12_left_5 : decode cX12_left 5 = .ok (.aload_n 0, 1) := by decide +kernel
theorem dX12_left_6 : decode cX12_left 6 = .ok (.iload_n 1, 1) := by decide +kernel
theorem dX12_left_7 : decode cX12_left 7 = .ok (.invokevirtual 315, 3) := by decide +kernel
theorem dX12_left_10 : decode cX12_left 10 = .ok (.ifCond .eq 12, 3) := by decide +kernel
theorem dX12_left_13 : decode cX12_left 13 = .ok (.iload_n 2, 1) := by decide +kernel
theorem dX12_left_14 : decode cX12_left 14 = .ok (.iconst 0, 1) := by decide +kernel
theorem dX12_left_15 : decode cX12_left 15 = .ok (.iconst 2, 1) := by decide +kernel
theorem dX12_left_16 : decode cX12_left 16 = .ok (.invokestatic 145, 3) := by decide +kernel
theorem dX12_left_19 : decode cX12_left 19 = .ok (.ifCond .ne 5, 3) := by decide +kernel
theorem dX12_left_22 : decode cX12_left 22 = .ok (.iconst (-1), 1) := by decide +kernel
theorem dX12_left_23 : decode cX12_left 23 = .ok (.ireturn, 1) := by decide +kernel
theorem dX12_left_24 : decode cX12_left 24 = .ok (.aload_n 0, 1) := by decide +kernel
theorem dX12_left_25 : decode cX12_left 25 = .ok (.getfield 98, 3) := by decide +kernel
theorem dX12_left_28 : decode cX12_left 28 = .ok (.iconst 2, 1) := by decide +kernel
theorem dX12_left_29 : decode cX12_left 29 = .ok (.iload_n 1, 1) := by decide +kernel
theorem dX12_left_30 : decode cX12_left 30 = .ok (.imul, 1) := by decide +kernel
theorem dX12_left_31 : decode cX12_left 31 = .ok (.iaload, 1) := by decide +kernel
theorem dX12_left_32 : decode cX12_left 32 = .ok (.istore_n 3, 1) := by decide +kernel
theorem dX12_left_33 : decode cX12_left 33 = .ok (.aload_n 0, 1) := by decide +kernel
theorem dX12_left_34 : decode cX12_left 34 = .ok (.getfield 98, 3) := by decide +kernel
theorem dX12_left_37 : decode cX12_left 37 = .ok (.iconst 2, 1) := by decide +kernel
theorem dX12_left_38 : decode cX12_left 38 = .ok (.iload_n 1, 1) := by decide +kernel
theorem dX12_left_39 : decode cX12_left 39 = .ok (.imul, 1) := by decide +kernel
theorem dX12_left_40 : decode cX12_left 40 = .ok (.iconst 1, 1) := by decide +kernel
theorem dX12_left_41 : decode cX12_left 41 = .ok (.iadd, 1) := by decide +kernel
theorem dX12_left_42 : decode cX12_left 42 = .ok (.iaload, 1) := by decide +kernel
theorem dX12_left_43 : decode cX12_left 43 = .ok (.istore 4, 2) := by decide +kernel
theorem dX12_left_45 : decode cX12_left 45 = .ok (.iload_n 3, 1) := by decide +kernel
theorem dX12_left_46 : decode cX12_left 46 = .ok (.iload 4, 2) := by decide +kernel
theorem dX12_left_48 : decode cX12_left 48 = .ok (.iand, 1) := by decide +kernel
theorem dX12_left_49 : decode cX12_left 49 = .ok (.invokestatic 275, 3) := by decide +kernel
theorem dX12_left_52 : decode cX12_left 52 = .ok (.istore 5, 2) := by decide +kernel
theorem dX12_left_54 : decode cX12_left 54 = .ok (.iload_n 2, 1) := by decide +kernel
theorem dX12_left_55 : decode cX12_left 55 = .ok (.ifCond .le 21, 3) := by decide +kernel
theorem dX12_left_58 : decode cX12_left 58 = .ok (.iload_n 2, 1) := by decide +kernel
theorem dX12_left_59 : decode cX12_left 59 = .ok (.iconst 1, 1) := by decide +kernel
theorem dX12_left_60 : decode cX12_left 60 = .ok (.if_icmp .ne 13, 3) := by decide +kernel
theorem dX12_left_63 : decode cX12_left 63 = .ok (.iload_n 3, 1) := by decide +kernel
theorem dX12_left_64 : decode cX12_left 64 = .ok (.iload 4, 2) := by decide +kernel
theorem dX12_left_66 : decode cX12_left 66 = .ok (.ior, 1) := by decide +kernel
theorem dX12_left_67 : decode cX12_left 67 = .ok (.invokestatic 275, 3) := by decide +kernel
theorem dX12_left_70 : decode cX12_left 70 = .ok (.goto 5, 3) := by decide +kernel
theorem dX12_left_73 : decode cX12_left 73 = .ok (.iload 5, 2) := by decide +kernel
theorem dX12_left_75 : decode cX12_left 75 = .ok (.ireturn, 1) := by decide +kernel
theorem dX12_left_76 : decode cX12_left 76 = .ok (.iload 5, 2) := by decide +kernel
theorem dX12_left_78 : decode cX12_left 78 = .ok (.ifCond .ne 7, 3) := by decide +kernel
theorem dX12_left_81 : decode cX12_left 81 = .ok (.iconst (-1), 1) := by decide +kernel
theorem dX12_left_82 : decode cX12_left 82 = .ok (.goto 25, 3) := by decide +kernel
theorem dX12_left_85 : decode cX12_left 85 = .ok (.iload_n 3, 1) := by decide +kernel
theorem dX12_left_86 : decode cX12_left 86 = .ok (.iload 4, 2) := by decide +kernel
theorem dX12_left_88 : decode cX12_left 88 = .ok (.iconst (-1), 1) := by decide +kernel
theorem dX12_left_89 : decode cX12_left 89 = .ok (.ixor, 1) := by decide +kernel
theorem dX12_left_90 : decode cX12_left 90 = .ok (.iand, 1) := by decide +kernel
theorem dX12_left_91 : decode cX12_left 91 = .ok (.invokestatic 275, 3) := by decide +kernel
theorem dX12_left_94 : decode cX12_left 94 = .ok (.iload 4, 2) := by decide +kernel
theorem dX12_left_96 : decode cX12_left 96 = .ok (.iload_n 3, 1) := by decide +kernel
theorem dX12_left_97 : decode cX12_left 97 = .ok (.iconst (-1), 1) := by decide +kernel
theorem dX12_left_98 : decode cX12_left 98 = .ok (.ixor, 1) := by decide +kernel
theorem dX12_left_99 : decode cX12_left 99 = .ok (.iand, 1) := by decide +kernel
theorem dX12_left_100 : decode cX12_left 100 = .ok (.invokestatic 275, 3) := by decide +kernel
theorem dX12_left_103 : decode cX12_left 103 = .ok (.imul, 1) := by decide +kernel
theorem dX12_left_104 : decode cX12_left 104 = .ok (.iload 5, 2) := by decide +kernel
theorem dX12_left_106 : decode cX12_left 106 = .ok (.idiv, 1) := by decide +kernel
theorem dX12_left_107 : decode cX12_left 107 = .ok (.ireturn, 1) := by decide +kernel
theorem dX12_quick_0 : decode cX12_quick 0 = .ok (.aload_n 0, 1) := by decide +kernel
theorem dX12_quick_1 : decode cX12_quick 1 = .ok (.iconst 0, 1) := by decide +kernel
theorem dX12_quick_2 : decode cX12_quick 2 = .ok (.putfield 139, 3) := by decide +kernel
theorem dX12_quick_5 : decode cX12_quick 5 = .ok (.aload_n 0, 1) := by decide +kernel
theorem dX12_quick_6 : decode cX12_quick 6 = .ok (.iload_n 1, 1) := by decide +kernel
theorem dX12_quick_7 : decode cX12_quick 7 = .ok (.invokevirtual 160, 3) := by decide +kernel
theorem dX12_quick_10 : decode cX12_quick 10 = .ok (.ifCond .eq 21, 3) := by decide +kernel
theorem dX12_quick_13 : decode cX12_quick 13 = .ok (.iload_n 2, 1) := by decide +kernel
theorem dX12_quick_14 : decode cX12_quick 14 = .ok (.iconst 0, 1) := by decide +kernel
theorem dX12_quick_15 : decode cX12_quick 15 = .ok (.iconst 1, 1) := by decide +kernel
theorem dX12_quick_16 : decode cX12_quick 16 = .ok (.invokestatic 145, 3) := by decide +kernel
theorem dX12_quick_19 : decode cX12_quick 19 = .ok (.ifCond .eq 12, 3) := by decide +kernel
theorem dX12_quick_22 : decode cX12_quick 22 = .ok (.aload_n 0, 1) := by decide +kernel
theorem dX12_quick_23 : decode cX12_quick 23 = .ok (.iload_n 1, 1) := by decide +kernel
theorem dX12_quick_24 : decode cX12_quick 24 = .ok (.iconst 3, 1) := by decide +kernel
theorem dX12_quick_25 : decode cX12_quick 25 = .ok (.invokevirtual 272, 3) := by decide +kernel
theorem dX12_quick_28 : decode cX12_quick 28 = .ok (.ifCond .ne 5, 3) := by decide +kernel
theorem dX12_quick_31 : decode cX12_quick 31 = .ok (.iconst (-1), 1) := by decide +kernel
theorem dX12_quick_32 : decode cX12_quick 32 = .ok (.ireturn, 1) := by decide +kernel
theorem dX12_quick_33 : decode cX12_quick 33 = .ok (.iload_n 2, 1) := by decide +kernel
theorem dX12_quick_34 : decode cX12_quick 34 = .ok (.ifCond .ne 20, 3) := by decide +kernel
theorem dX12_quick_37 : decode cX12_quick 37 = .ok (.aload_n 0, 1) := by decide +kernel
theorem dX12_quick_38 : decode cX12_quick 38 = .ok (.iload_n 1, 1) := by decide +kernel
theorem dX12_quick_39 : decode cX12_quick 39 = .ok (.iconst 4, 1) := by decide +kernel
theorem dX12_quick_40 : decode cX12_quick 40 = .ok (.invokevirtual 272, 3) := by decide +kernel
theorem dX12_quick_43 : decode cX12_quick 43 = .ok (.bipush 60, 2) := by decide +kernel
theorem dX12_quick_45 : decode cX12_quick 45 = .ok (.imul, 1) := by decide +kernel
theorem dX12_quick_46 : decode cX12_quick 46 = .ok (.aload_n 0, 1) := by decide +kernel
theorem dX12_quick_47 : decode cX12_quick 47 = .ok (.iload_n 1, 1) := by decide +kernel
theorem dX12_quick_48 : decode cX12_quick 48 = .ok (.iconst 3, 1) := by decide +kernel
theorem dX12_quick_49 : decode cX12_quick 49 = .ok (.invokevirtual 272, 3) := by decide +kernel
theorem dX12_quick_52 : decode cX12_quick 52 = .ok (.idiv, 1) := by decide +kernel
theorem dX12_quick_53 : decode cX12_quick 53 = .ok (.ireturn, 1) := by decide +kernel
theorem dX12_quick_54 : decode cX12_quick 54 = .ok (.iconst 0, 1) := by decide +kernel
theorem dX12_quick_55 : decode cX12_quick 55 = .ok (.istore_n 3, 1) := by decide +kernel
theorem dX12_quick_56 : decode cX12_quick 56 = .ok (.iconst 0, 1) := by decide +kernel
theorem dX12_quick_57 : decode cX12_quick 57 = .ok (.istore 4, 2) := by decide +kernel
theorem dX12_quick_59 : decode cX12_quick 59 = .ok (.iload 4, 2) := by decide +kernel
theorem dX12_quick_61 : decode cX12_quick 61 = .ok (.aload_n 0, 1) := by decide +kernel
theorem dX12_quick_62 : decode cX12_quick 62 = .ok (.getfield 149, 3) := by decide +kernel
theorem dX12_quick_65 : decode cX12_quick 65 = .ok (.if_icmp .ge 46, 3) := by decide +kernel
theorem dX12_quick_68 : decode cX12_quick 68 = .ok (.aload_n 0, 1) := by decide +kernel
theorem dX12_quick_69 : decode cX12_quick 69 = .ok (.iload 4, 2) := by decide +kernel
theorem dX12_quick_71 : decode cX12_quick 71 = .ok (.iconst 0, 1) := by decide +kernel
theorem dX12_quick_72 : decode cX12_quick 72 = .ok (.invokevirtual 261, 3) := by decide +kernel
theorem dX12_quick_75 : decode cX12_quick 75 = .ok (.iload_n 1, 1) := by decide +kernel
theorem dX12_quick_76 : decode cX12_quick 76 = .ok (.if_icmp .ne 29, 3) := by decide +kernel
theorem dX12_quick_79 : decode cX12_quick 79 = .ok (.aload_n 0, 1) := by decide +kernel
theorem dX12_quick_80 : decode cX12_quick 80 = .ok (.iload 4, 2) := by decide +kernel
theorem dX12_quick_82 : decode cX12_quick 82 = .ok (.iconst 2, 1) := by decide +kernel
theorem dX12_quick_83 : decode cX12_quick 83 = .ok (.invokevirtual 261, 3) := by decide +kernel
theorem dX12_quick_86 : decode cX12_quick 86 = .ok (.iconst (-1), 1) := by decide +kernel
theorem dX12_quick_87 : decode cX12_quick 87 = .ok (.if_icmp .eq 18, 3) := by decide +kernel
theorem dX12_quick_90 : decode cX12_quick 90 = .ok (.iload_n 3, 1) := by decide +kernel
theorem dX12_quick_91 : decode cX12_quick 91 = .ok (.aload_n 0, 1) := by decide +kernel
theorem dX12_quick_92 : decode cX12_quick 92 = .ok (.iload 4, 2) := by decide +kernel
theorem dX12_quick_94 : decode cX12_quick 94 = .ok (.invokevirtual 173, 3) := by decide +kernel
theorem dX12_quick_97 : decode cX12_quick 97 = .ok (.bipush 59, 2) := by decide +kernel
theorem dX12_quick_99 : decode cX12_quick 99 = .ok (.iadd, 1) := by decide +kernel
theorem dX12_quick_100 : decode cX12_quick 100 = .ok (.bipush 60, 2) := by decide +kernel
theorem dX12_quick_102 : decode cX12_quick 102 = .ok (.idiv, 1) := by decide +kernel
theorem dX12_quick_103 : decode cX12_quick 103 = .ok (.iadd, 1) := by decide +kernel
theorem dX12_quick_104 : decode cX12_quick 104 = .ok (.istore_n 3, 1) := by decide +kernel
theorem dX12_quick_105 : decode cX12_quick 105 = .ok (.iinc 4 1, 3) := by decide +kernel
theorem dX12_quick_108 : decode cX12_quick 108 = .ok (.goto (-49), 3) := by decide +kernel
theorem dX12_quick_111 : decode cX12_quick 111 = .ok (.iload_n 3, 1) := by decide +kernel
theorem dX12_quick_112 : decode cX12_quick 112 = .ok (.sipush 1000, 3) := by decide +kernel
theorem dX12_quick_115 : decode cX12_quick 115 = .ok (.imul, 1) := by decide +kernel
theorem dX12_quick_116 : decode cX12_quick 116 = .ok (.aload_n 0, 1) := by decide +kernel
theorem dX12_quick_117 : decode cX12_quick 117 = .ok (.iload_n 1, 1) := by decide +kernel
theorem dX12_quick_118 : decode cX12_quick 118 = .ok (.iconst 3, 1) := by decide +kernel
theorem dX12_quick_119 : decode cX12_quick 119 = .ok (.invokevirtual 272, 3) := by decide +kernel
theorem dX12_quick_122 : decode cX12_quick 122 = .ok (.idiv, 1) := by decide +kernel
theorem dX12_quick_123 : decode cX12_quick 123 = .ok (.ireturn, 1) := by decide +kernel
theorem dX12_waited_0 : decode cX12_waited 0 = .ok (.iconst 0, 1) := by decide +kernel
theorem dX12_waited_1 : decode cX12_waited 1 = .ok (.istore_n 2, 1) := by decide +kernel
theorem dX12_waited_2 : decode cX12_waited 2 = .ok (.iconst 0, 1) := by decide +kernel
theorem dX12_waited_3 : decode cX12_waited 3 = .ok (.istore_n 3, 1) := by decide +kernel
theorem dX12_waited_4 : decode cX12_waited 4 = .ok (.iload_n 3, 1) := by decide +kernel
theorem dX12_waited_5 : decode cX12_waited 5 = .ok (.aload_n 0, 1) := by decide +kernel
theorem dX12_waited_6 : decode cX12_waited 6 = .ok (.getfield 149, 3) := by decide +kernel
theorem dX12_waited_9 : decode cX12_waited 9 = .ok (.if_icmp .ge 45, 3) := by decide +kernel
theorem dX12_waited_12 : decode cX12_waited 12 = .ok (.aload_n 0, 1) := by decide +kernel
theorem dX12_waited_13 : decode cX12_waited 13 = .ok (.getfield 31, 3) := by decide +kernel
theorem dX12_waited_16 : decode cX12_waited 16 = .ok (.iload_n 3, 1) := by decide +kernel
theorem dX12_waited_17 : decode cX12_waited 17 = .ok (.iaload, 1) := by decide +kernel
theorem dX12_waited_18 : decode cX12_waited 18 = .ok (.iload_n 1, 1) := by decide +kernel
theorem dX12_waited_19 : decode cX12_waited 19 = .ok (.if_icmp .ne 29, 3) := by decide +kernel
theorem dX12_waited_22 : decode cX12_waited 22 = .ok (.aload_n 0, 1) := by decide +kernel
theorem dX12_waited_23 : decode cX12_waited 23 = .ok (.iload_n 3, 1) := by decide +kernel
theorem dX12_waited_24 : decode cX12_waited 24 = .ok (.iconst 1, 1) := by decide +kernel
theorem dX12_waited_25 : decode cX12_waited 25 = .ok (.invokevirtual 261, 3) := by decide +kernel
theorem dX12_waited_28 : decode cX12_waited 28 = .ok (.iconst (-1), 1) := by decide +kernel
theorem dX12_waited_29 : decode cX12_waited 29 = .ok (.if_icmp .eq 19, 3) := by decide +kernel
theorem dX12_waited_32 : decode cX12_waited 32 = .ok (.iload_n 2, 1) := by decide +kernel
theorem dX12_waited_33 : decode cX12_waited 33 = .ok (.aload_n 0, 1) := by decide +kernel
theorem dX12_waited_34 : decode cX12_waited 34 = .ok (.iload_n 3, 1) := by decide +kernel
theorem dX12_waited_35 : decode cX12_waited 35 = .ok (.iconst 1, 1) := by decide +kernel
theorem dX12_waited_36 : decode cX12_waited 36 = .ok (.invokevirtual 261, 3) := by decide +kernel
theorem dX12_waited_39 : decode cX12_waited 39 = .ok (.aload_n 0, 1) := by decide +kernel
theorem dX12_waited_40 : decode cX12_waited 40 = .ok (.getfield 46, 3) := by decide +kernel
theorem dX12_waited_43 : decode cX12_waited 43 = .ok (.iload_n 3, 1) := by decide +kernel
theorem dX12_waited_44 : decode cX12_waited 44 = .ok (.iaload, 1) := by decide +kernel
theorem dX12_waited_45 : decode cX12_waited 45 = .ok (.isub, 1) := by decide +kernel
theorem dX12_waited_46 : decode cX12_waited 46 = .ok (.iadd, 1) := by decide +kernel
theorem dX12_waited_47 : decode cX12_waited 47 = .ok (.istore_n 2, 1) := by decide +kernel
theorem dX12_waited_48 : decode cX12_waited 48 = .ok (.iinc 3 1, 3) := by decide +kernel
theorem dX12_waited_51 : decode cX12_waited 51 = .ok (.goto (-47), 3) := by decide +kernel
theorem dX12_waited_54 : decode cX12_waited 54 = .ok (.iload_n 2, 1) := by decide +kernel
theorem dX12_waited_55 : decode cX12_waited 55 = .ok (.ireturn, 1) := by decide +kernel
theorem dX12_claims_0 : decode cX12_claims 0 = .ok (.aload_n 0, 1) := by decide +kernel
theorem dX12_claims_1 : decode cX12_claims 1 = .ok (.iconst 0, 1) := by decide +kernel
theorem dX12_claims_2 : decode cX12_claims 2 = .ok (.putfield 139, 3) := by decide +kernel
theorem dX12_claims_5 : decode cX12_claims 5 = .ok (.iload_n 1, 1) := by decide +kernel
theorem dX12_claims_6 : decode cX12_claims 6 = .ok (.iconst 0, 1) := by decide +kernel
theorem dX12_claims_7 : decode cX12_claims 7 = .ok (.bipush 7, 2) := by decide +kernel
theorem dX12_claims_9 : decode cX12_claims 9 = .ok (.invokestatic 145, 3) := by decide +kernel
theorem dX12_claims_12 : decode cX12_claims 12 = .ok (.ifCond .eq 12, 3) := by decide +kernel
theorem dX12_claims_15 : decode cX12_claims 15 = .ok (.iload_n 2, 1) := by decide +kernel
theorem dX12_claims_16 : decode cX12_claims 16 = .ok (.iconst 0, 1) := by decide +kernel
theorem dX12_claims_17 : decode cX12_claims 17 = .ok (.iconst 4, 1) := by decide +kernel
theorem dX12_claims_18 : decode cX12_claims 18 = .ok (.invokestatic 145, 3) := by decide +kernel
theorem dX12_claims_21 : decode cX12_claims 21 = .ok (.ifCond .ne 5, 3) := by decide +kernel
theorem dX12_claims_24 : decode cX12_claims 24 = .ok (.iconst (-1), 1) := by decide +kernel
theorem dX12_claims_25 : decode cX12_claims 25 = .ok (.ireturn, 1) := by decide +kernel
theorem dX12_claims_26 : decode cX12_claims 26 = .ok (.iload_n 2, 1) := by decide +kernel
theorem dX12_claims_27 : decode cX12_claims 27 = .ok (.ifCond .ne 9, 3) := by decide +kernel
theorem dX12_claims_30 : decode cX12_claims 30 = .ok (.aload_n 0, 1) := by decide +kernel
theorem dX12_claims_31 : decode cX12_claims 31 = .ok (.iload_n 1, 1) := by decide +kernel
theorem dX12_claims_32 : decode cX12_claims 32 = .ok (.invokevirtual 339, 3) := by decide +kernel
theorem dX12_claims_35 : decode cX12_claims 35 = .ok (.ireturn, 1) := by decide +kernel
theorem dX12_claims_36 : decode cX12_claims 36 = .ok (.iconst 0, 1) := by decide +kernel
theorem dX12_claims_37 : decode cX12_claims 37 = .ok (.istore_n 3, 1) := by decide +kernel
theorem dX12_claims_38 : decode cX12_claims 38 = .ok (.iconst 0, 1) := by decide +kernel
theorem dX12_claims_39 : decode cX12_claims 39 = .ok (.istore 4, 2) := by decide +kernel
theorem dX12_claims_41 : decode cX12_claims 41 = .ok (.iload 4, 2) := by decide +kernel
theorem dX12_claims_43 : decode cX12_claims 43 = .ok (.aload_n 0, 1) := by decide +kernel
theorem dX12_claims_44 : decode cX12_claims 44 = .ok (.getfield 149, 3) := by decide +kernel
theorem dX12_claims_47 : decode cX12_claims 47 = .ok (.if_icmp .ge 120, 3) := by decide +kernel
theorem dX12_claims_50 : decode cX12_claims 50 = .ok (.aload_n 0, 1) := by decide +kernel
theorem dX12_claims_51 : decode cX12_claims 51 = .ok (.getfield 31, 3) := by decide +kernel
theorem dX12_claims_54 : decode cX12_claims 54 = .ok (.iload 4, 2) := by decide +kernel
theorem dX12_claims_56 : decode cX12_claims 56 = .ok (.iaload, 1) := by decide +kernel
theorem dX12_claims_57 : decode cX12_claims 57 = .ok (.iload_n 1, 1) := by decide +kernel
theorem dX12_claims_58 : decode cX12_claims 58 = .ok (.if_icmp .eq 6, 3) := by decide +kernel
theorem dX12_claims_61 : decode cX12_claims 61 = .ok (.goto 100, 3) := by decide +kernel
theorem dX12_claims_64 : decode cX12_claims 64 = .ok (.iload_n 2, 1) := by decide +kernel
theorem dX12_claims_65 : decode cX12_claims 65 = .ok (.iconst 1, 1) := by decide +kernel
theorem dX12_claims_66 : decode cX12_claims 66 = .ok (.if_icmp .eq 55, 3) := by decide +kernel
theorem dX12_claims_69 : decode cX12_claims 69 = .ok (.iload_n 2, 1) := by decide +kernel
theorem dX12_claims_70 : decode cX12_claims 70 = .ok (.iconst 2, 1) := by decide +kernel
theorem dX12_claims_71 : decode cX12_claims 71 = .ok (.if_icmp .ne 12, 3) := by decide +kernel
theorem dX12_claims_74 : decode cX12_claims 74 = .ok (.aload_n 0, 1) := by decide +kernel
theorem dX12_claims_75 : decode cX12_claims 75 = .ok (.iload 4, 2) := by decide +kernel
theorem dX12_claims_77 : decode cX12_claims 77 = .ok (.invokevirtual 318, 3) := by decide +kernel
theorem dX12_claims_80 : decode cX12_claims 80 = .ok (.ifCond .gt 41, 3) := by decide +kernel
theorem dX12_claims_83 : decode cX12_claims 83 = .ok (.iload_n 2, 1) := by decide +kernel
theorem dX12_claims_84 : decode cX12_claims 84 = .ok (.iconst 3, 1) := by decide +kernel
theorem dX12_claims_85 : decode cX12_claims 85 = .ok (.if_icmp .ne 39, 3) := by decide +kernel
theorem dX12_claims_88 : decode cX12_claims 88 = .ok (.aload_n 0, 1) := by decide +kernel
theorem dX12_claims_89 : decode cX12_claims 89 = .ok (.getfield 43, 3) := by decide +kernel
theorem dX12_claims_92 : decode cX12_claims 92 = .ok (.iload 4, 2) := by decide +kernel
theorem dX12_claims_94 : decode cX12_claims 94 = .ok (.iaload, 1) := by decide +kernel
theorem dX12_claims_95 : decode cX12_claims 95 = .ok (.bipush 7, 2) := by decide +kernel
theorem dX12_claims_97 : decode cX12_claims 97 = .ok (.if_icmp .lt 27, 3) := by decide +kernel
theorem dX12_claims_100 : decode cX12_claims 100 = .ok (.aload_n 0, 1) := by decide +kernel
theorem dX12_claims_101 : decode cX12_claims 101 = .ok (.getfield 49, 3) := by decide +kernel
theorem dX12_claims_104 : decode cX12_claims 104 = .ok (.iload 4, 2) := by decide +kernel
theorem dX12_claims_106 : decode cX12_claims 106 = .ok (.iaload, 1) := by decide +kernel
theorem dX12_claims_107 : decode cX12_claims 107 = .ok (.aload_n 0, 1) := by decide +kernel
theorem dX12_claims_108 : decode cX12_claims 108 = .ok (.getfield 46, 3) := by decide +kernel
theorem dX12_claims_111 : decode cX12_claims 111 = .ok (.iload 4, 2) := by decide +kernel
theorem dX12_claims_113 : decode cX12_claims 113 = .ok (.iaload, 1) := by decide +kernel
theorem dX12_claims_114 : decode cX12_claims 114 = .ok (.isub, 1) := by decide +kernel
theorem dX12_claims_115 : decode cX12_claims 115 = .ok (.sipush 480, 3) := by decide +kernel
theorem dX12_claims_118 : decode cX12_claims 118 = .ok (.if_icmp .lt 6, 3) := by decide +kernel
theorem dX12_claims_121 : decode cX12_claims 121 = .ok (.iinc 3 1, 3) := by decide +kernel
theorem dX12_claims_124 : decode cX12_claims 124 = .ok (.iload_n 2, 1) := by decide +kernel
theorem dX12_claims_125 : decode cX12_claims 125 = .ok (.iconst 4, 1) := by decide +kernel
theorem dX12_claims_126 : decode cX12_claims 126 = .ok (.if_icmp .ne 35, 3) := by decide +kernel
theorem dX12_claims_129 : decode cX12_claims 129 = .ok (.aload_n 0, 1) := by decide +kernel
theorem dX12_claims_130 : decode cX12_claims 130 = .ok (.getfield 46, 3) := by decide +kernel
theorem dX12_claims_133 : decode cX12_claims 133 = .ok (.iload 4, 2) := by decide +kernel
theorem dX12_claims_135 : decode cX12_claims 135 = .ok (.iaload, 1) := by decide +kernel
theorem dX12_claims_136 : decode cX12_claims 136 = .ok (.sipush 480, 3) := by decide +kernel
theorem dX12_claims_139 : decode cX12_claims 139 = .ok (.idiv, 1) := by decide +kernel
theorem dX12_claims_140 : decode cX12_claims 140 = .ok (.aload_n 0, 1) := by decide +kernel
theorem dX12_claims_141 : decode cX12_claims 141 = .ok (.invokevirtual 164, 3) := by decide +kernel
theorem dX12_claims_144 : decode cX12_claims 144 = .ok (.sipush 480, 3) := by decide +kernel
theorem dX12_claims_147 : decode cX12_claims 147 = .ok (.idiv, 1) := by decide +kernel
theorem dX12_claims_148 : decode cX12_claims 148 = .ok (.if_icmp .ne 13, 3) := by decide +kernel
theorem dX12_claims_151 : decode cX12_claims 151 = .ok (.iload_n 3, 1) := by decide +kernel
theorem dX12_claims_152 : decode cX12_claims 152 = .ok (.aload_n 0, 1) := by decide +kernel
theorem dX12_claims_153 : decode cX12_claims 153 = .ok (.getfield 37, 3) := by decide +kernel
theorem dX12_claims_156 : decode cX12_claims 156 = .ok (.iload 4, 2) := by decide +kernel
theorem dX12_claims_158 : decode cX12_claims 158 = .ok (.iaload, 1) := by decide +kernel
theorem dX12_claims_159 : decode cX12_claims 159 = .ok (.iadd, 1) := by decide +kernel
theorem dX12_claims_160 : decode cX12_claims 160 = .ok (.istore_n 3, 1) := by decide +kernel
theorem dX12_claims_161 : decode cX12_claims 161 = .ok (.iinc 4 1, 3) := by decide +kernel
theorem dX12_claims_164 : decode cX12_claims 164 = .ok (.goto (-123), 3) := by decide +kernel
theorem dX12_claims_167 : decode cX12_claims 167 = .ok (.iload_n 3, 1) := by decide +kernel
theorem dX12_claims_168 : decode cX12_claims 168 = .ok (.ireturn, 1) := by decide +kernel
theorem dX12_ends_0 : decode cX12_ends 0 = .ok (.iload_n 2, 1) := by decide +kernel
theorem dX12_ends_1 : decode cX12_ends 1 = .ok (.sipush 4800, 3) := by decide +kernel
theorem dX12_ends_4 : decode cX12_ends 4 = .ok (.if_icmp .lt 7, 3) := by decide +kernel
theorem dX12_ends_7 : decode cX12_ends 7 = .ok (.iload_n 2, 1) := by decide +kernel
theorem dX12_ends_8 : decode cX12_ends 8 = .ok (.iload_n 3, 1) := by decide +kernel
theorem dX12_ends_9 : decode cX12_ends 9 = .ok (.iadd, 1) := by decide +kernel
theorem dX12_ends_10 : decode cX12_ends 10 = .ok (.ireturn, 1) := by decide +kernel
theorem dX12_ends_11 : decode cX12_ends 11 = .ok (.iload_n 1, 1) := by decide +kernel
theorem dX12_ends_12 : decode cX12_ends 12 = .ok (.sipush 4801, 3) := by decide +kernel
theorem dX12_ends_15 : decode cX12_ends 15 = .ok (.imul, 1) := by decide +kernel
theorem dX12_ends_16 : decode cX12_ends 16 = .ok (.istore 4, 2) := by decide +kernel
theorem dX12_ends_18 : decode cX12_ends 18 = .ok (.aload_n 0, 1) := by decide +kernel
theorem dX12_ends_19 : decode cX12_ends 19 = .ok (.getfield 120, 3) := by decide +kernel
theorem dX12_ends_22 : decode cX12_ends 22 = .ok (.iload 4, 2) := by decide +kernel
theorem dX12_ends_24 : decode cX12_ends 24 = .ok (.iload_n 2, 1) := by decide +kernel
theorem dX12_ends_25 : decode cX12_ends 25 = .ok (.iadd, 1) := by decide +kernel
theorem dX12_ends_26 : decode cX12_ends 26 = .ok (.iaload, 1) := by decide +kernel
theorem dX12_ends_27 : decode cX12_ends 27 = .ok (.iload_n 3, 1) := by decide +kernel
theorem dX12_ends_28 : decode cX12_ends 28 = .ok (.iadd, 1) := by decide +kernel
theorem dX12_ends_29 : decode cX12_ends 29 = .ok (.istore 5, 2) := by decide +kernel
theorem dX12_ends_31 : decode cX12_ends 31 = .ok (.aload_n 0, 1) := by decide +kernel
theorem dX12_ends_32 : decode cX12_ends 32 = .ok (.getfield 120, 3) := by decide +kernel
theorem dX12_ends_35 : decode cX12_ends 35 = .ok (.iload 4, 2) := by decide +kernel
theorem dX12_ends_37 : decode cX12_ends 37 = .ok (.sipush 4800, 3) := by decide +kernel
theorem dX12_ends_40 : decode cX12_ends 40 = .ok (.iadd, 1) := by decide +kernel
theorem dX12_ends_41 : decode cX12_ends 41 = .ok (.iaload, 1) := by decide +kernel
theorem dX12_ends_42 : decode cX12_ends 42 = .ok (.iload 5, 2) := by decide +kernel
theorem dX12_ends_44 : decode cX12_ends 44 = .ok (.if_icmp .ge 22, 3) := by decide +kernel
theorem dX12_ends_47 : decode cX12_ends 47 = .ok (.sipush 4800, 3) := by decide +kernel
theorem dX12_ends_50 : decode cX12_ends 50 = .ok (.iload 5, 2) := by decide +kernel
theorem dX12_ends_52 : decode cX12_ends 52 = .ok (.iadd, 1) := by decide +kernel
theorem dX12_ends_53 : decode cX12_ends 53 = .ok (.aload_n 0, 1) := by decide +kernel
theorem dX12_ends_54 : decode cX12_ends 54 = .ok (.getfield 120, 3) := by decide +kernel
theorem dX12_ends_57 : decode cX12_ends 57 = .ok (.iload 4, 2) := by decide +kernel
theorem dX12_ends_59 : decode cX12_ends 59 = .ok (.sipush 4800, 3) := by decide +kernel
theorem dX12_ends_62 : decode cX12_ends 62 = .ok (.iadd, 1) := by decide +kernel
theorem dX12_ends_63 : decode cX12_ends 63 = .ok (.iaload, 1) := by decide +kernel
theorem dX12_ends_64 : decode cX12_ends 64 = .ok (.isub, 1) := by decide +kernel
theorem dX12_ends_65 : decode cX12_ends 65 = .ok (.ireturn, 1) := by decide +kernel
theorem dX12_ends_66 : decode cX12_ends 66 = .ok (.iload_n 2, 1) := by decide +kernel
theorem dX12_ends_67 : decode cX12_ends 67 = .ok (.istore 6, 2) := by decide +kernel
theorem dX12_ends_69 : decode cX12_ends 69 = .ok (.sipush 4800, 3) := by decide +kernel
theorem dX12_ends_72 : decode cX12_ends 72 = .ok (.istore 7, 2) := by decide +kernel
theorem dX12_ends_74 : decode cX12_ends 74 = .ok (.iload 6, 2) := by decide +kernel
theorem dX12_ends_76 : decode cX12_ends 76 = .ok (.iload 7, 2) := by decide +kernel
theorem dX12_ends_78 : decode cX12_ends 78 = .ok (.if_icmp .ge 43, 3) := by decide +kernel
theorem dX12_ends_81 : decode cX12_ends 81 = .ok (.iload 6, 2) := by decide +kernel
theorem dX12_ends_83 : decode cX12_ends 83 = .ok (.iload 7, 2) := by decide +kernel
theorem dX12_ends_85 : decode cX12_ends 85 = .ok (.iadd, 1) := by decide +kernel
theorem dX12_ends_86 : decode cX12_ends 86 = .ok (.iconst 2, 1) := by decide +kernel
theorem dX12_ends_87 : decode cX12_ends 87 = .ok (.idiv, 1) := by decide +kernel
theorem dX12_ends_88 : decode cX12_ends 88 = .ok (.istore 8, 2) := by decide +kernel
theorem dX12_ends_90 : decode cX12_ends 90 = .ok (.aload_n 0, 1) := by decide +kernel
theorem dX12_ends_91 : decode cX12_ends 91 = .ok (.getfield 120, 3) := by decide +kernel
theorem dX12_ends_94 : decode cX12_ends 94 = .ok (.iload 4, 2) := by decide +kernel
theorem dX12_ends_96 : decode cX12_ends 96 = .ok (.iload 8, 2) := by decide +kernel
theorem dX12_ends_98 : decode cX12_ends 98 = .ok (.iadd, 1) := by decide +kernel
theorem dX12_ends_99 : decode cX12_ends 99 = .ok (.iaload, 1) := by decide +kernel
theorem dX12_ends_100 : decode cX12_ends 100 = .ok (.iload 5, 2) := by decide +kernel
theorem dX12_ends_102 : decode cX12_ends 102 = .ok (.if_icmp .lt 10, 3) := by decide +kernel
theorem dX12_ends_105 : decode cX12_ends 105 = .ok (.iload 8, 2) := by decide +kernel
theorem dX12_ends_107 : decode cX12_ends 107 = .ok (.istore 7, 2) := by decide +kernel
theorem dX12_ends_109 : decode cX12_ends 109 = .ok (.goto 9, 3) := by decide +kernel
theorem dX12_ends_112 : decode cX12_ends 112 = .ok (.iload 8, 2) := by decide +kernel
theorem dX12_ends_114 : decode cX12_ends 114 = .ok (.iconst 1, 1) := by decide +kernel
theorem dX12_ends_115 : decode cX12_ends 115 = .ok (.iadd, 1) := by decide +kernel
theorem dX12_ends_116 : decode cX12_ends 116 = .ok (.istore 6, 2) := by decide +kernel
theorem dX12_ends_118 : decode cX12_ends 118 = .ok (.goto (-44), 3) := by decide +kernel
theorem dX12_ends_121 : decode cX12_ends 121 = .ok (.iload 6, 2) := by decide +kernel
theorem dX12_ends_123 : decode cX12_ends 123 = .ok (.ireturn, 1) := by decide +kernel
theorem dX12_minutes_0 : decode cX12_minutes 0 = .ok (.iload_n 0, 1) := by decide +kernel
theorem dX12_minutes_1 : decode cX12_minutes 1 = .ok (.iload_n 1, 1) := by decide +kernel
theorem dX12_minutes_2 : decode cX12_minutes 2 = .ok (.iadd, 1) := by decide +kernel
theorem dX12_minutes_3 : decode cX12_minutes 3 = .ok (.iconst 1, 1) := by decide +kernel
theorem dX12_minutes_4 : decode cX12_minutes 4 = .ok (.isub, 1) := by decide +kernel
theorem dX12_minutes_5 : decode cX12_minutes 5 = .ok (.iload_n 1, 1) := by decide +kernel
theorem dX12_minutes_6 : decode cX12_minutes 6 = .ok (.idiv, 1) := by decide +kernel
theorem dX12_minutes_7 : decode cX12_minutes 7 = .ok (.ireturn, 1) := by decide +kernel
theorem dX12_planFrom_0 : decode cX12_planFrom 0 = .ok (.aload_n 0, 1) := by decide +kernel
theorem dX12_planFrom_1 : decode cX12_planFrom 1 = .ok (.getfield 126, 3) := by decide +kernel
theorem dX12_planFrom_4 : decode cX12_planFrom 4 = .ok (.iload_n 1, 1) := by decide +kernel
theorem dX12_planFrom_5 : decode cX12_planFrom 5 = .ok (.iaload, 1) := by decide +kernel
theorem dX12_planFrom_6 : decode cX12_planFrom 6 = .ok (.istore 8, 2) := by decide +kernel
theorem dX12_planFrom_8 : decode cX12_planFrom 8 = .ok (.aload_n 0, 1) := by decide +kernel
theorem dX12_planFrom_9 : decode cX12_planFrom 9 = .ok (.getfield 129, 3) := by decide +kernel
theorem dX12_planFrom_12 : decode cX12_planFrom 12 = .ok (.iload_n 3, 1) := by decide +kernel
theorem dX12_planFrom_13 : decode cX12_planFrom 13 = .ok (.iconst (-1), 1) := by decide +kernel
theorem dX12_planFrom_14 : decode cX12_planFrom 14 = .ok (.iastore, 1) := by decide +kernel
theorem dX12_planFrom_15 : decode cX12_planFrom 15 = .ok (.iload_n 1, 1) := by decide +kernel
theorem dX12_planFrom_16 : decode cX12_planFrom 16 = .ok (.iconst 1, 1) := by decide +kernel
theorem dX12_planFrom_17 : decode cX12_planFrom 17 = .ok (.iadd, 1) := by decide +kernel
theorem dX12_planFrom_18 : decode cX12_planFrom 18 = .ok (.aload_n 0, 1) := by decide +kernel
theorem dX12_planFrom_19 : decode cX12_planFrom 19 = .ok (.getfield 342, 3) := by decide +kernel
theorem dX12_planFrom_22 : decode cX12_planFrom 22 = .ok (.if_icmp .ge 21, 3) := by decide +kernel
theorem dX12_planFrom_25 : decode cX12_planFrom 25 = .ok (.aload_n 0, 1) := by decide +kernel
theorem dX12_planFrom_26 : decode cX12_planFrom 26 = .ok (.iload_n 1, 1) := by decide +kernel
theorem dX12_planFrom_27 : decode cX12_planFrom 27 = .ok (.iconst 1, 1) := by decide +kernel
theorem dX12_planFrom_28 : decode cX12_planFrom 28 = .ok (.iadd, 1) := by decide +kernel
theorem dX12_planFrom_29 : decode cX12_planFrom 29 = .ok (.iload_n 2, 1) := by decide +kernel
theorem dX12_planFrom_30 : decode cX12_planFrom 30 = .ok (.iload_n 3, 1) := by decide +kernel
theorem dX12_planFrom_31 : decode cX12_planFrom 31 = .ok (.iconst 1, 1) := by decide +kernel
theorem dX12_planFrom_32 : decode cX12_planFrom 32 = .ok (.iadd, 1) := by decide +kernel
theorem dX12_planFrom_33 : decode cX12_planFrom 33 = .ok (.iload 6, 2) := by decide +kernel
theorem dX12_planFrom_35 : decode cX12_planFrom 35 = .ok (.iload 7, 2) := by decide +kernel
theorem dX12_planFrom_37 : decode cX12_planFrom 37 = .ok (.invokevirtual 345, 3) := by decide +kernel
theorem dX12_planFrom_40 : decode cX12_planFrom 40 = .ok (.goto 26, 3) := by decide +kernel
theorem dX12_planFrom_43 : decode cX12_planFrom 43 = .ok (.iload_n 2, 1) := by decide +kernel
theorem dX12_planFrom_44 : decode cX12_planFrom 44 = .ok (.iconst 1, 1) := by decide +kernel
theorem dX12_planFrom_45 : decode cX12_planFrom 45 = .ok (.aload_n 0, 1) := by decide +kernel
theorem dX12_planFrom_46 : decode cX12_planFrom 46 = .ok (.getfield 349, 3) := by decide +kernel
theorem dX12_planFrom_49 : decode cX12_planFrom 49 = .ok (.ishl, 1) := by decide +kernel
theorem dX12_planFrom_50 : decode cX12_planFrom 50 = .ok (.iconst 1, 1) := by decide +kernel
theorem dX12_planFrom_51 : decode cX12_planFrom 51 = .ok (.isub, 1) := by decide +kernel
theorem dX12_planFrom_52 : decode cX12_planFrom 52 = .ok (.if_icmp .ne 14, 3) := by decide +kernel
theorem dX12_planFrom_55 : decode cX12_planFrom 55 = .ok (.aload_n 0, 1) := by decide +kernel
theorem dX12_planFrom_56 : decode cX12_planFrom 56 = .ok (.iload_n 3, 1) := by decide +kernel
theorem dX12_planFrom_57 : decode cX12_planFrom 57 = .ok (.iconst 1, 1) := by decide +kernel
theorem dX12_planFrom_58 : decode cX12_planFrom 58 = .ok (.iadd, 1) := by decide +kernel
theorem dX12_planFrom_59 : decode cX12_planFrom 59 = .ok (.iload 6, 2) := by decide +kernel
theorem dX12_planFrom_61 : decode cX12_planFrom 61 = .ok (.iload 7, 2) := by decide +kernel
theorem dX12_planFrom_63 : decode cX12_planFrom 63 = .ok (.invokevirtual 352, 3) := by decide +kernel
theorem dX12_planFrom_66 : decode cX12_planFrom 66 = .ok (.iconst 0, 1) := by decide +kernel
theorem dX12_planFrom_67 : decode cX12_planFrom 67 = .ok (.istore 9, 2) := by decide +kernel
theorem dX12_planFrom_69 : decode cX12_planFrom 69 = .ok (.iload 9, 2) := by decide +kernel
theorem dX12_planFrom_71 : decode cX12_planFrom 71 = .ok (.aload_n 0, 1) := by decide +kernel
theorem dX12_planFrom_72 : decode cX12_planFrom 72 = .ok (.getfield 349, 3) := by decide +kernel
theorem dX12_planFrom_75 : decode cX12_planFrom 75 = .ok (.if_icmp .ge 154, 3) := by decide +kernel
theorem dX12_planFrom_78 : decode cX12_planFrom 78 = .ok (.aload_n 0, 1) := by decide +kernel
theorem dX12_planFrom_79 : decode cX12_planFrom 79 = .ok (.getfield 123, 3) := by decide +kernel
theorem dX12_planFrom_82 : decode cX12_planFrom 82 = .ok (.iload 9, 2) := by decide +kernel
theorem dX12_planFrom_84 : decode cX12_planFrom 84 = .ok (.iaload, 1) := by decide +kernel
theorem dX12_planFrom_85 : decode cX12_planFrom 85 = .ok (.istore 10, 2) := by decide +kernel
theorem dX12_planFrom_87 : decode cX12_planFrom 87 = .ok (.iload_n 2, 1) := by decide +kernel
theorem dX12_planFrom_88 : decode cX12_planFrom 88 = .ok (.iload 9, 2) := by decide +kernel
theorem dX12_planFrom_90 : decode cX12_planFrom 90 = .ok (.ishr, 1) := by decide +kernel
theorem dX12_planFrom_91 : decode cX12_planFrom 91 = .ok (.iconst 1, 1) := by decide +kernel
theorem dX12_planFrom_92 : decode cX12_planFrom 92 = .ok (.iand, 1) := by decide +kernel
theorem dX12_planFrom_93 : decode cX12_planFrom 93 = .ok (.iconst 1, 1) := by decide +kernel
theorem dX12_planFrom_94 : decode cX12_planFrom 94 = .ok (.if_icmp .eq 129, 3) := by decide +kernel
theorem dX12_planFrom_97 : decode cX12_planFrom 97 = .ok (.aload_n 0, 1) := by decide +kernel
theorem dX12_planFrom_98 : decode cX12_planFrom 98 = .ok (.iload 8, 2) := by decide +kernel
theorem dX12_planFrom_100 : decode cX12_planFrom 100 = .ok (.iload 10, 2) := by decide +kernel
theorem dX12_planFrom_102 : decode cX12_planFrom 102 = .ok (.invokevirtual 286, 3) := by decide +kernel
theorem dX12_planFrom_105 : decode cX12_planFrom 105 = .ok (.ifCond .ne 6, 3) := by decide +kernel
theorem dX12_planFrom_108 : decode cX12_planFrom 108 = .ok (.goto 115, 3) := by decide +kernel
theorem dX12_planFrom_111 : decode cX12_planFrom 111 = .ok (.aload_n 0, 1) := by decide +kernel
theorem dX12_planFrom_112 : decode cX12_planFrom 112 = .ok (.iload 8, 2) := by decide +kernel
theorem dX12_planFrom_114 : decode cX12_planFrom 114 = .ok (.iload 4, 2) := by decide +kernel
theorem dX12_planFrom_116 : decode cX12_planFrom 116 = .ok (.aload_n 0, 1) := by decide +kernel
theorem dX12_planFrom_117 : decode cX12_planFrom 117 = .ok (.iload 10, 2) := by decide +kernel
theorem dX12_planFrom_119 : decode cX12_planFrom 119 = .ok (.invokevirtual 173, 3) := by decide +kernel
theorem dX12_planFrom_122 : decode cX12_planFrom 122 = .ok (.aload_n 0, 1) := by decide +kernel
theorem dX12_planFrom_123 : decode cX12_planFrom 123 = .ok (.getfield 13, 3) := by decide +kernel
theorem dX12_planFrom_126 : decode cX12_planFrom 126 = .ok (.iload 8, 2) := by decide +kernel
theorem dX12_planFrom_128 : decode cX12_planFrom 128 = .ok (.iaload, 1) := by decide +kernel
theorem dX12_planFrom_129 : decode cX12_planFrom 129 = .ok (.aload_n 0, 1) := by decide +kernel
theorem dX12_planFrom_130 : decode cX12_planFrom 130 = .ok (.getfield 52, 3) := by decide +kernel
theorem dX12_planFrom_133 : decode cX12_planFrom 133 = .ok (.iload 10, 2) := by decide +kernel
theorem dX12_planFrom_135 : decode cX12_planFrom 135 = .ok (.iaload, 1) := by decide +kernel
theorem dX12_planFrom_136 : decode cX12_planFrom 136 = .ok (.iload 5, 2) := by decide +kernel
theorem dX12_planFrom_138 : decode cX12_planFrom 138 = .ok (.iconst (-1), 1) := by decide +kernel
theorem dX12_planFrom_139 : decode cX12_planFrom 139 = .ok (.ixor, 1) := by decide +kernel
theorem dX12_planFrom_140 : decode cX12_planFrom 140 = .ok (.iand, 1) := by decide +kernel
theorem dX12_planFrom_141 : decode cX12_planFrom 141 = .ok (.invokestatic 299, 3) := by decide +kernel
theorem dX12_planFrom_144 : decode cX12_planFrom 144 = .ok (.invokestatic 355, 3) := by decide +kernel
theorem dX12_planFrom_147 : decode cX12_planFrom 147 = .ok (.invokevirtual 358, 3) := by decide +kernel
theorem dX12_planFrom_150 : decode cX12_planFrom 150 = .ok (.istore 11, 2) := by decide +kernel
theorem dX12_planFrom_152 : decode cX12_planFrom 152 = .ok (.aload_n 0, 1) := by decide +kernel
theorem dX12_planFrom_153 : decode cX12_planFrom 153 = .ok (.getfield 129, 3) := by decide +kernel
theorem dX12_planFrom_156 : decode cX12_planFrom 156 = .ok (.iload_n 3, 1) := by decide +kernel
theorem dX12_planFrom_157 : decode cX12_planFrom 157 = .ok (.iload 10, 2) := by decide +kernel
theorem dX12_planFrom_159 : decode cX12_planFrom 159 = .ok (.iastore, 1) := by decide +kernel
theorem dX12_planFrom_160 : decode cX12_planFrom 160 = .ok (.aload_n 0, 1) := by decide +kernel
theorem dX12_planFrom_161 : decode cX12_planFrom 161 = .ok (.iload_n 1, 1) := by decide +kernel
theorem dX12_planFrom_162 : decode cX12_planFrom 162 = .ok (.iload_n 2, 1) := by decide +kernel
theorem dX12_planFrom_163 : decode cX12_planFrom 163 = .ok (.iconst 1, 1) := by decide +kernel
theorem dX12_planFrom_164 : decode cX12_planFrom 164 = .ok (.iload 9, 2) := by decide +kernel
theorem dX12_planFrom_166 : decode cX12_planFrom 166 = .ok (.ishl, 1) := by decide +kernel
theorem dX12_planFrom_167 : decode cX12_planFrom 167 = .ok (.ior, 1) := by decide +kernel
theorem dX12_planFrom_168 : decode cX12_planFrom 168 = .ok (.iload_n 3, 1) := by decide +kernel
theorem dX12_planFrom_169 : decode cX12_planFrom 169 = .ok (.iconst 1, 1) := by decide +kernel
theorem dX12_planFrom_170 : decode cX12_planFrom 170 = .ok (.iadd, 1) := by decide +kernel
theorem dX12_planFrom_171 : decode cX12_planFrom 171 = .ok (.iload 11, 2) := by decide +kernel
theorem dX12_planFrom_173 : decode cX12_planFrom 173 = .ok (.iload 5, 2) := by decide +kernel
theorem dX12_planFrom_175 : decode cX12_planFrom 175 = .ok (.aload_n 0, 1) := by decide +kernel
theorem dX12_planFrom_176 : decode cX12_planFrom 176 = .ok (.getfield 52, 3) := by decide +kernel
theorem dX12_planFrom_179 : decode cX12_planFrom 179 = .ok (.iload 10, 2) := by decide +kernel
theorem dX12_planFrom_181 : decode cX12_planFrom 181 = .ok (.iaload, 1) := by decide +kernel
theorem dX12_planFrom_182 : decode cX12_planFrom 182 = .ok (.ior, 1) := by decide +kernel
theorem dX12_planFrom_183 : decode cX12_planFrom 183 = .ok (.iload 6, 2) := by decide +kernel
theorem dX12_planFrom_185 : decode cX12_planFrom 185 = .ok (.iload 11, 2) := by decide +kernel
theorem dX12_planFrom_187 : decode cX12_planFrom 187 = .ok (.aload_n 0, 1) := by decide +kernel
theorem dX12_planFrom_188 : decode cX12_planFrom 188 = .ok (.getfield 49, 3) := by decide +kernel
theorem dX12_planFrom_191 : decode cX12_planFrom 191 = .ok (.iload 10, 2) := by decide +kernel
theorem dX12_planFrom_193 : decode cX12_planFrom 193 = .ok (.iaload, 1) := by decide +kernel
theorem dX12_planFrom_194 : decode cX12_planFrom 194 = .ok (.if_icmp .le 7, 3) := by decide +kernel
theorem dX12_planFrom_197 : decode cX12_planFrom 197 = .ok (.iconst 1, 1) := by decide +kernel
theorem dX12_planFrom_198 : decode cX12_planFrom 198 = .ok (.goto 4, 3) := by decide +kernel
theorem dX12_planFrom_201 : decode cX12_planFrom 201 = .ok (.iconst 0, 1) := by decide +kernel
theorem dX12_planFrom_202 : decode cX12_planFrom 202 = .ok (.iadd, 1) := by decide +kernel
theorem dX12_planFrom_203 : decode cX12_planFrom 203 = .ok (.iload 7, 2) := by decide +kernel
theorem dX12_planFrom_205 : decode cX12_planFrom 205 = .ok (.iconst 0, 1) := by decide +kernel
theorem dX12_planFrom_206 : decode cX12_planFrom 206 = .ok (.iload 11, 2) := by decide +kernel
theorem dX12_planFrom_208 : decode cX12_planFrom 208 = .ok (.aload_n 0, 1) := by decide +kernel
theorem dX12_planFrom_209 : decode cX12_planFrom 209 = .ok (.getfield 49, 3) := by decide +kernel
theorem dX12_planFrom_212 : decode cX12_planFrom 212 = .ok (.iload 10, 2) := by decide +kernel
theorem dX12_planFrom_214 : decode cX12_planFrom 214 = .ok (.iaload, 1) := by decide +kernel
theorem dX12_planFrom_215 : decode cX12_planFrom 215 = .ok (.isub, 1) := by decide +kernel
theorem dX12_planFrom_216 : decode cX12_planFrom 216 = .ok (.invokestatic 281, 3) := by decide +kernel
theorem dX12_planFrom_219 : decode cX12_planFrom 219 = .ok (.iadd, 1) := by decide +kernel
theorem dX12_planFrom_220 : decode cX12_planFrom 220 = .ok (.invokevirtual 362, 3) := by decide +kernel
theorem dX12_planFrom_223 : decode cX12_planFrom 223 = .ok (.iinc 9 1, 3) := by decide +kernel
theorem dX12_planFrom_226 : decode cX12_planFrom 226 = .ok (.goto (-157), 3) := by decide +kernel
theorem dX12_planFrom_229 : decode cX12_planFrom 229 = .ok (.return_, 1) := by decide +kernel
theorem dX12_beginHand_0 : decode cX12_beginHand 0 = .ok (.aload_n 0, 1) := by decide +kernel
theorem dX12_beginHand_1 : decode cX12_beginHand 1 = .ok (.getfield 126, 3) := by decide +kernel
theorem dX12_beginHand_4 : decode cX12_beginHand 4 = .ok (.iload_n 1, 1) := by decide +kernel
theorem dX12_beginHand_5 : decode cX12_beginHand 5 = .ok (.iaload, 1) := by decide +kernel
theorem dX12_beginHand_6 : decode cX12_beginHand 6 = .ok (.istore 6, 2) := by decide +kernel
theorem dX12_beginHand_8 : decode cX12_beginHand 8 = .ok (.aload_n 0, 1) := by decide +kernel
theorem dX12_beginHand_9 : decode cX12_beginHand 9 = .ok (.iload 6, 2) := by decide +kernel
theorem dX12_beginHand_11 : decode cX12_beginHand 11 = .ok (.iconst 0, 1) := by decide +kernel
theorem dX12_beginHand_12 : decode cX12_beginHand 12 = .ok (.invokevirtual 272, 3) := by decide +kernel
theorem dX12_beginHand_15 : decode cX12_beginHand 15 = .ok (.istore 7, 2) := by decide +kernel
theorem dX12_beginHand_17 : decode cX12_beginHand 17 = .ok (.iload 7, 2) := by decide +kernel
theorem dX12_beginHand_19 : decode cX12_beginHand 19 = .ok (.iconst (-1), 1) := by decide +kernel
theorem dX12_beginHand_20 : decode cX12_beginHand 20 = .ok (.if_icmp .ne 10, 3) := by decide +kernel
theorem dX12_beginHand_23 : decode cX12_beginHand 23 = .ok (.aload_n 0, 1) := by decide +kernel
theorem dX12_beginHand_24 : decode cX12_beginHand 24 = .ok (.invokevirtual 164, 3) := by decide +kernel
theorem dX12_beginHand_27 : decode cX12_beginHand 27 = .ok (.goto 30, 3) := by decide +kernel
theorem dX12_beginHand_30 : decode cX12_beginHand 30 = .ok (.aload_n 0, 1) := by decide +kernel
theorem dX12_beginHand_31 : decode cX12_beginHand 31 = .ok (.iload 6, 2) := by decide +kernel
theorem dX12_beginHand_33 : decode cX12_beginHand 33 = .ok (.aload_n 0, 1) := by decide +kernel
theorem dX12_beginHand_34 : decode cX12_beginHand 34 = .ok (.invokevirtual 164, 3) := by decide +kernel
theorem dX12_beginHand_37 : decode cX12_beginHand 37 = .ok (.aload_n 0, 1) := by decide +kernel
theorem dX12_beginHand_38 : decode cX12_beginHand 38 = .ok (.iload 7, 2) := by decide +kernel
theorem dX12_beginHand_40 : decode cX12_beginHand 40 = .ok (.iconst 3, 1) := by decide +kernel
theorem dX12_beginHand_41 : decode cX12_beginHand 41 = .ok (.invokevirtual 261, 3) := by decide +kernel
theorem dX12_beginHand_44 : decode cX12_beginHand 44 = .ok (.aload_n 0, 1) := by decide +kernel
theorem dX12_beginHand_45 : decode cX12_beginHand 45 = .ok (.iload 6, 2) := by decide +kernel
theorem dX12_beginHand_47 : decode cX12_beginHand 47 = .ok (.iconst 1, 1) := by decide +kernel
theorem dX12_beginHand_48 : decode cX12_beginHand 48 = .ok (.invokevirtual 272, 3) := by decide +kernel
theorem dX12_beginHand_51 : decode cX12_beginHand 51 = .ok (.invokestatic 355, 3) := by decide +kernel
theorem dX12_beginHand_54 : decode cX12_beginHand 54 = .ok (.invokevirtual 358, 3) := by decide +kernel
theorem dX12_beginHand_57 : decode cX12_beginHand 57 = .ok (.istore 8, 2) := by decide +kernel
theorem dX12_beginHand_59 : decode cX12_beginHand 59 = .ok (.aload_n 0, 1) := by decide +kernel
theorem dX12_beginHand_60 : decode cX12_beginHand 60 = .ok (.iload_n 1, 1) := by decide +kernel
theorem dX12_beginHand_61 : decode cX12_beginHand 61 = .ok (.iload_n 2, 1) := by decide +kernel
theorem dX12_beginHand_62 : decode cX12_beginHand 62 = .ok (.iload_n 3, 1) := by decide +kernel
theorem dX12_beginHand_63 : decode cX12_beginHand 63 = .ok (.iload 8, 2) := by decide +kernel
theorem dX12_beginHand_65 : decode cX12_beginHand 65 = .ok (.aload_n 0, 1) := by decide +kernel
theorem dX12_beginHand_66 : decode cX12_beginHand 66 = .ok (.iload 6, 2) := by decide +kernel
theorem dX12_beginHand_68 : decode cX12_beginHand 68 = .ok (.iconst 2, 1) := by decide +kernel
theorem dX12_beginHand_69 : decode cX12_beginHand 69 = .ok (.invokevirtual 272, 3) := by decide +kernel
theorem dX12_beginHand_72 : decode cX12_beginHand 72 = .ok (.iload 7, 2) := by decide +kernel
theorem dX12_beginHand_74 : decode cX12_beginHand 74 = .ok (.iconst (-1), 1) := by decide +kernel
theorem dX12_beginHand_75 : decode cX12_beginHand 75 = .ok (.if_icmp .ne 7, 3) := by decide +kernel
theorem dX12_beginHand_78 : decode cX12_beginHand 78 = .ok (.iconst 0, 1) := by decide +kernel
theorem dX12_beginHand_79 : decode cX12_beginHand 79 = .ok (.goto 10, 3) := by decide +kernel
theorem dX12_beginHand_82 : decode cX12_beginHand 82 = .ok (.aload_n 0, 1) := by decide +kernel
theorem dX12_beginHand_83 : decode cX12_beginHand 83 = .ok (.getfield 52, 3) := by decide +kernel
theorem dX12_beginHand_86 : decode cX12_beginHand 86 = .ok (.iload 7, 2) := by decide +kernel
theorem dX12_beginHand_88 : decode cX12_beginHand 88 = .ok (.iaload, 1) := by decide +kernel
theorem dX12_beginHand_89 : decode cX12_beginHand 89 = .ok (.ior, 1) := by decide +kernel
theorem dX12_beginHand_90 : decode cX12_beginHand 90 = .ok (.iload 4, 2) := by decide +kernel
theorem dX12_beginHand_92 : decode cX12_beginHand 92 = .ok (.iload 5, 2) := by decide +kernel
theorem dX12_beginHand_94 : decode cX12_beginHand 94 = .ok (.invokevirtual 362, 3) := by decide +kernel
theorem dX12_beginHand_97 : decode cX12_beginHand 97 = .ok (.return_, 1) := by decide +kernel
theorem dX12_keep_0 : decode cX12_keep 0 = .ok (.aload_n 0, 1) := by decide +kernel
theorem dX12_keep_1 : decode cX12_keep 1 = .ok (.getfield 366, 3) := by decide +kernel
theorem dX12_keep_4 : decode cX12_keep 4 = .ok (.ifCond .eq 28, 3) := by decide +kernel
theorem dX12_keep_7 : decode cX12_keep 7 = .ok (.iload_n 2, 1) := by decide +kernel
theorem dX12_keep_8 : decode cX12_keep 8 = .ok (.aload_n 0, 1) := by decide +kernel
theorem dX12_keep_9 : decode cX12_keep 9 = .ok (.getfield 370, 3) := by decide +kernel
theorem dX12_keep_12 : decode cX12_keep 12 = .ok (.if_icmp .gt 19, 3) := by decide +kernel
theorem dX12_keep_15 : decode cX12_keep 15 = .ok (.iload_n 2, 1) := by decide +kernel
theorem dX12_keep_16 : decode cX12_keep 16 = .ok (.aload_n 0, 1) := by decide +kernel
theorem dX12_keep_17 : decode cX12_keep 17 = .ok (.getfield 370, 3) := by decide +kernel
theorem dX12_keep_20 : decode cX12_keep 20 = .ok (.if_icmp .ne 12, 3) := by decide +kernel
theorem dX12_keep_23 : decode cX12_keep 23 = .ok (.iload_n 3, 1) := by decide +kernel
theorem dX12_keep_24 : decode cX12_keep 24 = .ok (.aload_n 0, 1) := by decide +kernel
theorem dX12_keep_25 : decode cX12_keep 25 = .ok (.getfield 373, 3) := by decide +kernel
theorem dX12_keep_28 : decode cX12_keep 28 = .ok (.if_icmp .lt 4, 3) := by decide +kernel
theorem dX12_keep_31 : decode cX12_keep 31 = .ok (.return_, 1) := by decide +kernel
theorem dX12_keep_32 : decode cX12_keep 32 = .ok (.aload_n 0, 1) := by decide +kernel
theorem dX12_keep_33 : decode cX12_keep 33 = .ok (.iconst 1, 1) := by decide +kernel
theorem dX12_keep_34 : decode cX12_keep 34 = .ok (.putfield 366, 3) := by decide +kernel
theorem dX12_keep_37 : decode cX12_keep 37 = .ok (.aload_n 0, 1) := by decide +kernel
theorem dX12_keep_38 : decode cX12_keep 38 = .ok (.iload_n 2, 1) := by decide +kernel
theorem dX12_keep_39 : decode cX12_keep 39 = .ok (.putfield 370, 3) := by decide +kernel
theorem dX12_keep_42 : decode cX12_keep 42 = .ok (.aload_n 0, 1) := by decide +kernel
theorem dX12_keep_43 : decode cX12_keep 43 = .ok (.iload_n 3, 1) := by decide +kernel
theorem dX12_keep_44 : decode cX12_keep 44 = .ok (.putfield 373, 3) := by decide +kernel
theorem dX12_keep_47 : decode cX12_keep 47 = .ok (.iconst 0, 1) := by decide +kernel
theorem dX12_keep_48 : decode cX12_keep 48 = .ok (.istore 4, 2) := by decide +kernel
theorem dX12_keep_50 : decode cX12_keep 50 = .ok (.iload 4, 2) := by decide +kernel
theorem dX12_keep_52 : decode cX12_keep 52 = .ok (.iload_n 1, 1) := by decide +kernel
theorem dX12_keep_53 : decode cX12_keep 53 = .ok (.if_icmp .ge 23, 3) := by decide +kernel
theorem dX12_keep_56 : decode cX12_keep 56 = .ok (.aload_n 0, 1) := by decide +kernel
theorem dX12_keep_57 : decode cX12_keep 57 = .ok (.getfield 132, 3) := by decide +kernel
theorem dX12_keep_60 : decode cX12_keep 60 = .ok (.iload 4, 2) := by decide +kernel
theorem dX12_keep_62 : decode cX12_keep 62 = .ok (.aload_n 0, 1) := by decide +kernel
theorem dX12_keep_63 : decode cX12_keep 63 = .ok (.getfield 129, 3) := by decide +kernel
theorem dX12_keep_66 : decode cX12_keep 66 = .ok (.iload 4, 2) := by decide +kernel
theorem dX12_keep_68 : decode cX12_keep 68 = .ok (.iaload, 1) := by decide +kernel
theorem dX12_keep_69 : decode cX12_keep 69 = .ok (.iastore, 1) := by decide +kernel
theorem dX12_keep_70 : decode cX12_keep 70 = .ok (.iinc 4 1, 3) := by decide +kernel
theorem dX12_keep_73 : decode cX12_keep 73 = .ok (.goto (-23), 3) := by decide +kernel
theorem dX12_keep_76 : decode cX12_keep 76 = .ok (.return_, 1) := by decide +kernel
theorem dX12_findPlan_0 : decode cX12_findPlan 0 = .ok (.iload_n 1, 1) := by decide +kernel
theorem dX12_findPlan_1 : decode cX12_findPlan 1 = .ok (.iconst 1, 1) := by decide +kernel
theorem dX12_findPlan_2 : decode cX12_findPlan 2 = .ok (.iconst 1, 1) := by decide +kernel
theorem dX12_findPlan_3 : decode cX12_findPlan 3 = .ok (.aload_n 0, 1) := by decide +kernel
theorem dX12_findPlan_4 : decode cX12_findPlan 4 = .ok (.getfield 149, 3) := by decide +kernel
theorem dX12_findPlan_7 : decode cX12_findPlan 7 = .ok (.ishl, 1) := by decide +kernel
theorem dX12_findPlan_8 : decode cX12_findPlan 8 = .ok (.iconst 1, 1) := by decide +kernel
theorem dX12_findPlan_9 : decode cX12_findPlan 9 = .ok (.isub, 1) := by decide +kernel
theorem dX12_findPlan_10 : decode cX12_findPlan 10 = .ok (.invokestatic 145, 3) := by decide +kernel
theorem dX12_findPlan_13 : decode cX12_findPlan 13 = .ok (.ifCond .eq 35, 3) := by decide +kernel
theorem dX12_findPlan_16 : decode cX12_findPlan 16 = .ok (.iload_n 2, 1) := by decide +kernel
theorem dX12_findPlan_17 : decode cX12_findPlan 17 = .ok (.iconst 1, 1) := by decide +kernel
theorem dX12_findPlan_18 : decode cX12_findPlan 18 = .ok (.iconst 1, 1) := by decide +kernel
theorem dX12_findPlan_19 : decode cX12_findPlan 19 = .ok (.aload_n 0, 1) := by decide +kernel
theorem dX12_findPlan_20 : decode cX12_findPlan 20 = .ok (.getfield 142, 3) := by decide +kernel
theorem dX12_findPlan_23 : decode cX12_findPlan 23 = .ok (.ishl, 1) := by decide +kernel
theorem dX12_findPlan_24 : decode cX12_findPlan 24 = .ok (.iconst 1, 1) := by decide +kernel
theorem dX12_findPlan_25 : decode cX12_findPlan 25 = .ok (.isub, 1) := by decide +kernel
theorem dX12_findPlan_26 : decode cX12_findPlan 26 = .ok (.invokestatic 145, 3) := by decide +kernel
theorem dX12_findPlan_29 : decode cX12_findPlan 29 = .ok (.ifCond .eq 19, 3) := by decide +kernel
theorem dX12_findPlan_32 : decode cX12_findPlan 32 = .ok (.iload_n 1, 1) := by decide +kernel
theorem dX12_findPlan_33 : decode cX12_findPlan 33 = .ok (.invokestatic 275, 3) := by decide +kernel
theorem dX12_findPlan_36 : decode cX12_findPlan 36 = .ok (.iconst 5, 1) := by decide +kernel
theorem dX12_findPlan_37 : decode cX12_findPlan 37 = .ok (.if_icmp .gt 11, 3) := by decide +kernel
theorem dX12_findPlan_40 : decode cX12_findPlan 40 = .ok (.iload_n 2, 1) := by decide +kernel
theorem dX12_findPlan_41 : decode cX12_findPlan 41 = .ok (.invokestatic 275, 3) := by decide +kernel
theorem dX12_findPlan_44 : decode cX12_findPlan 44 = .ok (.iconst 3, 1) := by decide +kernel
theorem dX12_findPlan_45 : decode cX12_findPlan 45 = .ok (.if_icmp .le 5, 3) := by decide +kernel
theorem dX12_findPlan_48 : decode cX12_findPlan 48 = .ok (.iconst (-1), 1) := by decide +kernel
theorem dX12_findPlan_49 : decode cX12_findPlan 49 = .ok (.ireturn, 1) := by decide +kernel
theorem dX12_findPlan_50 : decode cX12_findPlan 50 = .ok (.aload_n 0, 1) := by decide +kernel
theorem dX12_findPlan_51 : decode cX12_findPlan 51 = .ok (.iconst 0, 1) := by decide +kernel
theorem dX12_findPlan_52 : decode cX12_findPlan 52 = .ok (.putfield 349, 3) := by decide +kernel
theorem dX12_findPlan_55 : decode cX12_findPlan 55 = .ok (.aload_n 0, 1) := by decide +kernel
theorem dX12_findPlan_56 : decode cX12_findPlan 56 = .ok (.iconst 0, 1) := by decide +kernel
theorem dX12_findPlan_57 : decode cX12_findPlan 57 = .ok (.putfield 342, 3) := by decide +kernel
theorem dX12_findPlan_60 : decode cX12_findPlan 60 = .ok (.iconst 0, 1) := by decide +kernel
theorem dX12_findPlan_61 : decode cX12_findPlan 61 = .ok (.istore_n 3, 1) := by decide +kernel
theorem dX12_findPlan_62 : decode cX12_findPlan 62 = .ok (.iload_n 3, 1) := by decide +kernel
theorem dX12_findPlan_63 : decode cX12_findPlan 63 = .ok (.aload_n 0, 1) := by decide +kernel
theorem dX12_findPlan_64 : decode cX12_findPlan 64 = .ok (.getfield 149, 3) := by decide +kernel
theorem dX12_findPlan_67 : decode cX12_findPlan 67 = .ok (.if_icmp .ge 47, 3) := by decide +kernel
theorem dX12_findPlan_70 : decode cX12_findPlan 70 = .ok (.iload_n 1, 1) := by decide +kernel
theorem dX12_findPlan_71 : decode cX12_findPlan 71 = .ok (.iload_n 3, 1) := by decide +kernel
theorem dX12_findPlan_72 : decode cX12_findPlan 72 = .ok (.ishr, 1) := by decide +kernel
theorem dX12_findPlan_73 : decode cX12_findPlan 73 = .ok (.iconst 1, 1) := by decide +kernel
theorem dX12_findPlan_74 : decode cX12_findPlan 74 = .ok (.iand, 1) := by decide +kernel
theorem dX12_findPlan_75 : decode cX12_findPlan 75 = .ok (.ifCond .ne 6, 3) := by decide +kernel
theorem dX12_findPlan_78 : decode cX12_findPlan 78 = .ok (.goto 30, 3) := by decide +kernel
theorem dX12_findPlan_81 : decode cX12_findPlan 81 = .ok (.aload_n 0, 1) := by decide +kernel
theorem dX12_findPlan_82 : decode cX12_findPlan 82 = .ok (.iload_n 3, 1) := by decide +kernel
theorem dX12_findPlan_83 : decode cX12_findPlan 83 = .ok (.invokevirtual 269, 3) := by decide +kernel
theorem dX12_findPlan_86 : decode cX12_findPlan 86 = .ok (.ifCond .ne 5, 3) := by decide +kernel
theorem dX12_findPlan_89 : decode cX12_findPlan 89 = .ok (.iconst (-1), 1) := by decide +kernel
theorem dX12_findPlan_90 : decode cX12_findPlan 90 = .ok (.ireturn, 1) := by decide +kernel
theorem dX12_findPlan_91 : decode cX12_findPlan 91 = .ok (.aload_n 0, 1) := by decide +kernel
theorem dX12_findPlan_92 : decode cX12_findPlan 92 = .ok (.getfield 123, 3) := by decide +kernel
theorem dX12_findPlan_95 : decode cX12_findPlan 95 = .ok (.aload_n 0, 1) := by decide +kernel
theorem dX12_findPlan_96 : decode cX12_findPlan 96 = .ok (.dup, 1) := by decide +kernel
theorem dX12_findPlan_97 : decode cX12_findPlan 97 = .ok (.getfield 349, 3) := by decide +kernel
theorem dX12_findPlan_100 : decode cX12_findPlan 100 = .ok (.dup_x1, 1) := by decide +kernel
theorem dX12_findPlan_101 : decode cX12_findPlan 101 = .ok (.iconst 1, 1) := by decide +kernel
theorem dX12_findPlan_102 : decode cX12_findPlan 102 = .ok (.iadd, 1) := by decide +kernel
theorem dX12_findPlan_103 : decode cX12_findPlan 103 = .ok (.putfield 349, 3) := by decide +kernel
theorem dX12_findPlan_106 : decode cX12_findPlan 106 = .ok (.iload_n 3, 1) := by decide +kernel
theorem dX12_findPlan_107 : decode cX12_findPlan 107 = .ok (.iastore, 1) := by decide +kernel
theorem dX12_findPlan_108 : decode cX12_findPlan 108 = .ok (.iinc 3 1, 3) := by decide +kernel
theorem dX12_findPlan_111 : decode cX12_findPlan 111 = .ok (.goto (-49), 3) := by decide +kernel
theorem dX12_findPlan_114 : decode cX12_findPlan 114 = .ok (.iconst 0, 1) := by decide +kernel
theorem dX12_findPlan_115 : decode cX12_findPlan 115 = .ok (.istore_n 3, 1) := by decide +kernel
theorem dX12_findPlan_116 : decode cX12_findPlan 116 = .ok (.iload_n 3, 1) := by decide +kernel
theorem dX12_findPlan_117 : decode cX12_findPlan 117 = .ok (.aload_n 0, 1) := by decide +kernel
theorem dX12_findPlan_118 : decode cX12_findPlan 118 = .ok (.getfield 142, 3) := by decide +kernel
theorem dX12_findPlan_121 : decode cX12_findPlan 121 = .ok (.if_icmp .ge 107, 3) := by decide +kernel
theorem dX12_findPlan_124 : decode cX12_findPlan 124 = .ok (.iload_n 2, 1) := by decide +kernel
theorem dX12_findPlan_125 : decode cX12_findPlan 125 = .ok (.iload_n 3, 1) := by decide +kernel
theorem dX12_findPlan_126 : decode cX12_findPlan 126 = .ok (.ishr, 1) := by decide +kernel
theorem dX12_findPlan_127 : decode cX12_findPlan 127 = .ok (.iconst 1, 1) := by decide +kernel
theorem dX12_findPlan_128 : decode cX12_findPlan 128 = .ok (.iand, 1) := by decide +kernel
theorem dX12_findPlan_129 : decode cX12_findPlan 129 = .ok (.ifCond .ne 6, 3) := by decide +kernel
theorem dX12_findPlan_132 : decode cX12_findPlan 132 = .ok (.goto 90, 3) := by decide +kernel
theorem dX12_findPlan_135 : decode cX12_findPlan 135 = .ok (.aload_n 0, 1) := by decide +kernel
theorem dX12_findPlan_136 : decode cX12_findPlan 136 = .ok (.getfield 126, 3) := by decide +kernel
theorem dX12_findPlan_139 : decode cX12_findPlan 139 = .ok (.aload_n 0, 1) := by decide +kernel
theorem dX12_findPlan_140 : decode cX12_findPlan 140 = .ok (.dup, 1) := by decide +kernel
theorem dX12_findPlan_141 : decode cX12_findPlan 141 = .ok (.getfield 342, 3) := by decide +kernel
theorem dX12_findPlan_144 : decode cX12_findPlan 144 = .ok (.dup_x1, 1) := by decide +kernel
theorem dX12_findPlan_145 : decode cX12_findPlan 145 = .ok (.iconst 1, 1) := by decide +kernel
theorem dX12_findPlan_146 : decode cX12_findPlan 146 = .ok (.iadd, 1) := by decide +kernel
theorem dX12_findPlan_147 : decode cX12_findPlan 147 = .ok (.putfield 342, 3) := by decide +kernel
theorem dX12_findPlan_150 : decode cX12_findPlan 150 = .ok (.iload_n 3, 1) := by decide +kernel
theorem dX12_findPlan_151 : decode cX12_findPlan 151 = .ok (.iastore, 1) := by decide +kernel
theorem dX12_findPlan_152 : decode cX12_findPlan 152 = .ok (.iload_n 3, 1) := by decide +kernel
theorem dX12_findPlan_153 : decode cX12_findPlan 153 = .ok (.sipush 4801, 3) := by decide +kernel
theorem dX12_findPlan_156 : decode cX12_findPlan 156 = .ok (.imul, 1) := by decide +kernel
theorem dX12_findPlan_157 : decode cX12_findPlan 157 = .ok (.istore 4, 2) := by decide +kernel
theorem dX12_findPlan_159 : decode cX12_findPlan 159 = .ok (.aload_n 0, 1) := by decide +kernel
theorem dX12_findPlan_160 : decode cX12_findPlan 160 = .ok (.getfield 120, 3) := by decide +kernel
theorem dX12_findPlan_163 : decode cX12_findPlan 163 = .ok (.iload 4, 2) := by decide +kernel
theorem dX12_findPlan_165 : decode cX12_findPlan 165 = .ok (.iconst 0, 1) := by decide +kernel
theorem dX12_findPlan_166 : decode cX12_findPlan 166 = .ok (.iastore, 1) := by decide +kernel
theorem dX12_findPlan_167 : decode cX12_findPlan 167 = .ok (.iconst 0, 1) := by decide +kernel
theorem dX12_findPlan_168 : decode cX12_findPlan 168 = .ok (.istore 5, 2) := by decide +kernel
theorem dX12_findPlan_170 : decode cX12_findPlan 170 = .ok (.iload 5, 2) := by decide +kernel
theorem dX12_findPlan_172 : decode cX12_findPlan 172 = .ok (.sipush 4800, 3) := by decide +kernel
theorem dX12_findPlan_175 : decode cX12_findPlan 175 = .ok (.if_icmp .ge 47, 3) := by decide +kernel
theorem dX12_findPlan_178 : decode cX12_findPlan 178 = .ok (.aload_n 0, 1) := by decide +kernel
theorem dX12_findPlan_179 : decode cX12_findPlan 179 = .ok (.getfield 120, 3) := by decide +kernel
theorem dX12_findPlan_182 : decode cX12_findPlan 182 = .ok (.iload 4, 2) := by decide +kernel
theorem dX12_findPlan_184 : decode cX12_findPlan 184 = .ok (.iload 5, 2) := by decide +kernel
theorem dX12_findPlan_186 : decode cX12_findPlan 186 = .ok (.iadd, 1) := by decide +kernel
theorem dX12_findPlan_187 : decode cX12_findPlan 187 = .ok (.iconst 1, 1) := by decide +kernel
theorem dX12_findPlan_188 : decode cX12_findPlan 188 = .ok (.iadd, 1) := by decide +kernel
theorem dX12_findPlan_189 : decode cX12_findPlan 189 = .ok (.aload_n 0, 1) := by decide +kernel
theorem dX12_findPlan_190 : decode cX12_findPlan 190 = .ok (.getfield 120, 3) := by decide +kernel
theorem dX12_findPlan_193 : decode cX12_findPlan 193 = .ok (.iload 4, 2) := by decide +kernel
theorem dX12_findPlan_195 : decode cX12_findPlan 195 = .ok (.iload 5, 2) := by decide +kernel
theorem dX12_findPlan_197 : decode cX12_findPlan 197 = .ok (.iadd, 1) := by decide +kernel
theorem dX12_findPlan_198 : decode cX12_findPlan 198 = .ok (.iaload, 1) := by decide +kernel
theorem dX12_findPlan_199 : decode cX12_findPlan 199 = .ok (.aload_n 0, 1) := by decide +kernel
theorem dX12_findPlan_200 : decode cX12_findPlan 200 = .ok (.iload_n 3, 1) := by decide +kernel
theorem dX12_findPlan_201 : decode cX12_findPlan 201 = .ok (.iload 5, 2) := by decide +kernel
theorem dX12_findPlan_203 : decode cX12_findPlan 203 = .ok (.invokevirtual 293, 3) := by decide +kernel
theorem dX12_findPlan_206 : decode cX12_findPlan 206 = .ok (.ifCond .eq 7, 3) := by decide +kernel
theorem dX12_findPlan_209 : decode cX12_findPlan 209 = .ok (.iconst 0, 1) := by decide +kernel
theorem dX12_findPlan_210 : decode cX12_findPlan 210 = .ok (.goto 4, 3) := by decide +kernel
theorem dX12_findPlan_213 : decode cX12_findPlan 213 = .ok (.iconst 1, 1) := by decide +kernel
theorem dX12_findPlan_214 : decode cX12_findPlan 214 = .ok (.iadd, 1) := by decide +kernel
theorem dX12_findPlan_215 : decode cX12_findPlan 215 = .ok (.iastore, 1) := by decide +kernel
theorem dX12_findPlan_216 : decode cX12_findPlan 216 = .ok (.iinc 5 1, 3) := by decide +kernel
theorem dX12_findPlan_219 : decode cX12_findPlan 219 = .ok (.goto (-49), 3) := by decide +kernel
theorem dX12_findPlan_222 : decode cX12_findPlan 222 = .ok (.iinc 3 1, 3) := by decide +kernel
theorem dX12_findPlan_225 : decode cX12_findPlan 225 = .ok (.goto (-109), 3) := by decide +kernel
theorem dX12_findPlan_228 : decode cX12_findPlan 228 = .ok (.aload_n 0, 1) := by decide +kernel
theorem dX12_findPlan_229 : decode cX12_findPlan 229 = .ok (.iconst 0, 1) := by decide +kernel
theorem dX12_findPlan_230 : decode cX12_findPlan 230 = .ok (.putfield 366, 3) := by decide +kernel
theorem dX12_findPlan_233 : decode cX12_findPlan 233 = .ok (.aload_n 0, 1) := by decide +kernel
theorem dX12_findPlan_234 : decode cX12_findPlan 234 = .ok (.iconst 0, 1) := by decide +kernel
theorem dX12_findPlan_235 : decode cX12_findPlan 235 = .ok (.iconst 0, 1) := by decide +kernel
theorem dX12_findPlan_236 : decode cX12_findPlan 236 = .ok (.iconst 0, 1) := by decide +kernel
theorem dX12_findPlan_237 : decode cX12_findPlan 237 = .ok (.iconst 0, 1) := by decide +kernel
theorem dX12_findPlan_238 : decode cX12_findPlan 238 = .ok (.iconst 0, 1) := by decide +kernel
theorem dX12_findPlan_239 : decode cX12_findPlan 239 = .ok (.invokevirtual 345, 3) := by decide +kernel
theorem dX12_findPlan_242 : decode cX12_findPlan 242 = .ok (.aload_n 0, 1) := by decide +kernel
theorem dX12_findPlan_243 : decode cX12_findPlan 243 = .ok (.getfield 366, 3) := by decide +kernel
theorem dX12_findPlan_246 : decode cX12_findPlan 246 = .ok (.ifCond .eq 7, 3) := by decide +kernel
theorem dX12_findPlan_249 : decode cX12_findPlan 249 = .ok (.iconst 0, 1) := by decide +kernel
theorem dX12_findPlan_250 : decode cX12_findPlan 250 = .ok (.goto 5, 3) := by decide +kernel
theorem dX12_findPlan_253 : decode cX12_findPlan 253 = .ok (.bipush (-2), 2) := by decide +kernel
theorem dX12_findPlan_255 : decode cX12_findPlan 255 = .ok (.ireturn, 1) := by decide +kernel
theorem dX12_plan_0 : decode cX12_plan 0 = .ok (.aload_n 0, 1) := by decide +kernel
theorem dX12_plan_1 : decode cX12_plan 1 = .ok (.iconst 0, 1) := by decide +kernel
theorem dX12_plan_2 : decode cX12_plan 2 = .ok (.putfield 139, 3) := by decide +kernel
theorem dX12_plan_5 : decode cX12_plan 5 = .ok (.aload_n 0, 1) := by decide +kernel
theorem dX12_plan_6 : decode cX12_plan 6 = .ok (.iload_n 1, 1) := by decide +kernel
theorem dX12_plan_7 : decode cX12_plan 7 = .ok (.iload_n 2, 1) := by decide +kernel
theorem dX12_plan_8 : decode cX12_plan 8 = .ok (.invokevirtual 376, 3) := by decide +kernel
theorem dX12_plan_11 : decode cX12_plan 11 = .ok (.istore_n 3, 1) := by decide +kernel
theorem dX12_plan_12 : decode cX12_plan 12 = .ok (.iload_n 3, 1) := by decide +kernel
theorem dX12_plan_13 : decode cX12_plan 13 = .ok (.ifCond .ge 5, 3) := by decide +kernel
theorem dX12_plan_16 : decode cX12_plan 16 = .ok (.iload_n 3, 1) := by decide +kernel
theorem dX12_plan_17 : decode cX12_plan 17 = .ok (.ireturn, 1) := by decide +kernel
theorem dX12_plan_18 : decode cX12_plan 18 = .ok (.aload_n 0, 1) := by decide +kernel
theorem dX12_plan_19 : decode cX12_plan 19 = .ok (.aload_n 0, 1) := by decide +kernel
theorem dX12_plan_20 : decode cX12_plan 20 = .ok (.getfield 349, 3) := by decide +kernel
theorem dX12_plan_23 : decode cX12_plan 23 = .ok (.aload_n 0, 1) := by decide +kernel
theorem dX12_plan_24 : decode cX12_plan 24 = .ok (.getfield 342, 3) := by decide +kernel
theorem dX12_plan_27 : decode cX12_plan 27 = .ok (.iadd, 1) := by decide +kernel
theorem dX12_plan_28 : decode cX12_plan 28 = .ok (.putfield 327, 3) := by decide +kernel
theorem dX12_plan_31 : decode cX12_plan 31 = .ok (.iconst 0, 1) := by decide +kernel
theorem dX12_plan_32 : decode cX12_plan 32 = .ok (.istore 4, 2) := by decide +kernel
theorem dX12_plan_34 : decode cX12_plan 34 = .ok (.iload 4, 2) := by decide +kernel
theorem dX12_plan_36 : decode cX12_plan 36 = .ok (.aload_n 0, 1) := by decide +kernel
theorem dX12_plan_37 : decode cX12_plan 37 = .ok (.getfield 327, 3) := by decide +kernel
theorem dX12_plan_40 : decode cX12_plan 40 = .ok (.if_icmp .ge 23, 3) := by decide +kernel
theorem dX12_plan_43 : decode cX12_plan 43 = .ok (.aload_n 0, 1) := by decide +kernel
theorem dX12_plan_44 : decode cX12_plan 44 = .ok (.getfield 104, 3) := by decide +kernel
theorem dX12_plan_47 : decode cX12_plan 47 = .ok (.iload 4, 2) := by decide +kernel
theorem dX12_plan_49 : decode cX12_plan 49 = .ok (.aload_n 0, 1) := by decide +kernel
theorem dX12_plan_50 : decode cX12_plan 50 = .ok (.getfield 132, 3) := by decide +kernel
theorem dX12_plan_53 : decode cX12_plan 53 = .ok (.iload 4, 2) := by decide +kernel
theorem dX12_plan_55 : decode cX12_plan 55 = .ok (.iaload, 1) := by decide +kernel
theorem dX12_plan_56 : decode cX12_plan 56 = .ok (.iastore, 1) := by decide +kernel
theorem dX12_plan_57 : decode cX12_plan 57 = .ok (.iinc 4 1, 3) := by decide +kernel
theorem dX12_plan_60 : decode cX12_plan 60 = .ok (.goto (-26), 3) := by decide +kernel
theorem dX12_plan_63 : decode cX12_plan 63 = .ok (.aload_n 0, 1) := by decide +kernel
theorem dX12_plan_64 : decode cX12_plan 64 = .ok (.getfield 370, 3) := by decide +kernel
theorem dX12_plan_67 : decode cX12_plan 67 = .ok (.ireturn, 1) := by decide +kernel
theorem dX12_lateness_0 : decode cX12_lateness 0 = .ok (.aload_n 0, 1) := by decide +kernel
theorem dX12_lateness_1 : decode cX12_lateness 1 = .ok (.iconst 0, 1) := by decide +kernel
theorem dX12_lateness_2 : decode cX12_lateness 2 = .ok (.putfield 139, 3) := by decide +kernel
theorem dX12_lateness_5 : decode cX12_lateness 5 = .ok (.aload_n 0, 1) := by decide +kernel
theorem dX12_lateness_6 : decode cX12_lateness 6 = .ok (.iload_n 1, 1) := by decide +kernel
theorem dX12_lateness_7 : decode cX12_lateness 7 = .ok (.iload_n 2, 1) := by decide +kernel
theorem dX12_lateness_8 : decode cX12_lateness 8 = .ok (.invokevirtual 376, 3) := by decide +kernel
theorem dX12_lateness_11 : decode cX12_lateness 11 = .ok (.istore_n 3, 1) := by decide +kernel
theorem dX12_lateness_12 : decode cX12_lateness 12 = .ok (.iload_n 3, 1) := by decide +kernel
theorem dX12_lateness_13 : decode cX12_lateness 13 = .ok (.ifCond .ge 7, 3) := by decide +kernel
theorem dX12_lateness_16 : decode cX12_lateness 16 = .ok (.iload_n 3, 1) := by decide +kernel
theorem dX12_lateness_17 : decode cX12_lateness 17 = .ok (.goto 7, 3) := by decide +kernel
theorem dX12_lateness_20 : decode cX12_lateness 20 = .ok (.aload_n 0, 1) := by decide +kernel
theorem dX12_lateness_21 : decode cX12_lateness 21 = .ok (.getfield 373, 3) := by decide +kernel
theorem dX12_lateness_24 : decode cX12_lateness 24 = .ok (.ireturn, 1) := by decide +kernel
theorem dX12_putAside_0 : decode cX12_putAside 0 = .ok (.iconst 0, 1) := by decide +kernel
theorem dX12_putAside_1 : decode cX12_putAside 1 = .ok (.istore_n 1, 1) := by decide +kernel
theorem dX12_putAside_2 : decode cX12_putAside 2 = .ok (.iload_n 1, 1) := by decide +kernel
theorem dX12_putAside_3 : decode cX12_putAside 3 = .ok (.sipush 199, 3) := by decide +kernel
theorem dX12_putAside_6 : decode cX12_putAside 6 = .ok (.if_icmp .ge 21, 3) := by decide +kernel
theorem dX12_putAside_9 : decode cX12_putAside 9 = .ok (.aload_n 0, 1) := by decide +kernel
theorem dX12_putAside_10 : decode cX12_putAside 10 = .ok (.getfield 110, 3) := by decide +kernel
theorem dX12_putAside_13 : decode cX12_putAside 13 = .ok (.iload_n 1, 1) := by decide +kernel
theorem dX12_putAside_14 : decode cX12_putAside 14 = .ok (.aload_n 0, 1) := by decide +kernel
theorem dX12_putAside_15 : decode cX12_putAside 15 = .ok (.getfield 107, 3) := by decide +kernel
theorem dX12_putAside_18 : decode cX12_putAside 18 = .ok (.iload_n 1, 1) := by decide +kernel
theorem dX12_putAside_19 : decode cX12_putAside 19 = .ok (.iaload, 1) := by decide +kernel
theorem dX12_putAside_20 : decode cX12_putAside 20 = .ok (.iastore, 1) := by decide +kernel
theorem dX12_putAside_21 : decode cX12_putAside 21 = .ok (.iinc 1 1, 3) := by decide +kernel
theorem dX12_putAside_24 : decode cX12_putAside 24 = .ok (.goto (-22), 3) := by decide +kernel
theorem dX12_putAside_27 : decode cX12_putAside 27 = .ok (.return_, 1) := by decide +kernel
theorem dX12_putBack_0 : decode cX12_putBack 0 = .ok (.iconst 0, 1) := by decide +kernel
theorem dX12_putBack_1 : decode cX12_putBack 1 = .ok (.istore_n 1, 1) := by decide +kernel
theorem dX12_putBack_2 : decode cX12_putBack 2 = .ok (.iload_n 1, 1) := by decide +kernel
theorem dX12_putBack_3 : decode cX12_putBack 3 = .ok (.sipush 199, 3) := by decide +kernel
theorem dX12_putBack_6 : decode cX12_putBack 6 = .ok (.if_icmp .ge 21, 3) := by decide +kernel
theorem dX12_putBack_9 : decode cX12_putBack 9 = .ok (.aload_n 0, 1) := by decide +kernel
theorem dX12_putBack_10 : decode cX12_putBack 10 = .ok (.getfield 107, 3) := by decide +kernel
theorem dX12_putBack_13 : decode cX12_putBack 13 = .ok (.iload_n 1, 1) := by decide +kernel
theorem dX12_putBack_14 : decode cX12_putBack 14 = .ok (.aload_n 0, 1) := by decide +kernel
theorem dX12_putBack_15 : decode cX12_putBack 15 = .ok (.getfield 110, 3) := by decide +kernel
theorem dX12_putBack_18 : decode cX12_putBack 18 = .ok (.iload_n 1, 1) := by decide +kernel
theorem dX12_putBack_19 : decode cX12_putBack 19 = .ok (.iaload, 1) := by decide +kernel
theorem dX12_putBack_20 : decode cX12_putBack 20 = .ok (.iastore, 1) := by decide +kernel
theorem dX12_putBack_21 : decode cX12_putBack 21 = .ok (.iinc 1 1, 3) := by decide +kernel
theorem dX12_putBack_24 : decode cX12_putBack 24 = .ok (.goto (-22), 3) := by decide +kernel
theorem dX12_putBack_27 : decode cX12_putBack 27 = .ok (.return_, 1) := by decide +kernel
theorem dX12_tried_0 : decode cX12_tried 0 = .ok (.aload_n 0, 1) := by decide +kernel
theorem dX12_tried_1 : decode cX12_tried 1 = .ok (.iconst 0, 1) := by decide +kernel
theorem dX12_tried_2 : decode cX12_tried 2 = .ok (.putfield 139, 3) := by decide +kernel
theorem dX12_tried_5 : decode cX12_tried 5 = .ok (.iload_n 1, 1) := by decide +kernel
theorem dX12_tried_6 : decode cX12_tried 6 = .ok (.iconst (-1), 1) := by decide +kernel
theorem dX12_tried_7 : decode cX12_tried 7 = .ok (.if_icmp .eq 27, 3) := by decide +kernel
theorem dX12_tried_10 : decode cX12_tried 10 = .ok (.iload_n 1, 1) := by decide +kernel
theorem dX12_tried_11 : decode cX12_tried 11 = .ok (.iconst 0, 1) := by decide +kernel
theorem dX12_tried_12 : decode cX12_tried 12 = .ok (.aload_n 0, 1) := by decide +kernel
theorem dX12_tried_13 : decode cX12_tried 13 = .ok (.getfield 248, 3) := by decide +kernel
theorem dX12_tried_16 : decode cX12_tried 16 = .ok (.iconst 1, 1) := by decide +kernel
theorem dX12_tried_17 : decode cX12_tried 17 = .ok (.isub, 1) := by decide +kernel
theorem dX12_tried_18 : decode cX12_tried 18 = .ok (.invokestatic 145, 3) := by decide +kernel
theorem dX12_tried_21 : decode cX12_tried 21 = .ok (.ifCond .eq 22, 3) := by decide +kernel
theorem dX12_tried_24 : decode cX12_tried 24 = .ok (.aload_n 0, 1) := by decide +kernel
theorem dX12_tried_25 : decode cX12_tried 25 = .ok (.getfield 65, 3) := by decide +kernel
theorem dX12_tried_28 : decode cX12_tried 28 = .ok (.iload_n 1, 1) := by decide +kernel
theorem dX12_tried_29 : decode cX12_tried 29 = .ok (.iaload, 1) := by decide +kernel
theorem dX12_tried_30 : decode cX12_tried 30 = .ok (.iconst 1, 1) := by decide +kernel
theorem dX12_tried_31 : decode cX12_tried 31 = .ok (.if_icmp .gt 12, 3) := by decide +kernel
theorem dX12_tried_34 : decode cX12_tried 34 = .ok (.aload_n 0, 1) := by decide +kernel
theorem dX12_tried_35 : decode cX12_tried 35 = .ok (.iload_n 2, 1) := by decide +kernel
theorem dX12_tried_36 : decode cX12_tried 36 = .ok (.iconst 0, 1) := by decide +kernel
theorem dX12_tried_37 : decode cX12_tried 37 = .ok (.invokevirtual 305, 3) := by decide +kernel
theorem dX12_tried_40 : decode cX12_tried 40 = .ok (.ifCond .ne 5, 3) := by decide +kernel
theorem dX12_tried_43 : decode cX12_tried 43 = .ok (.iconst (-1), 1) := by decide +kernel
theorem dX12_tried_44 : decode cX12_tried 44 = .ok (.ireturn, 1) := by decide +kernel
theorem dX12_tried_45 : decode cX12_tried 45 = .ok (.aload_n 0, 1) := by decide +kernel
theorem dX12_tried_46 : decode cX12_tried 46 = .ok (.invokevirtual 379, 3) := by decide +kernel
theorem dX12_tried_49 : decode cX12_tried 49 = .ok (.aload_n 0, 1) := by decide +kernel
theorem dX12_tried_50 : decode cX12_tried 50 = .ok (.iload_n 1, 1) := by decide +kernel
theorem dX12_tried_51 : decode cX12_tried 51 = .ok (.putfield 113, 3) := by decide +kernel
theorem dX12_tried_54 : decode cX12_tried 54 = .ok (.aload_n 0, 1) := by decide +kernel
theorem dX12_tried_55 : decode cX12_tried 55 = .ok (.iload_n 2, 1) := by decide +kernel
theorem dX12_tried_56 : decode cX12_tried 56 = .ok (.invokevirtual 308, 3) := by decide +kernel
theorem dX12_tried_59 : decode cX12_tried 59 = .ok (.aload_n 0, 1) := by decide +kernel
theorem dX12_tried_60 : decode cX12_tried 60 = .ok (.iconst (-1), 1) := by decide +kernel
theorem dX12_tried_61 : decode cX12_tried 61 = .ok (.putfield 113, 3) := by decide +kernel
theorem dX12_tried_64 : decode cX12_tried 64 = .ok (.aload_n 0, 1) := by decide +kernel
theorem dX12_tried_65 : decode cX12_tried 65 = .ok (.invokevirtual 324, 3) := by decide +kernel
theorem dX12_tried_68 : decode cX12_tried 68 = .ok (.istore_n 3, 1) := by decide +kernel
theorem dX12_tried_69 : decode cX12_tried 69 = .ok (.iconst 0, 1) := by decide +kernel
theorem dX12_tried_70 : decode cX12_tried 70 = .ok (.istore 4, 2) := by decide +kernel
theorem dX12_tried_72 : decode cX12_tried 72 = .ok (.iload 4, 2) := by decide +kernel
theorem dX12_tried_74 : decode cX12_tried 74 = .ok (.bipush 8, 2) := by decide +kernel
theorem dX12_tried_76 : decode cX12_tried 76 = .ok (.if_icmp .ge 22, 3) := by decide +kernel
theorem dX12_tried_79 : decode cX12_tried 79 = .ok (.aload_n 0, 1) := by decide +kernel
theorem dX12_tried_80 : decode cX12_tried 80 = .ok (.getfield 104, 3) := by decide +kernel
theorem dX12_tried_83 : decode cX12_tried 83 = .ok (.iload 4, 2) := by decide +kernel
theorem dX12_tried_85 : decode cX12_tried 85 = .ok (.aload_n 0, 1) := by decide +kernel
theorem dX12_tried_86 : decode cX12_tried 86 = .ok (.iload 4, 2) := by decide +kernel
theorem dX12_tried_88 : decode cX12_tried 88 = .ok (.invokevirtual 339, 3) := by decide +kernel
theorem dX12_tried_91 : decode cX12_tried 91 = .ok (.iastore, 1) := by decide +kernel
theorem dX12_tried_92 : decode cX12_tried 92 = .ok (.iinc 4 1, 3) := by decide +kernel
theorem dX12_tried_95 : decode cX12_tried 95 = .ok (.goto (-23), 3) := by decide +kernel
theorem dX12_tried_98 : decode cX12_tried 98 = .ok (.aload_n 0, 1) := by decide +kernel
theorem dX12_tried_99 : decode cX12_tried 99 = .ok (.bipush 8, 2) := by decide +kernel
theorem dX12_tried_101 : decode cX12_tried 101 = .ok (.putfield 327, 3) := by decide +kernel
theorem dX12_tried_104 : decode cX12_tried 104 = .ok (.aload_n 0, 1) := by decide +kernel
theorem dX12_tried_105 : decode cX12_tried 105 = .ok (.invokevirtual 382, 3) := by decide +kernel
theorem dX12_tried_108 : decode cX12_tried 108 = .ok (.iload_n 3, 1) := by decide +kernel
theorem dX12_tried_109 : decode cX12_tried 109 = .ok (.ireturn, 1) := by decide +kernel
theorem dX12_ill_0 : decode cX12_ill 0 = .ok (.aload_n 0, 1) := by decide +kernel
theorem dX12_ill_1 : decode cX12_ill 1 = .ok (.iconst 0, 1) := by decide +kernel
theorem dX12_ill_2 : decode cX12_ill 2 = .ok (.putfield 139, 3) := by decide +kernel
theorem dX12_ill_5 : decode cX12_ill 5 = .ok (.aload_n 0, 1) := by decide +kernel
theorem dX12_ill_6 : decode cX12_ill 6 = .ok (.iload_n 1, 1) := by decide +kernel
theorem dX12_ill_7 : decode cX12_ill 7 = .ok (.invokevirtual 160, 3) := by decide +kernel
theorem dX12_ill_10 : decode cX12_ill 10 = .ok (.ifCond .eq 12, 3) := by decide +kernel
theorem dX12_ill_13 : decode cX12_ill 13 = .ok (.aload_n 0, 1) := by decide +kernel
theorem dX12_ill_14 : decode cX12_ill 14 = .ok (.iload_n 2, 1) := by decide +kernel
theorem dX12_ill_15 : decode cX12_ill 15 = .ok (.iconst 1, 1) := by decide +kernel
theorem dX12_ill_16 : decode cX12_ill 16 = .ok (.invokevirtual 305, 3) := by decide +kernel
theorem dX12_ill_19 : decode cX12_ill 19 = .ok (.ifCond .ne 8, 3) := by decide +kernel
theorem dX12_ill_22 : decode cX12_ill 22 = .ok (.aload_n 0, 1) := by decide +kernel
theorem dX12_ill_23 : decode cX12_ill 23 = .ok (.invokevirtual 312, 3) := by decide +kernel
theorem dX12_ill_26 : decode cX12_ill 26 = .ok (.ireturn, 1) := by decide +kernel
theorem dX12_ill_27 : decode cX12_ill 27 = .ok (.aload_n 0, 1) := by decide +kernel
theorem dX12_ill_28 : decode cX12_ill 28 = .ok (.invokevirtual 379, 3) := by decide +kernel
theorem dX12_ill_31 : decode cX12_ill 31 = .ok (.aload_n 0, 1) := by decide +kernel
theorem dX12_ill_32 : decode cX12_ill 32 = .ok (.iload_n 2, 1) := by decide +kernel
theorem dX12_ill_33 : decode cX12_ill 33 = .ok (.invokevirtual 308, 3) := by decide +kernel
theorem dX12_ill_36 : decode cX12_ill 36 = .ok (.aload_n 0, 1) := by decide +kernel
theorem dX12_ill_37 : decode cX12_ill 37 = .ok (.invokevirtual 324, 3) := by decide +kernel
theorem dX12_ill_40 : decode cX12_ill 40 = .ok (.istore_n 3, 1) := by decide +kernel
theorem dX12_ill_41 : decode cX12_ill 41 = .ok (.aload_n 0, 1) := by decide +kernel
theorem dX12_ill_42 : decode cX12_ill 42 = .ok (.invokevirtual 382, 3) := by decide +kernel
theorem dX12_ill_45 : decode cX12_ill 45 = .ok (.aload_n 0, 1) := by decide +kernel
theorem dX12_ill_46 : decode cX12_ill 46 = .ok (.getfield 22, 3) := by decide +kernel
theorem dX12_ill_49 : decode cX12_ill 49 = .ok (.aload_n 0, 1) := by decide +kernel
theorem dX12_ill_50 : decode cX12_ill 50 = .ok (.getfield 167, 3) := by decide +kernel
theorem dX12_ill_53 : decode cX12_ill 53 = .ok (.iload_n 1, 1) := by decide +kernel
theorem dX12_ill_54 : decode cX12_ill 54 = .ok (.iastore, 1) := by decide +kernel
theorem dX12_ill_55 : decode cX12_ill 55 = .ok (.aload_n 0, 1) := by decide +kernel
theorem dX12_ill_56 : decode cX12_ill 56 = .ok (.getfield 25, 3) := by decide +kernel
theorem dX12_ill_59 : decode cX12_ill 59 = .ok (.aload_n 0, 1) := by decide +kernel
theorem dX12_ill_60 : decode cX12_ill 60 = .ok (.getfield 167, 3) := by decide +kernel
theorem dX12_ill_63 : decode cX12_ill 63 = .ok (.aload_n 0, 1) := by decide +kernel
theorem dX12_ill_64 : decode cX12_ill 64 = .ok (.invokevirtual 164, 3) := by decide +kernel
theorem dX12_ill_67 : decode cX12_ill 67 = .ok (.iastore, 1) := by decide +kernel
theorem dX12_ill_68 : decode cX12_ill 68 = .ok (.aload_n 0, 1) := by decide +kernel
theorem dX12_ill_69 : decode cX12_ill 69 = .ok (.getfield 28, 3) := by decide +kernel
theorem dX12_ill_72 : decode cX12_ill 72 = .ok (.aload_n 0, 1) := by decide +kernel
theorem dX12_ill_73 : decode cX12_ill 73 = .ok (.getfield 167, 3) := by decide +kernel
theorem dX12_ill_76 : decode cX12_ill 76 = .ok (.aload_n 0, 1) := by decide +kernel
theorem dX12_ill_77 : decode cX12_ill 77 = .ok (.invokevirtual 164, 3) := by decide +kernel
theorem dX12_ill_80 : decode cX12_ill 80 = .ok (.iload_n 2, 1) := by decide +kernel
theorem dX12_ill_81 : decode cX12_ill 81 = .ok (.iadd, 1) := by decide +kernel
theorem dX12_ill_82 : decode cX12_ill 82 = .ok (.iastore, 1) := by decide +kernel
theorem dX12_ill_83 : decode cX12_ill 83 = .ok (.aload_n 0, 1) := by decide +kernel
theorem dX12_ill_84 : decode cX12_ill 84 = .ok (.dup, 1) := by decide +kernel
theorem dX12_ill_85 : decode cX12_ill 85 = .ok (.getfield 167, 3) := by decide +kernel
theorem dX12_ill_88 : decode cX12_ill 88 = .ok (.iconst 1, 1) := by decide +kernel
theorem dX12_ill_89 : decode cX12_ill 89 = .ok (.iadd, 1) := by decide +kernel
theorem dX12_ill_90 : decode cX12_ill 90 = .ok (.putfield 167, 3) := by decide +kernel
theorem dX12_ill_93 : decode cX12_ill 93 = .ok (.aload_n 0, 1) := by decide +kernel
theorem dX12_ill_94 : decode cX12_ill 94 = .ok (.iload_n 2, 1) := by decide +kernel
theorem dX12_ill_95 : decode cX12_ill 95 = .ok (.invokevirtual 308, 3) := by decide +kernel
theorem dX12_ill_98 : decode cX12_ill 98 = .ok (.aload_n 0, 1) := by decide +kernel
theorem dX12_ill_99 : decode cX12_ill 99 = .ok (.invokevirtual 324, 3) := by decide +kernel
theorem dX12_ill_102 : decode cX12_ill 102 = .ok (.istore 4, 2) := by decide +kernel
theorem dX12_ill_104 : decode cX12_ill 104 = .ok (.aload_n 0, 1) := by decide +kernel
theorem dX12_ill_105 : decode cX12_ill 105 = .ok (.invokevirtual 382, 3) := by decide +kernel
theorem dX12_ill_108 : decode cX12_ill 108 = .ok (.aload_n 0, 1) := by decide +kernel
theorem dX12_ill_109 : decode cX12_ill 109 = .ok (.dup, 1) := by decide +kernel
theorem dX12_ill_110 : decode cX12_ill 110 = .ok (.getfield 167, 3) := by decide +kernel
theorem dX12_ill_113 : decode cX12_ill 113 = .ok (.iconst 1, 1) := by decide +kernel
theorem dX12_ill_114 : decode cX12_ill 114 = .ok (.isub, 1) := by decide +kernel
theorem dX12_ill_115 : decode cX12_ill 115 = .ok (.putfield 167, 3) := by decide +kernel
theorem dX12_ill_118 : decode cX12_ill 118 = .ok (.iload 4, 2) := by decide +kernel
theorem dX12_ill_120 : decode cX12_ill 120 = .ok (.iload_n 3, 1) := by decide +kernel
