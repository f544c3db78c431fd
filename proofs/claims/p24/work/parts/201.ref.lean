theorem dX12_asks_0 : decode cX12_asks 0 = .ok (.iconst (-1), 1) := by decide +kernel
theorem dX12_asks_1 : decode cX12_asks 1 = .ok (.istore_n 3, 1) := by decide +kernel
theorem dX12_asks_10 : decode cX12_asks 10 = .ok (.aload_n 0, 1) := by decide +kernel
theorem dX12_asks_100 : decode cX12_asks 100 = .ok (.aload_n 0, 1) := by decide +kernel
theorem dX12_asks_101 : decode cX12_asks 101 = .ok (.aload_n 0, 1) := by decide +kernel
theorem dX12_asks_102 : decode cX12_asks 102 = .ok (.getfield 79, 3) := by decide +kernel
theorem dX12_asks_105 : decode cX12_asks 105 = .ok (.getstatic 255, 3) := by decide +kernel
theorem dX12_asks_108 : decode cX12_asks 108 = .ok (.iload_n 1, 1) := by decide +kernel
theorem dX12_asks_109 : decode cX12_asks 109 = .ok (.iaload, 1) := by decide +kernel
theorem dX12_asks_11 : decode cX12_asks 11 = .ok (.getfield 65, 3) := by decide +kernel
theorem dX12_asks_110 : decode cX12_asks 110 = .ok (.getstatic 258, 3) := by decide +kernel
theorem dX12_asks_113 : decode cX12_asks 113 = .ok (.iload_n 1, 1) := by decide +kernel
theorem dX12_asks_114 : decode cX12_asks 114 = .ok (.iaload, 1) := by decide +kernel
theorem dX12_asks_115 : decode cX12_asks 115 = .ok (.iload_n 1, 1) := by decide +kernel
theorem dX12_asks_116 : decode cX12_asks 116 = .ok (.invokevirtual 251, 3) := by decide +kernel
theorem dX12_asks_119 : decode cX12_asks 119 = .ok (.goto 22, 3) := by decide +kernel
theorem dX12_asks_122 : decode cX12_asks 122 = .ok (.aload_n 0, 1) := by decide +kernel
theorem dX12_asks_123 : decode cX12_asks 123 = .ok (.aload_n 0, 1) := by decide +kernel
theorem dX12_asks_124 : decode cX12_asks 124 = .ok (.getfield 58, 3) := by decide +kernel
theorem dX12_asks_127 : decode cX12_asks 127 = .ok (.bipush 60, 2) := by decide +kernel
theorem dX12_asks_129 : decode cX12_asks 129 = .ok (.iload_n 3, 1) := by decide +kernel
theorem dX12_asks_130 : decode cX12_asks 130 = .ok (.imul, 1) := by decide +kernel
theorem dX12_asks_131 : decode cX12_asks 131 = .ok (.aload_n 0, 1) := by decide +kernel
theorem dX12_asks_132 : decode cX12_asks 132 = .ok (.getfield 62, 3) := by decide +kernel
theorem dX12_asks_135 : decode cX12_asks 135 = .ok (.iload_n 3, 1) := by decide +kernel
theorem dX12_asks_136 : decode cX12_asks 136 = .ok (.iaload, 1) := by decide +kernel
theorem dX12_asks_137 : decode cX12_asks 137 = .ok (.iload_n 1, 1) := by decide +kernel
theorem dX12_asks_138 : decode cX12_asks 138 = .ok (.invokevirtual 251, 3) := by decide +kernel
theorem dX12_asks_14 : decode cX12_asks 14 = .ok (.aload_n 0, 1) := by decide +kernel
theorem dX12_asks_141 : decode cX12_asks 141 = .ok (.aload_n 0, 1) := by decide +kernel
theorem dX12_asks_142 : decode cX12_asks 142 = .ok (.iconst 0, 1) := by decide +kernel
theorem dX12_asks_143 : decode cX12_asks 143 = .ok (.invokevirtual 239, 3) := by decide +kernel
theorem dX12_asks_146 : decode cX12_asks 146 = .ok (.ireturn, 1) := by decide +kernel
theorem dX12_asks_15 : decode cX12_asks 15 = .ok (.getfield 113, 3) := by decide +kernel
theorem dX12_asks_18 : decode cX12_asks 18 = .ok (.iaload, 1) := by decide +kernel
theorem dX12_asks_19 : decode cX12_asks 19 = .ok (.iload_n 1, 1) := by decide +kernel
theorem dX12_asks_2 : decode cX12_asks 2 = .ok (.aload_n 0, 1) := by decide +kernel
theorem dX12_asks_20 : decode cX12_asks 20 = .ok (.if_icmp .ne 11, 3) := by decide +kernel
theorem dX12_asks_23 : decode cX12_asks 23 = .ok (.aload_n 0, 1) := by decide +kernel
theorem dX12_asks_24 : decode cX12_asks 24 = .ok (.getfield 113, 3) := by decide +kernel
theorem dX12_asks_27 : decode cX12_asks 27 = .ok (.istore_n 3, 1) := by decide +kernel
theorem dX12_asks_28 : decode cX12_asks 28 = .ok (.goto 67, 3) := by decide +kernel
theorem dX12_asks_3 : decode cX12_asks 3 = .ok (.getfield 113, 3) := by decide +kernel
theorem dX12_asks_31 : decode cX12_asks 31 = .ok (.iconst 0, 1) := by decide +kernel
theorem dX12_asks_32 : decode cX12_asks 32 = .ok (.istore 4, 2) := by decide +kernel
theorem dX12_asks_34 : decode cX12_asks 34 = .ok (.iload 4, 2) := by decide +kernel
theorem dX12_asks_36 : decode cX12_asks 36 = .ok (.aload_n 0, 1) := by decide +kernel
theorem dX12_asks_37 : decode cX12_asks 37 = .ok (.getfield 248, 3) := by decide +kernel
theorem dX12_asks_40 : decode cX12_asks 40 = .ok (.if_icmp .ge 55, 3) := by decide +kernel
theorem dX12_asks_43 : decode cX12_asks 43 = .ok (.aload_n 0, 1) := by decide +kernel
theorem dX12_asks_44 : decode cX12_asks 44 = .ok (.getfield 65, 3) := by decide +kernel
theorem dX12_asks_47 : decode cX12_asks 47 = .ok (.iload 4, 2) := by decide +kernel
theorem dX12_asks_49 : decode cX12_asks 49 = .ok (.iaload, 1) := by decide +kernel
theorem dX12_asks_50 : decode cX12_asks 50 = .ok (.iload_n 1, 1) := by decide +kernel
theorem dX12_asks_51 : decode cX12_asks 51 = .ok (.if_icmp .ne 38, 3) := by decide +kernel
theorem dX12_asks_54 : decode cX12_asks 54 = .ok (.aload_n 0, 1) := by decide +kernel
theorem dX12_asks_55 : decode cX12_asks 55 = .ok (.getfield 68, 3) := by decide +kernel
theorem dX12_asks_58 : decode cX12_asks 58 = .ok (.iload 4, 2) := by decide +kernel
theorem dX12_asks_6 : decode cX12_asks 6 = .ok (.iconst (-1), 1) := by decide +kernel
theorem dX12_asks_60 : decode cX12_asks 60 = .ok (.iaload, 1) := by decide +kernel
theorem dX12_asks_61 : decode cX12_asks 61 = .ok (.iload_n 2, 1) := by decide +kernel
theorem dX12_asks_62 : decode cX12_asks 62 = .ok (.if_icmp .gt 27, 3) := by decide +kernel
theorem dX12_asks_65 : decode cX12_asks 65 = .ok (.iload_n 3, 1) := by decide +kernel
theorem dX12_asks_66 : decode cX12_asks 66 = .ok (.iconst (-1), 1) := by decide +kernel
theorem dX12_asks_67 : decode cX12_asks 67 = .ok (.if_icmp .eq 19, 3) := by decide +kernel
theorem dX12_asks_7 : decode cX12_asks 7 = .ok (.if_icmp .eq 24, 3) := by decide +kernel
theorem dX12_asks_70 : decode cX12_asks 70 = .ok (.aload_n 0, 1) := by decide +kernel
theorem dX12_asks_71 : decode cX12_asks 71 = .ok (.getfield 68, 3) := by decide +kernel
theorem dX12_asks_74 : decode cX12_asks 74 = .ok (.iload 4, 2) := by decide +kernel
theorem dX12_asks_76 : decode cX12_asks 76 = .ok (.iaload, 1) := by decide +kernel
theorem dX12_asks_77 : decode cX12_asks 77 = .ok (.aload_n 0, 1) := by decide +kernel
theorem dX12_asks_78 : decode cX12_asks 78 = .ok (.getfield 68, 3) := by decide +kernel
theorem dX12_asks_81 : decode cX12_asks 81 = .ok (.iload_n 3, 1) := by decide +kernel
theorem dX12_asks_82 : decode cX12_asks 82 = .ok (.iaload, 1) := by decide +kernel
theorem dX12_asks_83 : decode cX12_asks 83 = .ok (.if_icmp .lt 6, 3) := by decide +kernel
theorem dX12_asks_86 : decode cX12_asks 86 = .ok (.iload 4, 2) := by decide +kernel
theorem dX12_asks_88 : decode cX12_asks 88 = .ok (.istore_n 3, 1) := by decide +kernel
theorem dX12_asks_89 : decode cX12_asks 89 = .ok (.iinc 4 1, 3) := by decide +kernel
theorem dX12_asks_92 : decode cX12_asks 92 = .ok (.goto (-58), 3) := by decide +kernel
theorem dX12_asks_95 : decode cX12_asks 95 = .ok (.iload_n 3, 1) := by decide +kernel
theorem dX12_asks_96 : decode cX12_asks 96 = .ok (.iconst (-1), 1) := by decide +kernel
theorem dX12_asks_97 : decode cX12_asks 97 = .ok (.if_icmp .ne 25, 3) := by decide +kernel
theorem dX12_at_0 : decode cX12_at 0 = .ok (.aload_n 0, 1) := by decide +kernel
theorem dX12_at_1 : decode cX12_at 1 = .ok (.iconst 0, 1) := by decide +kernel
theorem dX12_at_10 : decode cX12_at 10 = .ok (.ifCond .ne 5, 3) := by decide +kernel
theorem dX12_at_101 : decode cX12_at 101 = .ok (.iconst 1, 1) := by decide +kernel
theorem dX12_at_102 : decode cX12_at 102 = .ok (.goto 4, 3) := by decide +kernel
theorem dX12_at_105 : decode cX12_at 105 = .ok (.iconst 0, 1) := by decide +kernel
theorem dX12_at_106 : decode cX12_at 106 = .ok (.ireturn, 1) := by decide +kernel
theorem dX12_at_107 : decode cX12_at 107 = .ok (.aload_n 0, 1) := by decide +kernel
theorem dX12_at_108 : decode cX12_at 108 = .ok (.iload_n 1, 1) := by decide +kernel
theorem dX12_at_109 : decode cX12_at 109 = .ok (.iconst 0, 1) := by decide +kernel
theorem dX12_at_110 : decode cX12_at 110 = .ok (.invokevirtual 261, 3) := by decide +kernel
theorem dX12_at_113 : decode cX12_at 113 = .ok (.ireturn, 1) := by decide +kernel
theorem dX12_at_114 : decode cX12_at 114 = .ok (.aload_n 0, 1) := by decide +kernel
theorem dX12_at_115 : decode cX12_at 115 = .ok (.iload_n 1, 1) := by decide +kernel
theorem dX12_at_116 : decode cX12_at 116 = .ok (.iconst 1, 1) := by decide +kernel
theorem dX12_at_117 : decode cX12_at 117 = .ok (.invokevirtual 261, 3) := by decide +kernel
theorem dX12_at_120 : decode cX12_at 120 = .ok (.ireturn, 1) := by decide +kernel
theorem dX12_at_121 : decode cX12_at 121 = .ok (.aload_n 0, 1) := by decide +kernel
theorem dX12_at_122 : decode cX12_at 122 = .ok (.iload_n 1, 1) := by decide +kernel
theorem dX12_at_123 : decode cX12_at 123 = .ok (.iconst 2, 1) := by decide +kernel
theorem dX12_at_124 : decode cX12_at 124 = .ok (.invokevirtual 261, 3) := by decide +kernel
theorem dX12_at_127 : decode cX12_at 127 = .ok (.ireturn, 1) := by decide +kernel
theorem dX12_at_128 : decode cX12_at 128 = .ok (.aload_n 0, 1) := by decide +kernel
theorem dX12_at_129 : decode cX12_at 129 = .ok (.iload_n 1, 1) := by decide +kernel
theorem dX12_at_13 : decode cX12_at 13 = .ok (.iconst (-1), 1) := by decide +kernel
theorem dX12_at_130 : decode cX12_at 130 = .ok (.iconst 3, 1) := by decide +kernel
theorem dX12_at_131 : decode cX12_at 131 = .ok (.invokevirtual 261, 3) := by decide +kernel
theorem dX12_at_134 : decode cX12_at 134 = .ok (.ireturn, 1) := by decide +kernel
theorem dX12_at_135 : decode cX12_at 135 = .ok (.aload_n 0, 1) := by decide +kernel
theorem dX12_at_136 : decode cX12_at 136 = .ok (.iload_n 1, 1) := by decide +kernel
theorem dX12_at_137 : decode cX12_at 137 = .ok (.invokevirtual 318, 3) := by decide +kernel
theorem dX12_at_14 : decode cX12_at 14 = .ok (.ireturn, 1) := by decide +kernel
theorem dX12_at_140 : decode cX12_at 140 = .ok (.ifCond .le 7, 3) := by decide +kernel
theorem dX12_at_143 : decode cX12_at 143 = .ok (.iconst 1, 1) := by decide +kernel
theorem dX12_at_144 : decode cX12_at 144 = .ok (.goto 4, 3) := by decide +kernel
theorem dX12_at_147 : decode cX12_at 147 = .ok (.iconst 0, 1) := by decide +kernel
theorem dX12_at_148 : decode cX12_at 148 = .ok (.ireturn, 1) := by decide +kernel
theorem dX12_at_149 : decode cX12_at 149 = .ok (.aload_n 0, 1) := by decide +kernel
theorem dX12_at_15 : decode cX12_at 15 = .ok (.iload_n 2, 1) := by decide +kernel
theorem dX12_at_150 : decode cX12_at 150 = .ok (.iload_n 1, 1) := by decide +kernel
theorem dX12_at_151 : decode cX12_at 151 = .ok (.invokevirtual 318, 3) := by decide +kernel
theorem dX12_at_154 : decode cX12_at 154 = .ok (.ireturn, 1) := by decide +kernel
theorem dX12_at_155 : decode cX12_at 155 = .ok (.iconst (-1), 1) := by decide +kernel
theorem dX12_at_156 : decode cX12_at 156 = .ok (.ireturn, 1) := by decide +kernel
theorem dX12_at_16 : decode cX12_at 16 = .ok (.tableswitch 139 0 6 #[44, 91, 98, 105, 112, 119, 133], 44) := by decide +kernel
theorem dX12_at_2 : decode cX12_at 2 = .ok (.putfield 139, 3) := by decide +kernel
theorem dX12_at_5 : decode cX12_at 5 = .ok (.aload_n 0, 1) := by decide +kernel
theorem dX12_at_6 : decode cX12_at 6 = .ok (.iload_n 1, 1) := by decide +kernel
theorem dX12_at_60 : decode cX12_at 60 = .ok (.aload_n 0, 1) := by decide +kernel
theorem dX12_at_61 : decode cX12_at 61 = .ok (.iload_n 1, 1) := by decide +kernel
theorem dX12_at_62 : decode cX12_at 62 = .ok (.iconst 2, 1) := by decide +kernel
theorem dX12_at_63 : decode cX12_at 63 = .ok (.invokevirtual 261, 3) := by decide +kernel
theorem dX12_at_66 : decode cX12_at 66 = .ok (.iconst (-1), 1) := by decide +kernel
theorem dX12_at_67 : decode cX12_at 67 = .ok (.if_icmp .eq 7, 3) := by decide +kernel
theorem dX12_at_7 : decode cX12_at 7 = .ok (.invokevirtual 315, 3) := by decide +kernel
theorem dX12_at_70 : decode cX12_at 70 = .ok (.iconst 3, 1) := by decide +kernel
theorem dX12_at_71 : decode cX12_at 71 = .ok (.goto 35, 3) := by decide +kernel
theorem dX12_at_74 : decode cX12_at 74 = .ok (.aload_n 0, 1) := by decide +kernel
theorem dX12_at_75 : decode cX12_at 75 = .ok (.iload_n 1, 1) := by decide +kernel
theorem dX12_at_76 : decode cX12_at 76 = .ok (.iconst 0, 1) := by decide +kernel
theorem dX12_at_77 : decode cX12_at 77 = .ok (.invokevirtual 261, 3) := by decide +kernel
theorem dX12_at_80 : decode cX12_at 80 = .ok (.iconst (-1), 1) := by decide +kernel
theorem dX12_at_81 : decode cX12_at 81 = .ok (.if_icmp .eq 7, 3) := by decide +kernel
theorem dX12_at_84 : decode cX12_at 84 = .ok (.iconst 2, 1) := by decide +kernel
theorem dX12_at_85 : decode cX12_at 85 = .ok (.goto 21, 3) := by decide +kernel
theorem dX12_at_88 : decode cX12_at 88 = .ok (.aload_n 0, 1) := by decide +kernel
theorem dX12_at_89 : decode cX12_at 89 = .ok (.getfield 46, 3) := by decide +kernel
theorem dX12_at_92 : decode cX12_at 92 = .ok (.iload_n 1, 1) := by decide +kernel
theorem dX12_at_93 : decode cX12_at 93 = .ok (.iaload, 1) := by decide +kernel
theorem dX12_at_94 : decode cX12_at 94 = .ok (.aload_n 0, 1) := by decide +kernel
theorem dX12_at_95 : decode cX12_at 95 = .ok (.invokevirtual 164, 3) := by decide +kernel
theorem dX12_at_98 : decode cX12_at 98 = .ok (.if_icmp .gt 7, 3) := by decide +kernel
theorem dX12_canGo_0 : decode cX12_canGo 0 = .ok (.iload_n 1, 1) := by decide +kernel
theorem dX12_canGo_1 : decode cX12_canGo 1 = .ok (.iload_n 2, 1) := by decide +kernel
theorem dX12_canGo_11 : decode cX12_canGo 11 = .ok (.aload_n 0, 1) := by decide +kernel
theorem dX12_canGo_12 : decode cX12_canGo 12 = .ok (.invokevirtual 164, 3) := by decide +kernel
theorem dX12_canGo_15 : decode cX12_canGo 15 = .ok (.iload_n 1, 1) := by decide +kernel
theorem dX12_canGo_16 : decode cX12_canGo 16 = .ok (.iadd, 1) := by decide +kernel
theorem dX12_canGo_17 : decode cX12_canGo 17 = .ok (.sipush 4800, 3) := by decide +kernel
theorem dX12_canGo_2 : decode cX12_canGo 2 = .ok (.sipush 960, 3) := by decide +kernel
theorem dX12_canGo_20 : decode cX12_canGo 20 = .ok (.if_icmp .gt 7, 3) := by decide +kernel
theorem dX12_canGo_23 : decode cX12_canGo 23 = .ok (.iconst 1, 1) := by decide +kernel
theorem dX12_canGo_24 : decode cX12_canGo 24 = .ok (.goto 4, 3) := by decide +kernel
theorem dX12_canGo_27 : decode cX12_canGo 27 = .ok (.iconst 0, 1) := by decide +kernel
theorem dX12_canGo_28 : decode cX12_canGo 28 = .ok (.ireturn, 1) := by decide +kernel
theorem dX12_canGo_5 : decode cX12_canGo 5 = .ok (.invokestatic 145, 3) := by decide +kernel
theorem dX12_canGo_8 : decode cX12_canGo 8 = .ok (.ifCond .eq 19, 3) := by decide +kernel
theorem dX12_choose_0 : decode cX12_choose 0 = .ok (.iconst (-1), 1) := by decide +kernel
theorem dX12_choose_1 : decode cX12_choose 1 = .ok (.istore_n 2, 1) := by decide +kernel
theorem dX12_choose_10 : decode cX12_choose 10 = .ok (.getfield 149, 3) := by decide +kernel
theorem dX12_choose_13 : decode cX12_choose 13 = .ok (.if_icmp .ge 60, 3) := by decide +kernel
theorem dX12_choose_16 : decode cX12_choose 16 = .ok (.aload_n 0, 1) := by decide +kernel
theorem dX12_choose_17 : decode cX12_choose 17 = .ok (.iload 4, 2) := by decide +kernel
theorem dX12_choose_19 : decode cX12_choose 19 = .ok (.invokevirtual 269, 3) := by decide +kernel
theorem dX12_choose_2 : decode cX12_choose 2 = .ok (.iconst 0, 1) := by decide +kernel
theorem dX12_choose_22 : decode cX12_choose 22 = .ok (.ifCond .eq 45, 3) := by decide +kernel
theorem dX12_choose_25 : decode cX12_choose 25 = .ok (.aload_n 0, 1) := by decide +kernel
theorem dX12_choose_26 : decode cX12_choose 26 = .ok (.iload_n 1, 1) := by decide +kernel
theorem dX12_choose_27 : decode cX12_choose 27 = .ok (.iload 4, 2) := by decide +kernel
theorem dX12_choose_29 : decode cX12_choose 29 = .ok (.invokevirtual 286, 3) := by decide +kernel
theorem dX12_choose_3 : decode cX12_choose 3 = .ok (.istore_n 3, 1) := by decide +kernel
theorem dX12_choose_32 : decode cX12_choose 32 = .ok (.ifCond .ne 6, 3) := by decide +kernel
theorem dX12_choose_35 : decode cX12_choose 35 = .ok (.goto 32, 3) := by decide +kernel
theorem dX12_choose_38 : decode cX12_choose 38 = .ok (.aload_n 0, 1) := by decide +kernel
theorem dX12_choose_39 : decode cX12_choose 39 = .ok (.iload_n 1, 1) := by decide +kernel
theorem dX12_choose_4 : decode cX12_choose 4 = .ok (.iconst 0, 1) := by decide +kernel
theorem dX12_choose_40 : decode cX12_choose 40 = .ok (.iload 4, 2) := by decide +kernel
theorem dX12_choose_42 : decode cX12_choose 42 = .ok (.invokevirtual 290, 3) := by decide +kernel
theorem dX12_choose_45 : decode cX12_choose 45 = .ok (.istore 5, 2) := by decide +kernel
theorem dX12_choose_47 : decode cX12_choose 47 = .ok (.iload_n 2, 1) := by decide +kernel
theorem dX12_choose_48 : decode cX12_choose 48 = .ok (.iconst (-1), 1) := by decide +kernel
theorem dX12_choose_49 : decode cX12_choose 49 = .ok (.if_icmp .eq 12, 3) := by decide +kernel
theorem dX12_choose_5 : decode cX12_choose 5 = .ok (.istore 4, 2) := by decide +kernel
theorem dX12_choose_52 : decode cX12_choose 52 = .ok (.iload 5, 2) := by decide +kernel
theorem dX12_choose_54 : decode cX12_choose 54 = .ok (.iload_n 3, 1) := by decide +kernel
theorem dX12_choose_55 : decode cX12_choose 55 = .ok (.if_icmp .lt 6, 3) := by decide +kernel
theorem dX12_choose_58 : decode cX12_choose 58 = .ok (.goto 9, 3) := by decide +kernel
theorem dX12_choose_61 : decode cX12_choose 61 = .ok (.iload 4, 2) := by decide +kernel
theorem dX12_choose_63 : decode cX12_choose 63 = .ok (.istore_n 2, 1) := by decide +kernel
theorem dX12_choose_64 : decode cX12_choose 64 = .ok (.iload 5, 2) := by decide +kernel
theorem dX12_choose_66 : decode cX12_choose 66 = .ok (.istore_n 3, 1) := by decide +kernel
theorem dX12_choose_67 : decode cX12_choose 67 = .ok (.iinc 4 1, 3) := by decide +kernel
theorem dX12_choose_7 : decode cX12_choose 7 = .ok (.iload 4, 2) := by decide +kernel
theorem dX12_choose_70 : decode cX12_choose 70 = .ok (.goto (-63), 3) := by decide +kernel
theorem dX12_choose_73 : decode cX12_choose 73 = .ok (.iload_n 2, 1) := by decide +kernel
theorem dX12_choose_74 : decode cX12_choose 74 = .ok (.ireturn, 1) := by decide +kernel
theorem dX12_choose_9 : decode cX12_choose 9 = .ok (.aload_n 0, 1) := by decide +kernel
theorem dX12_claims_0 : decode cX12_claims 0 = .ok (.aload_n 0, 1) := by decide +kernel
theorem dX12_claims_1 : decode cX12_claims 1 = .ok (.iconst 0, 1) := by decide +kernel
theorem dX12_claims_100 : decode cX12_claims 100 = .ok (.aload_n 0, 1) := by decide +kernel
theorem dX12_claims_101 : decode cX12_claims 101 = .ok (.getfield 49, 3) := by decide +kernel
theorem dX12_claims_104 : decode cX12_claims 104 = .ok (.iload 4, 2) := by decide +kernel
theorem dX12_claims_106 : decode cX12_claims 106 = .ok (.iaload, 1) := by decide +kernel
theorem dX12_claims_107 : decode cX12_claims 107 = .ok (.aload_n 0, 1) := by decide +kernel
theorem dX12_claims_108 : decode cX12_claims 108 = .ok (.getfield 46, 3) := by decide +kernel
theorem dX12_claims_111 : decode cX12_claims 111 = .ok (.iload 4, 2) := by decide +kernel
theorem dX12_claims_113 : decode cX12_claims 113 = .ok (.iaload, 1) := by decide +kernel
theorem dX12_claims_114 : decode cX12_claims 114 = .ok (.isub, 1) := by decide +kernel
theorem dX12_claims_115 : decode cX12_claims 115 = .ok (.sipush 480, 3) := by decide +kernel
theorem dX12_claims_118 : decode cX12_claims 118 = .ok (.if_icmp .lt 6, 3) := by decide +kernel
theorem dX12_claims_12 : decode cX12_claims 12 = .ok (.ifCond .eq 12, 3) := by decide +kernel
theorem dX12_claims_121 : decode cX12_claims 121 = .ok (.iinc 3 1, 3) := by decide +kernel
theorem dX12_claims_124 : decode cX12_claims 124 = .ok (.iload_n 2, 1) := by decide +kernel
theorem dX12_claims_125 : decode cX12_claims 125 = .ok (.iconst 4, 1) := by decide +kernel
theorem dX12_claims_126 : decode cX12_claims 126 = .ok (.if_icmp .ne 35, 3) := by decide +kernel
theorem dX12_claims_129 : decode cX12_claims 129 = .ok (.aload_n 0, 1) := by decide +kernel
theorem dX12_claims_130 : decode cX12_claims 130 = .ok (.getfield 46, 3) := by decide +kernel
theorem dX12_claims_133 : decode cX12_claims 133 = .ok (.iload 4, 2) := by decide +kernel
theorem dX12_claims_135 : decode cX12_claims 135 = .ok (.iaload, 1) := by decide +kernel
theorem dX12_claims_136 : decode cX12_claims 136 = .ok (.sipush 480, 3) := by decide +kernel
theorem dX12_claims_139 : decode cX12_claims 139 = .ok (.idiv, 1) := by decide +kernel
theorem dX12_claims_140 : decode cX12_claims 140 = .ok (.aload_n 0, 1) := by decide +kernel
theorem dX12_claims_141 : decode cX12_claims 141 = .ok (.invokevirtual 164, 3) := by decide +kernel
theorem dX12_claims_144 : decode cX12_claims 144 = .ok (.sipush 480, 3) := by decide +kernel
theorem dX12_claims_147 : decode cX12_claims 147 = .ok (.idiv, 1) := by decide +kernel
theorem dX12_claims_148 : decode cX12_claims 148 = .ok (.if_icmp .ne 13, 3) := by decide +kernel
theorem dX12_claims_15 : decode cX12_claims 15 = .ok (.iload_n 2, 1) := by decide +kernel
theorem dX12_claims_151 : decode cX12_claims 151 = .ok (.iload_n 3, 1) := by decide +kernel
theorem dX12_claims_152 : decode cX12_claims 152 = .ok (.aload_n 0, 1) := by decide +kernel
theorem dX12_claims_153 : decode cX12_claims 153 = .ok (.getfield 37, 3) := by decide +kernel
theorem dX12_claims_156 : decode cX12_claims 156 = .ok (.iload 4, 2) := by decide +kernel
theorem dX12_claims_158 : decode cX12_claims 158 = .ok (.iaload, 1) := by decide +kernel
theorem dX12_claims_159 : decode cX12_claims 159 = .ok (.iadd, 1) := by decide +kernel
theorem dX12_claims_16 : decode cX12_claims 16 = .ok (.iconst 0, 1) := by decide +kernel
theorem dX12_claims_160 : decode cX12_claims 160 = .ok (.istore_n 3, 1) := by decide +kernel
theorem dX12_claims_161 : decode cX12_claims 161 = .ok (.iinc 4 1, 3) := by decide +kernel
theorem dX12_claims_164 : decode cX12_claims 164 = .ok (.goto (-123), 3) := by decide +kernel
theorem dX12_claims_167 : decode cX12_claims 167 = .ok (.iload_n 3, 1) := by decide +kernel
theorem dX12_claims_168 : decode cX12_claims 168 = .ok (.ireturn, 1) := by decide +kernel
theorem dX12_claims_17 : decode cX12_claims 17 = .ok (.iconst 4, 1) := by decide +kernel
theorem dX12_claims_18 : decode cX12_claims 18 = .ok (.invokestatic 145, 3) := by decide +kernel
theorem dX12_claims_2 : decode cX12_claims 2 = .ok (.putfield 139, 3) := by decide +kernel
theorem dX12_claims_21 : decode cX12_claims 21 = .ok (.ifCond .ne 5, 3) := by decide +kernel
theorem dX12_claims_24 : decode cX12_claims 24 = .ok (.iconst (-1), 1) := by decide +kernel
theorem dX12_claims_25 : decode cX12_claims 25 = .ok (.ireturn, 1) := by decide +kernel
theorem dX12_claims_26 : decode cX12_claims 26 = .ok (.iload_n 2, 1) := by decide +kernel
theorem dX12_claims_27 : decode cX12_claims 27 = .ok (.ifCond .ne 9, 3) := by decide +kernel
theorem dX12_claims_30 : decode cX12_claims 30 = .ok (.aload_n 0, 1) := by decide +kernel
theorem dX12_claims_31 : decode cX12_claims 31 = .ok (.iload_n 1, 1) := by decide +kernel
theorem dX12_claims_32 : decode cX12_claims 32 = .ok (.invokevirtual 339, 3) := by decide +kernel
theorem dX12_claims_35 : decode cX12_claims 35 = .ok (.ireturn, 1) := by decide +kernel
theorem dX12_claims_36 : decode cX12_claims 36 = .ok (.iconst 0, 1) := by decide +kernel
theorem dX12_claims_37 : decode cX12_claims 37 = .ok (.istore_n 3, 1) := by decide +kernel
theorem dX12_claims_38 : decode cX12_claims 38 = .ok (.iconst 0, 1) := by decide +kernel
theorem dX12_claims_39 : decode cX12_claims 39 = .ok (.istore 4, 2) := by decide +kernel
theorem dX12_claims_41 : decode cX12_claims 41 = .ok (.iload 4, 2) := by decide +kernel
theorem dX12_claims_43 : decode cX12_claims 43 = .ok (.aload_n 0, 1) := by decide +kernel
theorem dX12_claims_44 : decode cX12_claims 44 = .ok (.getfield 149, 3) := by decide +kernel
theorem dX12_claims_47 : decode cX12_claims 47 = .ok (.if_icmp .ge 120, 3) := by decide +kernel
theorem dX12_claims_5 : decode cX12_claims 5 = .ok (.iload_n 1, 1) := by decide +kernel
theorem dX12_claims_50 : decode cX12_claims 50 = .ok (.aload_n 0, 1) := by decide +kernel
theorem dX12_claims_51 : decode cX12_claims 51 = .ok (.getfield 31, 3) := by decide +kernel
theorem dX12_claims_54 : decode cX12_claims 54 = .ok (.iload 4, 2) := by decide +kernel
theorem dX12_claims_56 : decode cX12_claims 56 = .ok (.iaload, 1) := by decide +kernel
theorem dX12_claims_57 : decode cX12_claims 57 = .ok (.iload_n 1, 1) := by decide +kernel
theorem dX12_claims_58 : decode cX12_claims 58 = .ok (.if_icmp .eq 6, 3) := by decide +kernel
theorem dX12_claims_6 : decode cX12_claims 6 = .ok (.iconst 0, 1) := by decide +kernel
theorem dX12_claims_61 : decode cX12_claims 61 = .ok (.goto 100, 3) := by decide +kernel
theorem dX12_claims_64 : decode cX12_claims 64 = .ok (.iload_n 2, 1) := by decide +kernel
theorem dX12_claims_65 : decode cX12_claims 65 = .ok (.iconst 1, 1) := by decide +kernel
theorem dX12_claims_66 : decode cX12_claims 66 = .ok (.if_icmp .eq 55, 3) := by decide +kernel
theorem dX12_claims_69 : decode cX12_claims 69 = .ok (.iload_n 2, 1) := by decide +kernel
theorem dX12_claims_7 : decode cX12_claims 7 = .ok (.bipush 7, 2) := by decide +kernel
theorem dX12_claims_70 : decode cX12_claims 70 = .ok (.iconst 2, 1) := by decide +kernel
theorem dX12_claims_71 : decode cX12_claims 71 = .ok (.if_icmp .ne 12, 3) := by decide +kernel
theorem dX12_claims_74 : decode cX12_claims 74 = .ok (.aload_n 0, 1) := by decide +kernel
theorem dX12_claims_75 : decode cX12_claims 75 = .ok (.iload 4, 2) := by decide +kernel
theorem dX12_claims_77 : decode cX12_claims 77 = .ok (.invokevirtual 318, 3) := by decide +kernel
theorem dX12_claims_80 : decode cX12_claims 80 = .ok (.ifCond .gt 41, 3) := by decide +kernel
theorem dX12_claims_83 : decode cX12_claims 83 = .ok (.iload_n 2, 1) := by decide +kernel
theorem dX12_claims_84 : decode cX12_claims 84 = .ok (.iconst 3, 1) := by decide +kernel
theorem dX12_claims_85 : decode cX12_claims 85 = .ok (.if_icmp .ne 39, 3) := by decide +kernel
theorem dX12_claims_88 : decode cX12_claims 88 = .ok (.aload_n 0, 1) := by decide +kernel
theorem dX12_claims_89 : decode cX12_claims 89 = .ok (.getfield 43, 3) := by decide +kernel
theorem dX12_claims_9 : decode cX12_claims 9 = .ok (.invokestatic 145, 3) := by decide +kernel
theorem dX12_claims_92 : decode cX12_claims 92 = .ok (.iload 4, 2) := by decide +kernel
theorem dX12_claims_94 : decode cX12_claims 94 = .ok (.iaload, 1) := by decide +kernel
theorem dX12_claims_95 : decode cX12_claims 95 = .ok (.bipush 7, 2) := by decide +kernel
theorem dX12_claims_97 : decode cX12_claims 97 = .ok (.if_icmp .lt 27, 3) := by decide +kernel
theorem dX12_count_0 : decode cX12_count 0 = .ok (.aload_n 0, 1) := by decide +kernel
theorem dX12_count_1 : decode cX12_count 1 = .ok (.iconst 0, 1) := by decide +kernel
theorem dX12_count_100 : decode cX12_count 100 = .ok (.ireturn, 1) := by decide +kernel
theorem dX12_count_101 : decode cX12_count 101 = .ok (.aload_n 0, 1) := by decide +kernel
theorem dX12_count_102 : decode cX12_count 102 = .ok (.getfield 167, 3) := by decide +kernel
theorem dX12_count_105 : decode cX12_count 105 = .ok (.ireturn, 1) := by decide +kernel
theorem dX12_count_106 : decode cX12_count 106 = .ok (.iconst 0, 1) := by decide +kernel
theorem dX12_count_107 : decode cX12_count 107 = .ok (.istore_n 3, 1) := by decide +kernel
theorem dX12_count_108 : decode cX12_count 108 = .ok (.iload_n 3, 1) := by decide +kernel
theorem dX12_count_109 : decode cX12_count 109 = .ok (.aload_n 0, 1) := by decide +kernel
theorem dX12_count_110 : decode cX12_count 110 = .ok (.getfield 149, 3) := by decide +kernel
theorem dX12_count_113 : decode cX12_count 113 = .ok (.if_icmp .ge 20, 3) := by decide +kernel
theorem dX12_count_116 : decode cX12_count 116 = .ok (.aload_n 0, 1) := by decide +kernel
theorem dX12_count_117 : decode cX12_count 117 = .ok (.iload_n 3, 1) := by decide +kernel
theorem dX12_count_118 : decode cX12_count 118 = .ok (.invokevirtual 269, 3) := by decide +kernel
theorem dX12_count_121 : decode cX12_count 121 = .ok (.ifCond .eq 6, 3) := by decide +kernel
theorem dX12_count_124 : decode cX12_count 124 = .ok (.iinc 2 1, 3) := by decide +kernel
theorem dX12_count_127 : decode cX12_count 127 = .ok (.iinc 3 1, 3) := by decide +kernel
theorem dX12_count_130 : decode cX12_count 130 = .ok (.goto (-22), 3) := by decide +kernel
theorem dX12_count_133 : decode cX12_count 133 = .ok (.iload_n 2, 1) := by decide +kernel
theorem dX12_count_134 : decode cX12_count 134 = .ok (.ireturn, 1) := by decide +kernel
theorem dX12_count_135 : decode cX12_count 135 = .ok (.iconst 0, 1) := by decide +kernel
theorem dX12_count_136 : decode cX12_count 136 = .ok (.istore_n 3, 1) := by decide +kernel
theorem dX12_count_137 : decode cX12_count 137 = .ok (.iload_n 3, 1) := by decide +kernel
theorem dX12_count_138 : decode cX12_count 138 = .ok (.aload_n 0, 1) := by decide +kernel
theorem dX12_count_139 : decode cX12_count 139 = .ok (.getfield 149, 3) := by decide +kernel
theorem dX12_count_142 : decode cX12_count 142 = .ok (.if_icmp .ge 22, 3) := by decide +kernel
theorem dX12_count_145 : decode cX12_count 145 = .ok (.aload_n 0, 1) := by decide +kernel
theorem dX12_count_146 : decode cX12_count 146 = .ok (.iload_n 3, 1) := by decide +kernel
theorem dX12_count_147 : decode cX12_count 147 = .ok (.iconst 2, 1) := by decide +kernel
theorem dX12_count_148 : decode cX12_count 148 = .ok (.invokevirtual 261, 3) := by decide +kernel
theorem dX12_count_151 : decode cX12_count 151 = .ok (.iconst (-1), 1) := by decide +kernel
theorem dX12_count_152 : decode cX12_count 152 = .ok (.if_icmp .eq 6, 3) := by decide +kernel
theorem dX12_count_155 : decode cX12_count 155 = .ok (.iinc 2 1, 3) := by decide +kernel
theorem dX12_count_158 : decode cX12_count 158 = .ok (.iinc 3 1, 3) := by decide +kernel
theorem dX12_count_161 : decode cX12_count 161 = .ok (.goto (-24), 3) := by decide +kernel
theorem dX12_count_164 : decode cX12_count 164 = .ok (.iload_n 2, 1) := by decide +kernel
theorem dX12_count_165 : decode cX12_count 165 = .ok (.ireturn, 1) := by decide +kernel
theorem dX12_count_166 : decode cX12_count 166 = .ok (.aload_n 0, 1) := by decide +kernel
theorem dX12_count_167 : decode cX12_count 167 = .ok (.invokevirtual 324, 3) := by decide +kernel
theorem dX12_count_170 : decode cX12_count 170 = .ok (.ireturn, 1) := by decide +kernel
theorem dX12_count_171 : decode cX12_count 171 = .ok (.aload_n 0, 1) := by decide +kernel
theorem dX12_count_172 : decode cX12_count 172 = .ok (.getfield 94, 3) := by decide +kernel
theorem dX12_count_175 : decode cX12_count 175 = .ok (.ireturn, 1) := by decide +kernel
theorem dX12_count_176 : decode cX12_count 176 = .ok (.aload_n 0, 1) := by decide +kernel
theorem dX12_count_177 : decode cX12_count 177 = .ok (.getfield 327, 3) := by decide +kernel
theorem dX12_count_180 : decode cX12_count 180 = .ok (.ireturn, 1) := by decide +kernel
theorem dX12_count_181 : decode cX12_count 181 = .ok (.aload_n 0, 1) := by decide +kernel
theorem dX12_count_182 : decode cX12_count 182 = .ok (.getfield 177, 3) := by decide +kernel
theorem dX12_count_185 : decode cX12_count 185 = .ok (.ireturn, 1) := by decide +kernel
theorem dX12_count_186 : decode cX12_count 186 = .ok (.aload_n 0, 1) := by decide +kernel
theorem dX12_count_187 : decode cX12_count 187 = .ok (.getfield 152, 3) := by decide +kernel
theorem dX12_count_190 : decode cX12_count 190 = .ok (.ireturn, 1) := by decide +kernel
theorem dX12_count_191 : decode cX12_count 191 = .ok (.iconst (-1), 1) := by decide +kernel
theorem dX12_count_192 : decode cX12_count 192 = .ok (.ireturn, 1) := by decide +kernel
theorem dX12_count_2 : decode cX12_count 2 = .ok (.putfield 139, 3) := by decide +kernel
theorem dX12_count_5 : decode cX12_count 5 = .ok (.iconst 0, 1) := by decide +kernel
theorem dX12_count_6 : decode cX12_count 6 = .ok (.istore_n 2, 1) := by decide +kernel
theorem dX12_count_7 : decode cX12_count 7 = .ok (.iload_n 1, 1) := by decide +kernel
theorem dX12_count_76 : decode cX12_count 76 = .ok (.aload_n 0, 1) := by decide +kernel
theorem dX12_count_77 : decode cX12_count 77 = .ok (.invokevirtual 164, 3) := by decide +kernel
theorem dX12_count_8 : decode cX12_count 8 = .ok (.tableswitch 183 0 12 #[68, 73, 78, 83, 88, 93, 98, 127, 158, 163, 168, 173, 178], 68) := by decide +kernel
theorem dX12_count_80 : decode cX12_count 80 = .ok (.ireturn, 1) := by decide +kernel
theorem dX12_count_81 : decode cX12_count 81 = .ok (.aload_n 0, 1) := by decide +kernel
theorem dX12_count_82 : decode cX12_count 82 = .ok (.getfield 142, 3) := by decide +kernel
theorem dX12_count_85 : decode cX12_count 85 = .ok (.ireturn, 1) := by decide +kernel
theorem dX12_count_86 : decode cX12_count 86 = .ok (.aload_n 0, 1) := by decide +kernel
theorem dX12_count_87 : decode cX12_count 87 = .ok (.getfield 149, 3) := by decide +kernel
theorem dX12_count_90 : decode cX12_count 90 = .ok (.ireturn, 1) := by decide +kernel
theorem dX12_count_91 : decode cX12_count 91 = .ok (.aload_n 0, 1) := by decide +kernel
theorem dX12_count_92 : decode cX12_count 92 = .ok (.getfield 248, 3) := by decide +kernel
theorem dX12_count_95 : decode cX12_count 95 = .ok (.ireturn, 1) := by decide +kernel
theorem dX12_count_96 : decode cX12_count 96 = .ok (.aload_n 0, 1) := by decide +kernel
theorem dX12_count_97 : decode cX12_count 97 = .ok (.getfield 321, 3) := by decide +kernel
theorem dX12_earns_0 : decode cX12_earns 0 = .ok (.aload_n 0, 1) := by decide +kernel
theorem dX12_earns_1 : decode cX12_earns 1 = .ok (.iconst 0, 1) := by decide +kernel
theorem dX12_earns_10 : decode cX12_earns 10 = .ok (.ifCond .eq 13, 3) := by decide +kernel
theorem dX12_earns_100 : decode cX12_earns 100 = .ok (.ireturn, 1) := by decide +kernel
theorem dX12_earns_13 : decode cX12_earns 13 = .ok (.iload_n 2, 1) := by decide +kernel
theorem dX12_earns_14 : decode cX12_earns 14 = .ok (.iconst (-1), 1) := by decide +kernel
theorem dX12_earns_15 : decode cX12_earns 15 = .ok (.bipush 9, 2) := by decide +kernel
theorem dX12_earns_17 : decode cX12_earns 17 = .ok (.invokestatic 145, 3) := by decide +kernel
theorem dX12_earns_2 : decode cX12_earns 2 = .ok (.putfield 139, 3) := by decide +kernel
theorem dX12_earns_20 : decode cX12_earns 20 = .ok (.ifCond .ne 8, 3) := by decide +kernel
theorem dX12_earns_23 : decode cX12_earns 23 = .ok (.aload_n 0, 1) := by decide +kernel
theorem dX12_earns_24 : decode cX12_earns 24 = .ok (.invokevirtual 312, 3) := by decide +kernel
theorem dX12_earns_27 : decode cX12_earns 27 = .ok (.ireturn, 1) := by decide +kernel
theorem dX12_earns_28 : decode cX12_earns 28 = .ok (.iconst 0, 1) := by decide +kernel
theorem dX12_earns_29 : decode cX12_earns 29 = .ok (.istore_n 3, 1) := by decide +kernel
theorem dX12_earns_30 : decode cX12_earns 30 = .ok (.iconst 0, 1) := by decide +kernel
theorem dX12_earns_31 : decode cX12_earns 31 = .ok (.istore 4, 2) := by decide +kernel
theorem dX12_earns_33 : decode cX12_earns 33 = .ok (.iload 4, 2) := by decide +kernel
theorem dX12_earns_35 : decode cX12_earns 35 = .ok (.aload_n 0, 1) := by decide +kernel
theorem dX12_earns_36 : decode cX12_earns 36 = .ok (.getfield 149, 3) := by decide +kernel
theorem dX12_earns_39 : decode cX12_earns 39 = .ok (.if_icmp .ge 60, 3) := by decide +kernel
theorem dX12_earns_42 : decode cX12_earns 42 = .ok (.aload_n 0, 1) := by decide +kernel
theorem dX12_earns_43 : decode cX12_earns 43 = .ok (.iload 4, 2) := by decide +kernel
theorem dX12_earns_45 : decode cX12_earns 45 = .ok (.iconst 0, 1) := by decide +kernel
theorem dX12_earns_46 : decode cX12_earns 46 = .ok (.invokevirtual 261, 3) := by decide +kernel
theorem dX12_earns_49 : decode cX12_earns 49 = .ok (.iload_n 1, 1) := by decide +kernel
theorem dX12_earns_5 : decode cX12_earns 5 = .ok (.aload_n 0, 1) := by decide +kernel
theorem dX12_earns_50 : decode cX12_earns 50 = .ok (.if_icmp .ne 43, 3) := by decide +kernel
theorem dX12_earns_53 : decode cX12_earns 53 = .ok (.aload_n 0, 1) := by decide +kernel
theorem dX12_earns_54 : decode cX12_earns 54 = .ok (.iload 4, 2) := by decide +kernel
theorem dX12_earns_56 : decode cX12_earns 56 = .ok (.iconst 2, 1) := by decide +kernel
theorem dX12_earns_57 : decode cX12_earns 57 = .ok (.invokevirtual 261, 3) := by decide +kernel
theorem dX12_earns_6 : decode cX12_earns 6 = .ok (.iload_n 1, 1) := by decide +kernel
theorem dX12_earns_60 : decode cX12_earns 60 = .ok (.iconst (-1), 1) := by decide +kernel
theorem dX12_earns_61 : decode cX12_earns 61 = .ok (.if_icmp .eq 32, 3) := by decide +kernel
theorem dX12_earns_64 : decode cX12_earns 64 = .ok (.iload_n 2, 1) := by decide +kernel
theorem dX12_earns_65 : decode cX12_earns 65 = .ok (.iconst (-1), 1) := by decide +kernel
theorem dX12_earns_66 : decode cX12_earns 66 = .ok (.if_icmp .eq 18, 3) := by decide +kernel
theorem dX12_earns_69 : decode cX12_earns 69 = .ok (.aload_n 0, 1) := by decide +kernel
theorem dX12_earns_7 : decode cX12_earns 7 = .ok (.invokevirtual 160, 3) := by decide +kernel
theorem dX12_earns_70 : decode cX12_earns 70 = .ok (.iload 4, 2) := by decide +kernel
theorem dX12_earns_72 : decode cX12_earns 72 = .ok (.iconst 2, 1) := by decide +kernel
theorem dX12_earns_73 : decode cX12_earns 73 = .ok (.invokevirtual 261, 3) := by decide +kernel
theorem dX12_earns_76 : decode cX12_earns 76 = .ok (.sipush 480, 3) := by decide +kernel
theorem dX12_earns_79 : decode cX12_earns 79 = .ok (.idiv, 1) := by decide +kernel
theorem dX12_earns_80 : decode cX12_earns 80 = .ok (.iload_n 2, 1) := by decide +kernel
theorem dX12_earns_81 : decode cX12_earns 81 = .ok (.if_icmp .ne 12, 3) := by decide +kernel
theorem dX12_earns_84 : decode cX12_earns 84 = .ok (.iload_n 3, 1) := by decide +kernel
theorem dX12_earns_85 : decode cX12_earns 85 = .ok (.aload_n 0, 1) := by decide +kernel
theorem dX12_earns_86 : decode cX12_earns 86 = .ok (.iload 4, 2) := by decide +kernel
theorem dX12_earns_88 : decode cX12_earns 88 = .ok (.invokevirtual 336, 3) := by decide +kernel
theorem dX12_earns_91 : decode cX12_earns 91 = .ok (.iadd, 1) := by decide +kernel
theorem dX12_earns_92 : decode cX12_earns 92 = .ok (.istore_n 3, 1) := by decide +kernel
theorem dX12_earns_93 : decode cX12_earns 93 = .ok (.iinc 4 1, 3) := by decide +kernel
theorem dX12_earns_96 : decode cX12_earns 96 = .ok (.goto (-63), 3) := by decide +kernel
theorem dX12_earns_99 : decode cX12_earns 99 = .ok (.iload_n 3, 1) := by decide +kernel
theorem dX12_faultOf_0 : decode cX12_faultOf 0 = .ok (.iconst 0, 1) := by decide +kernel
theorem dX12_faultOf_1 : decode cX12_faultOf 1 = .ok (.istore_n 2, 1) := by decide +kernel
theorem dX12_faultOf_11 : decode cX12_faultOf 11 = .ok (.iload_n 2, 1) := by decide +kernel
theorem dX12_faultOf_12 : decode cX12_faultOf 12 = .ok (.aload_n 0, 1) := by decide +kernel
theorem dX12_faultOf_13 : decode cX12_faultOf 13 = .ok (.getfield 91, 3) := by decide +kernel
theorem dX12_faultOf_16 : decode cX12_faultOf 16 = .ok (.iconst 3, 1) := by decide +kernel
theorem dX12_faultOf_17 : decode cX12_faultOf 17 = .ok (.iload_n 1, 1) := by decide +kernel
theorem dX12_faultOf_18 : decode cX12_faultOf 18 = .ok (.imul, 1) := by decide +kernel
theorem dX12_faultOf_19 : decode cX12_faultOf 19 = .ok (.iload_n 2, 1) := by decide +kernel
theorem dX12_faultOf_2 : decode cX12_faultOf 2 = .ok (.iload_n 2, 1) := by decide +kernel
theorem dX12_faultOf_20 : decode cX12_faultOf 20 = .ok (.iadd, 1) := by decide +kernel
theorem dX12_faultOf_21 : decode cX12_faultOf 21 = .ok (.iaload, 1) := by decide +kernel
theorem dX12_faultOf_22 : decode cX12_faultOf 22 = .ok (.iastore, 1) := by decide +kernel
theorem dX12_faultOf_23 : decode cX12_faultOf 23 = .ok (.iinc 2 1, 3) := by decide +kernel
theorem dX12_faultOf_26 : decode cX12_faultOf 26 = .ok (.goto (-24), 3) := by decide +kernel
theorem dX12_faultOf_29 : decode cX12_faultOf 29 = .ok (.aload_n 0, 1) := by decide +kernel
theorem dX12_faultOf_3 : decode cX12_faultOf 3 = .ok (.iconst 3, 1) := by decide +kernel
theorem dX12_faultOf_30 : decode cX12_faultOf 30 = .ok (.getfield 116, 3) := by decide +kernel
theorem dX12_faultOf_33 : decode cX12_faultOf 33 = .ok (.iconst 3, 1) := by decide +kernel
theorem dX12_faultOf_34 : decode cX12_faultOf 34 = .ok (.aload_n 0, 1) := by decide +kernel
theorem dX12_faultOf_35 : decode cX12_faultOf 35 = .ok (.aload_n 0, 1) := by decide +kernel
theorem dX12_faultOf_36 : decode cX12_faultOf 36 = .ok (.getfield 82, 3) := by decide +kernel
theorem dX12_faultOf_39 : decode cX12_faultOf 39 = .ok (.iload_n 1, 1) := by decide +kernel
theorem dX12_faultOf_4 : decode cX12_faultOf 4 = .ok (.if_icmp .ge 25, 3) := by decide +kernel
theorem dX12_faultOf_40 : decode cX12_faultOf 40 = .ok (.iaload, 1) := by decide +kernel
theorem dX12_faultOf_41 : decode cX12_faultOf 41 = .ok (.iconst 4, 1) := by decide +kernel
theorem dX12_faultOf_42 : decode cX12_faultOf 42 = .ok (.invokevirtual 261, 3) := by decide +kernel
theorem dX12_faultOf_45 : decode cX12_faultOf 45 = .ok (.iastore, 1) := by decide +kernel
theorem dX12_faultOf_46 : decode cX12_faultOf 46 = .ok (.aload_n 0, 1) := by decide +kernel
theorem dX12_faultOf_47 : decode cX12_faultOf 47 = .ok (.iconst 2, 1) := by decide +kernel
theorem dX12_faultOf_48 : decode cX12_faultOf 48 = .ok (.aload_n 0, 1) := by decide +kernel
theorem dX12_faultOf_49 : decode cX12_faultOf 49 = .ok (.getfield 85, 3) := by decide +kernel
theorem dX12_faultOf_52 : decode cX12_faultOf 52 = .ok (.iload_n 1, 1) := by decide +kernel
theorem dX12_faultOf_53 : decode cX12_faultOf 53 = .ok (.iaload, 1) := by decide +kernel
theorem dX12_faultOf_54 : decode cX12_faultOf 54 = .ok (.invokevirtual 278, 3) := by decide +kernel
theorem dX12_faultOf_57 : decode cX12_faultOf 57 = .ok (.istore_n 2, 1) := by decide +kernel
theorem dX12_faultOf_58 : decode cX12_faultOf 58 = .ok (.iload_n 2, 1) := by decide +kernel
theorem dX12_faultOf_59 : decode cX12_faultOf 59 = .ok (.iconst 1, 1) := by decide +kernel
theorem dX12_faultOf_60 : decode cX12_faultOf 60 = .ok (.if_icmp .eq 8, 3) := by decide +kernel
theorem dX12_faultOf_63 : decode cX12_faultOf 63 = .ok (.iload_n 2, 1) := by decide +kernel
theorem dX12_faultOf_64 : decode cX12_faultOf 64 = .ok (.iconst 2, 1) := by decide +kernel
theorem dX12_faultOf_65 : decode cX12_faultOf 65 = .ok (.if_icmp .ne 7, 3) := by decide +kernel
theorem dX12_faultOf_68 : decode cX12_faultOf 68 = .ok (.iload_n 2, 1) := by decide +kernel
theorem dX12_faultOf_69 : decode cX12_faultOf 69 = .ok (.goto 4, 3) := by decide +kernel
theorem dX12_faultOf_7 : decode cX12_faultOf 7 = .ok (.aload_n 0, 1) := by decide +kernel
theorem dX12_faultOf_72 : decode cX12_faultOf 72 = .ok (.iconst 0, 1) := by decide +kernel
theorem dX12_faultOf_73 : decode cX12_faultOf 73 = .ok (.ireturn, 1) := by decide +kernel
theorem dX12_faultOf_8 : decode cX12_faultOf 8 = .ok (.getfield 116, 3) := by decide +kernel
theorem dX12_fault_0 : decode cX12_fault 0 = .ok (.aload_n 0, 1) := by decide +kernel
theorem dX12_fault_1 : decode cX12_fault 1 = .ok (.iconst 0, 1) := by decide +kernel
theorem dX12_fault_11 : decode cX12_fault 11 = .ok (.iconst 1, 1) := by decide +kernel
theorem dX12_fault_12 : decode cX12_fault 12 = .ok (.isub, 1) := by decide +kernel
theorem dX12_fault_13 : decode cX12_fault 13 = .ok (.invokestatic 145, 3) := by decide +kernel
theorem dX12_fault_16 : decode cX12_fault 16 = .ok (.ifCond .eq 19, 3) := by decide +kernel
theorem dX12_fault_19 : decode cX12_fault 19 = .ok (.aload_n 0, 1) := by decide +kernel
theorem dX12_fault_2 : decode cX12_fault 2 = .ok (.putfield 139, 3) := by decide +kernel
theorem dX12_fault_20 : decode cX12_fault 20 = .ok (.iload_n 1, 1) := by decide +kernel
theorem dX12_fault_21 : decode cX12_fault 21 = .ok (.invokevirtual 330, 3) := by decide +kernel
theorem dX12_fault_24 : decode cX12_fault 24 = .ok (.ifCond .eq 11, 3) := by decide +kernel
theorem dX12_fault_27 : decode cX12_fault 27 = .ok (.aload_n 0, 1) := by decide +kernel
theorem dX12_fault_28 : decode cX12_fault 28 = .ok (.iload_n 1, 1) := by decide +kernel
theorem dX12_fault_29 : decode cX12_fault 29 = .ok (.invokevirtual 333, 3) := by decide +kernel
theorem dX12_fault_32 : decode cX12_fault 32 = .ok (.goto 4, 3) := by decide +kernel
theorem dX12_fault_35 : decode cX12_fault 35 = .ok (.iconst (-1), 1) := by decide +kernel
theorem dX12_fault_36 : decode cX12_fault 36 = .ok (.ireturn, 1) := by decide +kernel
theorem dX12_fault_5 : decode cX12_fault 5 = .ok (.iload_n 1, 1) := by decide +kernel
theorem dX12_fault_6 : decode cX12_fault 6 = .ok (.iconst 0, 1) := by decide +kernel
theorem dX12_fault_7 : decode cX12_fault 7 = .ok (.aload_n 0, 1) := by decide +kernel
theorem dX12_fault_8 : decode cX12_fault 8 = .ok (.getfield 321, 3) := by decide +kernel
theorem dX12_faults_0 : decode cX12_faults 0 = .ok (.aload_n 0, 1) := by decide +kernel
theorem dX12_faults_1 : decode cX12_faults 1 = .ok (.iconst 0, 1) := by decide +kernel
theorem dX12_faults_10 : decode cX12_faults 10 = .ok (.ifCond .eq 12, 3) := by decide +kernel
theorem dX12_faults_13 : decode cX12_faults 13 = .ok (.iload_n 2, 1) := by decide +kernel
theorem dX12_faults_14 : decode cX12_faults 14 = .ok (.iconst 0, 1) := by decide +kernel
theorem dX12_faults_15 : decode cX12_faults 15 = .ok (.iconst 2, 1) := by decide +kernel
theorem dX12_faults_16 : decode cX12_faults 16 = .ok (.invokestatic 145, 3) := by decide +kernel
theorem dX12_faults_19 : decode cX12_faults 19 = .ok (.ifCond .ne 5, 3) := by decide +kernel
theorem dX12_faults_2 : decode cX12_faults 2 = .ok (.putfield 139, 3) := by decide +kernel
theorem dX12_faults_22 : decode cX12_faults 22 = .ok (.iconst (-1), 1) := by decide +kernel
theorem dX12_faults_23 : decode cX12_faults 23 = .ok (.ireturn, 1) := by decide +kernel
theorem dX12_faults_24 : decode cX12_faults 24 = .ok (.iconst 0, 1) := by decide +kernel
theorem dX12_faults_25 : decode cX12_faults 25 = .ok (.istore_n 3, 1) := by decide +kernel
theorem dX12_faults_26 : decode cX12_faults 26 = .ok (.iconst 0, 1) := by decide +kernel
theorem dX12_faults_27 : decode cX12_faults 27 = .ok (.istore 4, 2) := by decide +kernel
theorem dX12_faults_29 : decode cX12_faults 29 = .ok (.iload 4, 2) := by decide +kernel
theorem dX12_faults_31 : decode cX12_faults 31 = .ok (.aload_n 0, 1) := by decide +kernel
theorem dX12_faults_32 : decode cX12_faults 32 = .ok (.getfield 321, 3) := by decide +kernel
theorem dX12_faults_35 : decode cX12_faults 35 = .ok (.if_icmp .ge 47, 3) := by decide +kernel
theorem dX12_faults_38 : decode cX12_faults 38 = .ok (.aload_n 0, 1) := by decide +kernel
theorem dX12_faults_39 : decode cX12_faults 39 = .ok (.iload 4, 2) := by decide +kernel
theorem dX12_faults_41 : decode cX12_faults 41 = .ok (.invokevirtual 330, 3) := by decide +kernel
theorem dX12_faults_44 : decode cX12_faults 44 = .ok (.ifCond .eq 32, 3) := by decide +kernel
theorem dX12_faults_47 : decode cX12_faults 47 = .ok (.aload_n 0, 1) := by decide +kernel
theorem dX12_faults_48 : decode cX12_faults 48 = .ok (.aload_n 0, 1) := by decide +kernel
theorem dX12_faults_49 : decode cX12_faults 49 = .ok (.getfield 82, 3) := by decide +kernel
theorem dX12_faults_5 : decode cX12_faults 5 = .ok (.aload_n 0, 1) := by decide +kernel
theorem dX12_faults_52 : decode cX12_faults 52 = .ok (.iload 4, 2) := by decide +kernel
theorem dX12_faults_54 : decode cX12_faults 54 = .ok (.iaload, 1) := by decide +kernel
theorem dX12_faults_55 : decode cX12_faults 55 = .ok (.iconst 0, 1) := by decide +kernel
theorem dX12_faults_56 : decode cX12_faults 56 = .ok (.invokevirtual 261, 3) := by decide +kernel
theorem dX12_faults_59 : decode cX12_faults 59 = .ok (.iload_n 1, 1) := by decide +kernel
theorem dX12_faults_6 : decode cX12_faults 6 = .ok (.iload_n 1, 1) := by decide +kernel
theorem dX12_faults_60 : decode cX12_faults 60 = .ok (.if_icmp .ne 16, 3) := by decide +kernel
theorem dX12_faults_63 : decode cX12_faults 63 = .ok (.aload_n 0, 1) := by decide +kernel
theorem dX12_faults_64 : decode cX12_faults 64 = .ok (.iload 4, 2) := by decide +kernel
theorem dX12_faults_66 : decode cX12_faults 66 = .ok (.invokevirtual 333, 3) := by decide +kernel
theorem dX12_faults_69 : decode cX12_faults 69 = .ok (.iload_n 2, 1) := by decide +kernel
theorem dX12_faults_7 : decode cX12_faults 7 = .ok (.invokevirtual 160, 3) := by decide +kernel
theorem dX12_faults_70 : decode cX12_faults 70 = .ok (.if_icmp .ne 6, 3) := by decide +kernel
theorem dX12_faults_73 : decode cX12_faults 73 = .ok (.iinc 3 1, 3) := by decide +kernel
theorem dX12_faults_76 : decode cX12_faults 76 = .ok (.iinc 4 1, 3) := by decide +kernel
theorem dX12_faults_79 : decode cX12_faults 79 = .ok (.goto (-50), 3) := by decide +kernel
theorem dX12_faults_82 : decode cX12_faults 82 = .ok (.iload_n 3, 1) := by decide +kernel
theorem dX12_faults_83 : decode cX12_faults 83 = .ok (.ireturn, 1) := by decide +kernel
theorem dX12_goes_0 : decode cX12_goes 0 = .ok (.aload_n 0, 1) := by decide +kernel
theorem dX12_goes_1 : decode cX12_goes 1 = .ok (.iconst 0, 1) := by decide +kernel
theorem dX12_goes_10 : decode cX12_goes 10 = .ok (.ifCond .eq 20, 3) := by decide +kernel
theorem dX12_goes_101 : decode cX12_goes 101 = .ok (.goto (-57), 3) := by decide +kernel
theorem dX12_goes_104 : decode cX12_goes 104 = .ok (.iload_n 3, 1) := by decide +kernel
theorem dX12_goes_105 : decode cX12_goes 105 = .ok (.ireturn, 1) := by decide +kernel
theorem dX12_goes_13 : decode cX12_goes 13 = .ok (.aload_n 0, 1) := by decide +kernel
theorem dX12_goes_14 : decode cX12_goes 14 = .ok (.iload_n 1, 1) := by decide +kernel
theorem dX12_goes_15 : decode cX12_goes 15 = .ok (.iconst 2, 1) := by decide +kernel
theorem dX12_goes_16 : decode cX12_goes 16 = .ok (.invokevirtual 261, 3) := by decide +kernel
theorem dX12_goes_19 : decode cX12_goes 19 = .ok (.iconst (-1), 1) := by decide +kernel
theorem dX12_goes_2 : decode cX12_goes 2 = .ok (.putfield 139, 3) := by decide +kernel
theorem dX12_goes_20 : decode cX12_goes 20 = .ok (.if_icmp .eq 10, 3) := by decide +kernel
theorem dX12_goes_23 : decode cX12_goes 23 = .ok (.aload_n 0, 1) := by decide +kernel
theorem dX12_goes_24 : decode cX12_goes 24 = .ok (.getfield 152, 3) := by decide +kernel
theorem dX12_goes_27 : decode cX12_goes 27 = .ok (.ifCond .ne 5, 3) := by decide +kernel
theorem dX12_goes_30 : decode cX12_goes 30 = .ok (.iconst (-1), 1) := by decide +kernel
theorem dX12_goes_31 : decode cX12_goes 31 = .ok (.ireturn, 1) := by decide +kernel
theorem dX12_goes_32 : decode cX12_goes 32 = .ok (.aload_n 0, 1) := by decide +kernel
theorem dX12_goes_33 : decode cX12_goes 33 = .ok (.iload_n 1, 1) := by decide +kernel
theorem dX12_goes_34 : decode cX12_goes 34 = .ok (.iconst 2, 1) := by decide +kernel
theorem dX12_goes_35 : decode cX12_goes 35 = .ok (.invokevirtual 261, 3) := by decide +kernel
theorem dX12_goes_38 : decode cX12_goes 38 = .ok (.istore_n 2, 1) := by decide +kernel
theorem dX12_goes_39 : decode cX12_goes 39 = .ok (.iconst (-1), 1) := by decide +kernel
theorem dX12_goes_40 : decode cX12_goes 40 = .ok (.istore_n 3, 1) := by decide +kernel
theorem dX12_goes_41 : decode cX12_goes 41 = .ok (.iconst 0, 1) := by decide +kernel
theorem dX12_goes_42 : decode cX12_goes 42 = .ok (.istore 4, 2) := by decide +kernel
theorem dX12_goes_44 : decode cX12_goes 44 = .ok (.iload 4, 2) := by decide +kernel
theorem dX12_goes_46 : decode cX12_goes 46 = .ok (.aload_n 0, 1) := by decide +kernel
theorem dX12_goes_47 : decode cX12_goes 47 = .ok (.getfield 152, 3) := by decide +kernel
theorem dX12_goes_5 : decode cX12_goes 5 = .ok (.aload_n 0, 1) := by decide +kernel
theorem dX12_goes_50 : decode cX12_goes 50 = .ok (.if_icmp .ge 54, 3) := by decide +kernel
theorem dX12_goes_53 : decode cX12_goes 53 = .ok (.iload_n 2, 1) := by decide +kernel
theorem dX12_goes_54 : decode cX12_goes 54 = .ok (.sipush 480, 3) := by decide +kernel
theorem dX12_goes_57 : decode cX12_goes 57 = .ok (.idiv, 1) := by decide +kernel
theorem dX12_goes_58 : decode cX12_goes 58 = .ok (.sipush 480, 3) := by decide +kernel
theorem dX12_goes_6 : decode cX12_goes 6 = .ok (.iload_n 1, 1) := by decide +kernel
theorem dX12_goes_61 : decode cX12_goes 61 = .ok (.imul, 1) := by decide +kernel
theorem dX12_goes_62 : decode cX12_goes 62 = .ok (.aload_n 0, 1) := by decide +kernel
theorem dX12_goes_63 : decode cX12_goes 63 = .ok (.getfield 9, 3) := by decide +kernel
theorem dX12_goes_66 : decode cX12_goes 66 = .ok (.iload 4, 2) := by decide +kernel
theorem dX12_goes_68 : decode cX12_goes 68 = .ok (.iaload, 1) := by decide +kernel
theorem dX12_goes_69 : decode cX12_goes 69 = .ok (.iadd, 1) := by decide +kernel
theorem dX12_goes_7 : decode cX12_goes 7 = .ok (.invokevirtual 315, 3) := by decide +kernel
theorem dX12_goes_70 : decode cX12_goes 70 = .ok (.istore 5, 2) := by decide +kernel
theorem dX12_goes_72 : decode cX12_goes 72 = .ok (.iload 5, 2) := by decide +kernel
theorem dX12_goes_74 : decode cX12_goes 74 = .ok (.iload_n 2, 1) := by decide +kernel
theorem dX12_goes_75 : decode cX12_goes 75 = .ok (.if_icmp .ge 9, 3) := by decide +kernel
theorem dX12_goes_78 : decode cX12_goes 78 = .ok (.iinc 5 480, 6) := by decide +kernel
theorem dX12_goes_84 : decode cX12_goes 84 = .ok (.iload_n 3, 1) := by decide +kernel
theorem dX12_goes_85 : decode cX12_goes 85 = .ok (.iconst (-1), 1) := by decide +kernel
theorem dX12_goes_86 : decode cX12_goes 86 = .ok (.if_icmp .eq 9, 3) := by decide +kernel
theorem dX12_goes_89 : decode cX12_goes 89 = .ok (.iload 5, 2) := by decide +kernel
theorem dX12_goes_91 : decode cX12_goes 91 = .ok (.iload_n 3, 1) := by decide +kernel
theorem dX12_goes_92 : decode cX12_goes 92 = .ok (.if_icmp .ge 6, 3) := by decide +kernel
theorem dX12_goes_95 : decode cX12_goes 95 = .ok (.iload 5, 2) := by decide +kernel
theorem dX12_goes_97 : decode cX12_goes 97 = .ok (.istore_n 3, 1) := by decide +kernel
theorem dX12_goes_98 : decode cX12_goes 98 = .ok (.iinc 4 1, 3) := by decide +kernel
theorem dX12_isKnown_0 : decode cX12_isKnown 0 = .ok (.aload_n 0, 1) := by decide +kernel
theorem dX12_isKnown_1 : decode cX12_isKnown 1 = .ok (.getfield 85, 3) := by decide +kernel
theorem dX12_isKnown_10 : decode cX12_isKnown 10 = .ok (.if_icmp .gt 20, 3) := by decide +kernel
theorem dX12_isKnown_13 : decode cX12_isKnown 13 = .ok (.aload_n 0, 1) := by decide +kernel
theorem dX12_isKnown_14 : decode cX12_isKnown 14 = .ok (.getfield 88, 3) := by decide +kernel
theorem dX12_isKnown_17 : decode cX12_isKnown 17 = .ok (.iload_n 1, 1) := by decide +kernel
theorem dX12_isKnown_18 : decode cX12_isKnown 18 = .ok (.iaload, 1) := by decide +kernel
theorem dX12_isKnown_19 : decode cX12_isKnown 19 = .ok (.aload_n 0, 1) := by decide +kernel
theorem dX12_isKnown_20 : decode cX12_isKnown 20 = .ok (.getfield 94, 3) := by decide +kernel
theorem dX12_isKnown_23 : decode cX12_isKnown 23 = .ok (.if_icmp .le 7, 3) := by decide +kernel
theorem dX12_isKnown_26 : decode cX12_isKnown 26 = .ok (.iconst 1, 1) := by decide +kernel
theorem dX12_isKnown_27 : decode cX12_isKnown 27 = .ok (.goto 4, 3) := by decide +kernel
theorem dX12_isKnown_30 : decode cX12_isKnown 30 = .ok (.iconst 0, 1) := by decide +kernel
theorem dX12_isKnown_31 : decode cX12_isKnown 31 = .ok (.ireturn, 1) := by decide +kernel
theorem dX12_isKnown_4 : decode cX12_isKnown 4 = .ok (.iload_n 1, 1) := by decide +kernel
theorem dX12_isKnown_5 : decode cX12_isKnown 5 = .ok (.iaload, 1) := by decide +kernel
theorem dX12_isKnown_6 : decode cX12_isKnown 6 = .ok (.aload_n 0, 1) := by decide +kernel
theorem dX12_isKnown_7 : decode cX12_isKnown 7 = .ok (.getfield 94, 3) := by decide +kernel
theorem dX12_late_0 : decode cX12_late 0 = .ok (.iconst 0, 1) := by decide +kernel
theorem dX12_late_1 : decode cX12_late 1 = .ok (.aload_n 0, 1) := by decide +kernel
theorem dX12_late_11 : decode cX12_late 11 = .ok (.aload_n 0, 1) := by decide +kernel
theorem dX12_late_12 : decode cX12_late 12 = .ok (.invokevirtual 164, 3) := by decide +kernel
theorem dX12_late_15 : decode cX12_late 15 = .ok (.goto 9, 3) := by decide +kernel
theorem dX12_late_18 : decode cX12_late 18 = .ok (.aload_n 0, 1) := by decide +kernel
theorem dX12_late_19 : decode cX12_late 19 = .ok (.iload_n 1, 1) := by decide +kernel
theorem dX12_late_2 : decode cX12_late 2 = .ok (.iload_n 1, 1) := by decide +kernel
theorem dX12_late_20 : decode cX12_late 20 = .ok (.iconst 2, 1) := by decide +kernel
theorem dX12_late_21 : decode cX12_late 21 = .ok (.invokevirtual 261, 3) := by decide +kernel
theorem dX12_late_24 : decode cX12_late 24 = .ok (.aload_n 0, 1) := by decide +kernel
theorem dX12_late_25 : decode cX12_late 25 = .ok (.getfield 49, 3) := by decide +kernel
theorem dX12_late_28 : decode cX12_late 28 = .ok (.iload_n 1, 1) := by decide +kernel
theorem dX12_late_29 : decode cX12_late 29 = .ok (.iaload, 1) := by decide +kernel
theorem dX12_late_3 : decode cX12_late 3 = .ok (.iconst 2, 1) := by decide +kernel
theorem dX12_late_30 : decode cX12_late 30 = .ok (.isub, 1) := by decide +kernel
theorem dX12_late_31 : decode cX12_late 31 = .ok (.invokestatic 281, 3) := by decide +kernel
theorem dX12_late_34 : decode cX12_late 34 = .ok (.ireturn, 1) := by decide +kernel
theorem dX12_late_4 : decode cX12_late 4 = .ok (.invokevirtual 261, 3) := by decide +kernel
theorem dX12_late_7 : decode cX12_late 7 = .ok (.iconst (-1), 1) := by decide +kernel
theorem dX12_late_8 : decode cX12_late 8 = .ok (.if_icmp .ne 10, 3) := by decide +kernel
theorem dX12_lates_0 : decode cX12_lates 0 = .ok (.iconst 0, 1) := by decide +kernel
theorem dX12_lates_1 : decode cX12_lates 1 = .ok (.istore_n 1, 1) := by decide +kernel
theorem dX12_lates_12 : decode cX12_lates 12 = .ok (.aload_n 0, 1) := by decide +kernel
theorem dX12_lates_13 : decode cX12_lates 13 = .ok (.iload_n 2, 1) := by decide +kernel
theorem dX12_lates_14 : decode cX12_lates 14 = .ok (.invokevirtual 318, 3) := by decide +kernel
theorem dX12_lates_17 : decode cX12_lates 17 = .ok (.ifCond .le 6, 3) := by decide +kernel
theorem dX12_lates_2 : decode cX12_lates 2 = .ok (.iconst 0, 1) := by decide +kernel
theorem dX12_lates_20 : decode cX12_lates 20 = .ok (.iinc 1 1, 3) := by decide +kernel
theorem dX12_lates_23 : decode cX12_lates 23 = .ok (.iinc 2 1, 3) := by decide +kernel
theorem dX12_lates_26 : decode cX12_lates 26 = .ok (.goto (-22), 3) := by decide +kernel
theorem dX12_lates_29 : decode cX12_lates 29 = .ok (.iload_n 1, 1) := by decide +kernel
theorem dX12_lates_3 : decode cX12_lates 3 = .ok (.istore_n 2, 1) := by decide +kernel
theorem dX12_lates_30 : decode cX12_lates 30 = .ok (.ireturn, 1) := by decide +kernel
theorem dX12_lates_4 : decode cX12_lates 4 = .ok (.iload_n 2, 1) := by decide +kernel
theorem dX12_lates_5 : decode cX12_lates 5 = .ok (.aload_n 0, 1) := by decide +kernel
theorem dX12_lates_6 : decode cX12_lates 6 = .ok (.getfield 149, 3) := by decide +kernel
theorem dX12_lates_9 : decode cX12_lates 9 = .ok (.if_icmp .ge 20, 3) := by decide +kernel
theorem dX12_mayDo_0 : decode cX12_mayDo 0 = .ok (.aload_n 0, 1) := by decide +kernel
theorem dX12_mayDo_1 : decode cX12_mayDo 1 = .ok (.getfield 16, 3) := by decide +kernel
theorem dX12_mayDo_10 : decode cX12_mayDo 10 = .ok (.iload_n 2, 1) := by decide +kernel
theorem dX12_mayDo_11 : decode cX12_mayDo 11 = .ok (.iaload, 1) := by decide +kernel
theorem dX12_mayDo_12 : decode cX12_mayDo 12 = .ok (.ishr, 1) := by decide +kernel
theorem dX12_mayDo_13 : decode cX12_mayDo 13 = .ok (.iconst 1, 1) := by decide +kernel
theorem dX12_mayDo_14 : decode cX12_mayDo 14 = .ok (.iand, 1) := by decide +kernel
theorem dX12_mayDo_15 : decode cX12_mayDo 15 = .ok (.ifCond .ne 5, 3) := by decide +kernel
theorem dX12_mayDo_18 : decode cX12_mayDo 18 = .ok (.iconst 0, 1) := by decide +kernel
theorem dX12_mayDo_19 : decode cX12_mayDo 19 = .ok (.ireturn, 1) := by decide +kernel
theorem dX12_mayDo_20 : decode cX12_mayDo 20 = .ok (.aload_n 0, 1) := by decide +kernel
theorem dX12_mayDo_21 : decode cX12_mayDo 21 = .ok (.getfield 116, 3) := by decide +kernel
theorem dX12_mayDo_24 : decode cX12_mayDo 24 = .ok (.iconst 0, 1) := by decide +kernel
theorem dX12_mayDo_25 : decode cX12_mayDo 25 = .ok (.aload_n 0, 1) := by decide +kernel
theorem dX12_mayDo_26 : decode cX12_mayDo 26 = .ok (.getfield 40, 3) := by decide +kernel
theorem dX12_mayDo_29 : decode cX12_mayDo 29 = .ok (.iload_n 2, 1) := by decide +kernel
theorem dX12_mayDo_30 : decode cX12_mayDo 30 = .ok (.iaload, 1) := by decide +kernel
theorem dX12_mayDo_31 : decode cX12_mayDo 31 = .ok (.iastore, 1) := by decide +kernel
theorem dX12_mayDo_32 : decode cX12_mayDo 32 = .ok (.aload_n 0, 1) := by decide +kernel
theorem dX12_mayDo_33 : decode cX12_mayDo 33 = .ok (.getfield 116, 3) := by decide +kernel
theorem dX12_mayDo_36 : decode cX12_mayDo 36 = .ok (.iconst 1, 1) := by decide +kernel
theorem dX12_mayDo_37 : decode cX12_mayDo 37 = .ok (.aload_n 0, 1) := by decide +kernel
theorem dX12_mayDo_38 : decode cX12_mayDo 38 = .ok (.getfield 19, 3) := by decide +kernel
theorem dX12_mayDo_4 : decode cX12_mayDo 4 = .ok (.iload_n 1, 1) := by decide +kernel
theorem dX12_mayDo_41 : decode cX12_mayDo 41 = .ok (.iload_n 1, 1) := by decide +kernel
theorem dX12_mayDo_42 : decode cX12_mayDo 42 = .ok (.iaload, 1) := by decide +kernel
theorem dX12_mayDo_43 : decode cX12_mayDo 43 = .ok (.iastore, 1) := by decide +kernel
theorem dX12_mayDo_44 : decode cX12_mayDo 44 = .ok (.aload_n 0, 1) := by decide +kernel
theorem dX12_mayDo_45 : decode cX12_mayDo 45 = .ok (.getfield 116, 3) := by decide +kernel
theorem dX12_mayDo_48 : decode cX12_mayDo 48 = .ok (.iconst 2, 1) := by decide +kernel
theorem dX12_mayDo_49 : decode cX12_mayDo 49 = .ok (.aload_n 0, 1) := by decide +kernel
theorem dX12_mayDo_5 : decode cX12_mayDo 5 = .ok (.iaload, 1) := by decide +kernel
theorem dX12_mayDo_50 : decode cX12_mayDo 50 = .ok (.getfield 31, 3) := by decide +kernel
theorem dX12_mayDo_53 : decode cX12_mayDo 53 = .ok (.iload_n 2, 1) := by decide +kernel
theorem dX12_mayDo_54 : decode cX12_mayDo 54 = .ok (.iaload, 1) := by decide +kernel
theorem dX12_mayDo_55 : decode cX12_mayDo 55 = .ok (.iastore, 1) := by decide +kernel
theorem dX12_mayDo_56 : decode cX12_mayDo 56 = .ok (.aload_n 0, 1) := by decide +kernel
theorem dX12_mayDo_57 : decode cX12_mayDo 57 = .ok (.getfield 116, 3) := by decide +kernel
theorem dX12_mayDo_6 : decode cX12_mayDo 6 = .ok (.aload_n 0, 1) := by decide +kernel
theorem dX12_mayDo_60 : decode cX12_mayDo 60 = .ok (.iconst 3, 1) := by decide +kernel
theorem dX12_mayDo_61 : decode cX12_mayDo 61 = .ok (.iload_n 1, 1) := by decide +kernel
theorem dX12_mayDo_62 : decode cX12_mayDo 62 = .ok (.iastore, 1) := by decide +kernel
theorem dX12_mayDo_63 : decode cX12_mayDo 63 = .ok (.aload_n 0, 1) := by decide +kernel
theorem dX12_mayDo_64 : decode cX12_mayDo 64 = .ok (.iconst 1, 1) := by decide +kernel
theorem dX12_mayDo_65 : decode cX12_mayDo 65 = .ok (.aload_n 0, 1) := by decide +kernel
theorem dX12_mayDo_66 : decode cX12_mayDo 66 = .ok (.invokevirtual 164, 3) := by decide +kernel
theorem dX12_mayDo_69 : decode cX12_mayDo 69 = .ok (.sipush 480, 3) := by decide +kernel
theorem dX12_mayDo_7 : decode cX12_mayDo 7 = .ok (.getfield 34, 3) := by decide +kernel
theorem dX12_mayDo_72 : decode cX12_mayDo 72 = .ok (.idiv, 1) := by decide +kernel
theorem dX12_mayDo_73 : decode cX12_mayDo 73 = .ok (.invokevirtual 278, 3) := by decide +kernel
theorem dX12_mayDo_76 : decode cX12_mayDo 76 = .ok (.ifCond .eq 7, 3) := by decide +kernel
theorem dX12_mayDo_79 : decode cX12_mayDo 79 = .ok (.iconst 1, 1) := by decide +kernel
theorem dX12_mayDo_80 : decode cX12_mayDo 80 = .ok (.goto 4, 3) := by decide +kernel
theorem dX12_mayDo_83 : decode cX12_mayDo 83 = .ok (.iconst 0, 1) := by decide +kernel
theorem dX12_mayDo_84 : decode cX12_mayDo 84 = .ok (.ireturn, 1) := by decide +kernel
theorem dX12_may_0 : decode cX12_may 0 = .ok (.aload_n 0, 1) := by decide +kernel
theorem dX12_may_1 : decode cX12_may 1 = .ok (.iconst 0, 1) := by decide +kernel
theorem dX12_may_10 : decode cX12_may 10 = .ok (.ifCond .eq 28, 3) := by decide +kernel
theorem dX12_may_13 : decode cX12_may 13 = .ok (.aload_n 0, 1) := by decide +kernel
theorem dX12_may_14 : decode cX12_may 14 = .ok (.iload_n 2, 1) := by decide +kernel
theorem dX12_may_15 : decode cX12_may 15 = .ok (.invokevirtual 315, 3) := by decide +kernel
theorem dX12_may_18 : decode cX12_may 18 = .ok (.ifCond .eq 20, 3) := by decide +kernel
theorem dX12_may_2 : decode cX12_may 2 = .ok (.putfield 139, 3) := by decide +kernel
theorem dX12_may_21 : decode cX12_may 21 = .ok (.aload_n 0, 1) := by decide +kernel
theorem dX12_may_22 : decode cX12_may 22 = .ok (.iload_n 1, 1) := by decide +kernel
theorem dX12_may_23 : decode cX12_may 23 = .ok (.iload_n 2, 1) := by decide +kernel
theorem dX12_may_24 : decode cX12_may 24 = .ok (.invokevirtual 286, 3) := by decide +kernel
theorem dX12_may_27 : decode cX12_may 27 = .ok (.ifCond .eq 7, 3) := by decide +kernel
theorem dX12_may_30 : decode cX12_may 30 = .ok (.iconst 1, 1) := by decide +kernel
theorem dX12_may_31 : decode cX12_may 31 = .ok (.goto 8, 3) := by decide +kernel
theorem dX12_may_34 : decode cX12_may 34 = .ok (.iconst 0, 1) := by decide +kernel
theorem dX12_may_35 : decode cX12_may 35 = .ok (.goto 4, 3) := by decide +kernel
theorem dX12_may_38 : decode cX12_may 38 = .ok (.iconst (-1), 1) := by decide +kernel
theorem dX12_may_39 : decode cX12_may 39 = .ok (.ireturn, 1) := by decide +kernel
theorem dX12_may_5 : decode cX12_may 5 = .ok (.aload_n 0, 1) := by decide +kernel
theorem dX12_may_6 : decode cX12_may 6 = .ok (.iload_n 1, 1) := by decide +kernel
theorem dX12_may_7 : decode cX12_may 7 = .ok (.invokevirtual 160, 3) := by decide +kernel
theorem dX12_of_0 : decode cX12_of 0 = .ok (.aload_n 0, 1) := by decide +kernel
theorem dX12_of_1 : decode cX12_of 1 = .ok (.iconst 0, 1) := by decide +kernel
theorem dX12_of_10 : decode cX12_of 10 = .ok (.ifCond .eq 13, 3) := by decide +kernel
theorem dX12_of_102 : decode cX12_of 102 = .ok (.ireturn, 1) := by decide +kernel
theorem dX12_of_103 : decode cX12_of 103 = .ok (.aload_n 0, 1) := by decide +kernel
theorem dX12_of_104 : decode cX12_of 104 = .ok (.iload_n 1, 1) := by decide +kernel
theorem dX12_of_105 : decode cX12_of 105 = .ok (.aload_n 0, 1) := by decide +kernel
theorem dX12_of_106 : decode cX12_of 106 = .ok (.invokevirtual 164, 3) := by decide +kernel
theorem dX12_of_109 : decode cX12_of 109 = .ok (.invokevirtual 293, 3) := by decide +kernel
theorem dX12_of_112 : decode cX12_of 112 = .ok (.ifCond .eq 7, 3) := by decide +kernel
theorem dX12_of_115 : decode cX12_of 115 = .ok (.iconst 1, 1) := by decide +kernel
theorem dX12_of_116 : decode cX12_of 116 = .ok (.goto 4, 3) := by decide +kernel
theorem dX12_of_119 : decode cX12_of 119 = .ok (.iconst 0, 1) := by decide +kernel
theorem dX12_of_120 : decode cX12_of 120 = .ok (.ireturn, 1) := by decide +kernel
theorem dX12_of_121 : decode cX12_of 121 = .ok (.aload_n 0, 1) := by decide +kernel
theorem dX12_of_122 : decode cX12_of 122 = .ok (.iload_n 1, 1) := by decide +kernel
theorem dX12_of_123 : decode cX12_of 123 = .ok (.iconst 1, 1) := by decide +kernel
theorem dX12_of_124 : decode cX12_of 124 = .ok (.invokevirtual 272, 3) := by decide +kernel
theorem dX12_of_127 : decode cX12_of 127 = .ok (.ireturn, 1) := by decide +kernel
theorem dX12_of_13 : decode cX12_of 13 = .ok (.iload_n 2, 1) := by decide +kernel
theorem dX12_of_14 : decode cX12_of 14 = .ok (.iconst 0, 1) := by decide +kernel
theorem dX12_of_15 : decode cX12_of 15 = .ok (.bipush 6, 2) := by decide +kernel
theorem dX12_of_17 : decode cX12_of 17 = .ok (.invokestatic 145, 3) := by decide +kernel
theorem dX12_of_2 : decode cX12_of 2 = .ok (.putfield 139, 3) := by decide +kernel
theorem dX12_of_20 : decode cX12_of 20 = .ok (.ifCond .ne 8, 3) := by decide +kernel
theorem dX12_of_23 : decode cX12_of 23 = .ok (.aload_n 0, 1) := by decide +kernel
theorem dX12_of_24 : decode cX12_of 24 = .ok (.invokevirtual 312, 3) := by decide +kernel
theorem dX12_of_27 : decode cX12_of 27 = .ok (.ireturn, 1) := by decide +kernel
theorem dX12_of_28 : decode cX12_of 28 = .ok (.iload_n 2, 1) := by decide +kernel
theorem dX12_of_29 : decode cX12_of 29 = .ok (.tableswitch 92 0 5 #[39, 46, 53, 60, 67, 74], 39) := by decide +kernel
theorem dX12_of_5 : decode cX12_of 5 = .ok (.aload_n 0, 1) := by decide +kernel
theorem dX12_of_6 : decode cX12_of 6 = .ok (.iload_n 1, 1) := by decide +kernel
theorem dX12_of_68 : decode cX12_of 68 = .ok (.aload_n 0, 1) := by decide +kernel
theorem dX12_of_69 : decode cX12_of 69 = .ok (.iload_n 1, 1) := by decide +kernel
theorem dX12_of_7 : decode cX12_of 7 = .ok (.invokevirtual 160, 3) := by decide +kernel
theorem dX12_of_70 : decode cX12_of 70 = .ok (.iconst 0, 1) := by decide +kernel
theorem dX12_of_71 : decode cX12_of 71 = .ok (.invokevirtual 272, 3) := by decide +kernel
theorem dX12_of_74 : decode cX12_of 74 = .ok (.ireturn, 1) := by decide +kernel
theorem dX12_of_75 : decode cX12_of 75 = .ok (.aload_n 0, 1) := by decide +kernel
theorem dX12_of_76 : decode cX12_of 76 = .ok (.iload_n 1, 1) := by decide +kernel
theorem dX12_of_77 : decode cX12_of 77 = .ok (.iconst 2, 1) := by decide +kernel
theorem dX12_of_78 : decode cX12_of 78 = .ok (.invokevirtual 272, 3) := by decide +kernel
theorem dX12_of_81 : decode cX12_of 81 = .ok (.ireturn, 1) := by decide +kernel
theorem dX12_of_82 : decode cX12_of 82 = .ok (.aload_n 0, 1) := by decide +kernel
theorem dX12_of_83 : decode cX12_of 83 = .ok (.iload_n 1, 1) := by decide +kernel
theorem dX12_of_84 : decode cX12_of 84 = .ok (.iconst 3, 1) := by decide +kernel
theorem dX12_of_85 : decode cX12_of 85 = .ok (.invokevirtual 272, 3) := by decide +kernel
theorem dX12_of_88 : decode cX12_of 88 = .ok (.ireturn, 1) := by decide +kernel
theorem dX12_of_89 : decode cX12_of 89 = .ok (.aload_n 0, 1) := by decide +kernel
theorem dX12_of_90 : decode cX12_of 90 = .ok (.iload_n 1, 1) := by decide +kernel
theorem dX12_of_91 : decode cX12_of 91 = .ok (.iconst 4, 1) := by decide +kernel
theorem dX12_of_92 : decode cX12_of 92 = .ok (.invokevirtual 272, 3) := by decide +kernel
theorem dX12_of_95 : decode cX12_of 95 = .ok (.ireturn, 1) := by decide +kernel
theorem dX12_of_96 : decode cX12_of 96 = .ok (.aload_n 0, 1) := by decide +kernel
theorem dX12_of_97 : decode cX12_of 97 = .ok (.iload_n 1, 1) := by decide +kernel
theorem dX12_of_98 : decode cX12_of 98 = .ok (.iconst 5, 1) := by decide +kernel
theorem dX12_of_99 : decode cX12_of 99 = .ok (.invokevirtual 272, 3) := by decide +kernel
theorem dX12_orderOf_0 : decode cX12_orderOf 0 = .ok (.iconst 0, 1) := by decide +kernel
theorem dX12_orderOf_1 : decode cX12_orderOf 1 = .ok (.istore_n 3, 1) := by decide +kernel
theorem dX12_orderOf_100 : decode cX12_orderOf 100 = .ok (.aload_n 0, 1) := by decide +kernel
theorem dX12_orderOf_101 : decode cX12_orderOf 101 = .ok (.invokevirtual 164, 3) := by decide +kernel
theorem dX12_orderOf_104 : decode cX12_orderOf 104 = .ok (.isub, 1) := by decide +kernel
theorem dX12_orderOf_105 : decode cX12_orderOf 105 = .ok (.iastore, 1) := by decide +kernel
theorem dX12_orderOf_106 : decode cX12_orderOf 106 = .ok (.aload_n 0, 1) := by decide +kernel
theorem dX12_orderOf_107 : decode cX12_orderOf 107 = .ok (.getfield 116, 3) := by decide +kernel
theorem dX12_orderOf_11 : decode cX12_orderOf 11 = .ok (.if_icmp .ge 37, 3) := by decide +kernel
theorem dX12_orderOf_110 : decode cX12_orderOf 110 = .ok (.iconst 4, 1) := by decide +kernel
theorem dX12_orderOf_111 : decode cX12_orderOf 111 = .ok (.aload_n 0, 1) := by decide +kernel
theorem dX12_orderOf_112 : decode cX12_orderOf 112 = .ok (.getfield 40, 3) := by decide +kernel
theorem dX12_orderOf_115 : decode cX12_orderOf 115 = .ok (.iload_n 2, 1) := by decide +kernel
theorem dX12_orderOf_116 : decode cX12_orderOf 116 = .ok (.iaload, 1) := by decide +kernel
theorem dX12_orderOf_117 : decode cX12_orderOf 117 = .ok (.iastore, 1) := by decide +kernel
theorem dX12_orderOf_118 : decode cX12_orderOf 118 = .ok (.aload_n 0, 1) := by decide +kernel
theorem dX12_orderOf_119 : decode cX12_orderOf 119 = .ok (.getfield 116, 3) := by decide +kernel
theorem dX12_orderOf_122 : decode cX12_orderOf 122 = .ok (.iconst 5, 1) := by decide +kernel
theorem dX12_orderOf_123 : decode cX12_orderOf 123 = .ok (.aload_n 0, 1) := by decide +kernel
theorem dX12_orderOf_124 : decode cX12_orderOf 124 = .ok (.getfield 31, 3) := by decide +kernel
theorem dX12_orderOf_127 : decode cX12_orderOf 127 = .ok (.iload_n 2, 1) := by decide +kernel
theorem dX12_orderOf_128 : decode cX12_orderOf 128 = .ok (.iaload, 1) := by decide +kernel
theorem dX12_orderOf_129 : decode cX12_orderOf 129 = .ok (.iastore, 1) := by decide +kernel
theorem dX12_orderOf_130 : decode cX12_orderOf 130 = .ok (.aload_n 0, 1) := by decide +kernel
theorem dX12_orderOf_131 : decode cX12_orderOf 131 = .ok (.getfield 116, 3) := by decide +kernel
theorem dX12_orderOf_134 : decode cX12_orderOf 134 = .ok (.bipush 6, 2) := by decide +kernel
theorem dX12_orderOf_136 : decode cX12_orderOf 136 = .ok (.aload_n 0, 1) := by decide +kernel
theorem dX12_orderOf_137 : decode cX12_orderOf 137 = .ok (.getfield 52, 3) := by decide +kernel
theorem dX12_orderOf_14 : decode cX12_orderOf 14 = .ok (.aload_n 0, 1) := by decide +kernel
theorem dX12_orderOf_140 : decode cX12_orderOf 140 = .ok (.iload_n 2, 1) := by decide +kernel
theorem dX12_orderOf_141 : decode cX12_orderOf 141 = .ok (.iaload, 1) := by decide +kernel
theorem dX12_orderOf_142 : decode cX12_orderOf 142 = .ok (.aload_n 0, 1) := by decide +kernel
theorem dX12_orderOf_143 : decode cX12_orderOf 143 = .ok (.iload_n 1, 1) := by decide +kernel
theorem dX12_orderOf_144 : decode cX12_orderOf 144 = .ok (.iconst 2, 1) := by decide +kernel
theorem dX12_orderOf_145 : decode cX12_orderOf 145 = .ok (.invokevirtual 272, 3) := by decide +kernel
theorem dX12_orderOf_148 : decode cX12_orderOf 148 = .ok (.iconst (-1), 1) := by decide +kernel
theorem dX12_orderOf_149 : decode cX12_orderOf 149 = .ok (.ixor, 1) := by decide +kernel
theorem dX12_orderOf_15 : decode cX12_orderOf 15 = .ok (.getfield 31, 3) := by decide +kernel
theorem dX12_orderOf_150 : decode cX12_orderOf 150 = .ok (.iand, 1) := by decide +kernel
theorem dX12_orderOf_151 : decode cX12_orderOf 151 = .ok (.invokestatic 275, 3) := by decide +kernel
theorem dX12_orderOf_154 : decode cX12_orderOf 154 = .ok (.iastore, 1) := by decide +kernel
theorem dX12_orderOf_155 : decode cX12_orderOf 155 = .ok (.aload_n 0, 1) := by decide +kernel
theorem dX12_orderOf_156 : decode cX12_orderOf 156 = .ok (.getfield 116, 3) := by decide +kernel
theorem dX12_orderOf_159 : decode cX12_orderOf 159 = .ok (.bipush 7, 2) := by decide +kernel
theorem dX12_orderOf_161 : decode cX12_orderOf 161 = .ok (.iload_n 3, 1) := by decide +kernel
theorem dX12_orderOf_162 : decode cX12_orderOf 162 = .ok (.iastore, 1) := by decide +kernel
theorem dX12_orderOf_163 : decode cX12_orderOf 163 = .ok (.aload_n 0, 1) := by decide +kernel
theorem dX12_orderOf_164 : decode cX12_orderOf 164 = .ok (.iconst 0, 1) := by decide +kernel
theorem dX12_orderOf_165 : decode cX12_orderOf 165 = .ok (.aload_n 0, 1) := by decide +kernel
theorem dX12_orderOf_166 : decode cX12_orderOf 166 = .ok (.invokevirtual 164, 3) := by decide +kernel
theorem dX12_orderOf_169 : decode cX12_orderOf 169 = .ok (.sipush 480, 3) := by decide +kernel
theorem dX12_orderOf_172 : decode cX12_orderOf 172 = .ok (.idiv, 1) := by decide +kernel
theorem dX12_orderOf_173 : decode cX12_orderOf 173 = .ok (.invokevirtual 278, 3) := by decide +kernel
theorem dX12_orderOf_176 : decode cX12_orderOf 176 = .ok (.ireturn, 1) := by decide +kernel
theorem dX12_orderOf_18 : decode cX12_orderOf 18 = .ok (.iload 4, 2) := by decide +kernel
theorem dX12_orderOf_2 : decode cX12_orderOf 2 = .ok (.iconst 0, 1) := by decide +kernel
theorem dX12_orderOf_20 : decode cX12_orderOf 20 = .ok (.iaload, 1) := by decide +kernel
theorem dX12_orderOf_21 : decode cX12_orderOf 21 = .ok (.aload_n 0, 1) := by decide +kernel
theorem dX12_orderOf_22 : decode cX12_orderOf 22 = .ok (.getfield 31, 3) := by decide +kernel
theorem dX12_orderOf_25 : decode cX12_orderOf 25 = .ok (.iload_n 2, 1) := by decide +kernel
theorem dX12_orderOf_26 : decode cX12_orderOf 26 = .ok (.iaload, 1) := by decide +kernel
theorem dX12_orderOf_27 : decode cX12_orderOf 27 = .ok (.if_icmp .ne 15, 3) := by decide +kernel
theorem dX12_orderOf_3 : decode cX12_orderOf 3 = .ok (.istore 4, 2) := by decide +kernel
theorem dX12_orderOf_30 : decode cX12_orderOf 30 = .ok (.aload_n 0, 1) := by decide +kernel
theorem dX12_orderOf_31 : decode cX12_orderOf 31 = .ok (.iload 4, 2) := by decide +kernel
theorem dX12_orderOf_33 : decode cX12_orderOf 33 = .ok (.invokevirtual 269, 3) := by decide +kernel
theorem dX12_orderOf_36 : decode cX12_orderOf 36 = .ok (.ifCond .eq 6, 3) := by decide +kernel
theorem dX12_orderOf_39 : decode cX12_orderOf 39 = .ok (.iinc 3 1, 3) := by decide +kernel
theorem dX12_orderOf_42 : decode cX12_orderOf 42 = .ok (.iinc 4 1, 3) := by decide +kernel
theorem dX12_orderOf_45 : decode cX12_orderOf 45 = .ok (.goto (-40), 3) := by decide +kernel
theorem dX12_orderOf_48 : decode cX12_orderOf 48 = .ok (.aload_n 0, 1) := by decide +kernel
theorem dX12_orderOf_49 : decode cX12_orderOf 49 = .ok (.getfield 116, 3) := by decide +kernel
theorem dX12_orderOf_5 : decode cX12_orderOf 5 = .ok (.iload 4, 2) := by decide +kernel
theorem dX12_orderOf_52 : decode cX12_orderOf 52 = .ok (.iconst 0, 1) := by decide +kernel
theorem dX12_orderOf_53 : decode cX12_orderOf 53 = .ok (.aload_n 0, 1) := by decide +kernel
theorem dX12_orderOf_54 : decode cX12_orderOf 54 = .ok (.getfield 43, 3) := by decide +kernel
theorem dX12_orderOf_57 : decode cX12_orderOf 57 = .ok (.iload_n 2, 1) := by decide +kernel
theorem dX12_orderOf_58 : decode cX12_orderOf 58 = .ok (.iaload, 1) := by decide +kernel
theorem dX12_orderOf_59 : decode cX12_orderOf 59 = .ok (.iastore, 1) := by decide +kernel
theorem dX12_orderOf_60 : decode cX12_orderOf 60 = .ok (.aload_n 0, 1) := by decide +kernel
theorem dX12_orderOf_61 : decode cX12_orderOf 61 = .ok (.getfield 116, 3) := by decide +kernel
theorem dX12_orderOf_64 : decode cX12_orderOf 64 = .ok (.iconst 1, 1) := by decide +kernel
theorem dX12_orderOf_65 : decode cX12_orderOf 65 = .ok (.aload_n 0, 1) := by decide +kernel
theorem dX12_orderOf_66 : decode cX12_orderOf 66 = .ok (.invokevirtual 164, 3) := by decide +kernel
theorem dX12_orderOf_69 : decode cX12_orderOf 69 = .ok (.aload_n 0, 1) := by decide +kernel
theorem dX12_orderOf_7 : decode cX12_orderOf 7 = .ok (.aload_n 0, 1) := by decide +kernel
theorem dX12_orderOf_70 : decode cX12_orderOf 70 = .ok (.getfield 46, 3) := by decide +kernel
theorem dX12_orderOf_73 : decode cX12_orderOf 73 = .ok (.iload_n 2, 1) := by decide +kernel
theorem dX12_orderOf_74 : decode cX12_orderOf 74 = .ok (.iaload, 1) := by decide +kernel
theorem dX12_orderOf_75 : decode cX12_orderOf 75 = .ok (.isub, 1) := by decide +kernel
theorem dX12_orderOf_76 : decode cX12_orderOf 76 = .ok (.iastore, 1) := by decide +kernel
theorem dX12_orderOf_77 : decode cX12_orderOf 77 = .ok (.aload_n 0, 1) := by decide +kernel
theorem dX12_orderOf_78 : decode cX12_orderOf 78 = .ok (.getfield 116, 3) := by decide +kernel
theorem dX12_orderOf_8 : decode cX12_orderOf 8 = .ok (.getfield 149, 3) := by decide +kernel
theorem dX12_orderOf_81 : decode cX12_orderOf 81 = .ok (.iconst 2, 1) := by decide +kernel
theorem dX12_orderOf_82 : decode cX12_orderOf 82 = .ok (.aload_n 0, 1) := by decide +kernel
theorem dX12_orderOf_83 : decode cX12_orderOf 83 = .ok (.getfield 37, 3) := by decide +kernel
theorem dX12_orderOf_86 : decode cX12_orderOf 86 = .ok (.iload_n 2, 1) := by decide +kernel
theorem dX12_orderOf_87 : decode cX12_orderOf 87 = .ok (.iaload, 1) := by decide +kernel
theorem dX12_orderOf_88 : decode cX12_orderOf 88 = .ok (.iastore, 1) := by decide +kernel
theorem dX12_orderOf_89 : decode cX12_orderOf 89 = .ok (.aload_n 0, 1) := by decide +kernel
theorem dX12_orderOf_90 : decode cX12_orderOf 90 = .ok (.getfield 116, 3) := by decide +kernel
theorem dX12_orderOf_93 : decode cX12_orderOf 93 = .ok (.iconst 3, 1) := by decide +kernel
theorem dX12_orderOf_94 : decode cX12_orderOf 94 = .ok (.aload_n 0, 1) := by decide +kernel
theorem dX12_orderOf_95 : decode cX12_orderOf 95 = .ok (.getfield 49, 3) := by decide +kernel
theorem dX12_orderOf_98 : decode cX12_orderOf 98 = .ok (.iload_n 2, 1) := by decide +kernel
theorem dX12_orderOf_99 : decode cX12_orderOf 99 = .ok (.iaload, 1) := by decide +kernel
theorem dX12_order_0 : decode cX12_order 0 = .ok (.aload_n 0, 1) := by decide +kernel
theorem dX12_order_1 : decode cX12_order 1 = .ok (.iconst 0, 1) := by decide +kernel
theorem dX12_order_10 : decode cX12_order 10 = .ok (.ifCond .eq 20, 3) := by decide +kernel
theorem dX12_order_13 : decode cX12_order 13 = .ok (.aload_n 0, 1) := by decide +kernel
theorem dX12_order_14 : decode cX12_order 14 = .ok (.iload_n 2, 1) := by decide +kernel
theorem dX12_order_15 : decode cX12_order 15 = .ok (.invokevirtual 315, 3) := by decide +kernel
theorem dX12_order_18 : decode cX12_order 18 = .ok (.ifCond .eq 12, 3) := by decide +kernel
theorem dX12_order_2 : decode cX12_order 2 = .ok (.putfield 139, 3) := by decide +kernel
theorem dX12_order_21 : decode cX12_order 21 = .ok (.aload_n 0, 1) := by decide +kernel
theorem dX12_order_22 : decode cX12_order 22 = .ok (.iload_n 1, 1) := by decide +kernel
theorem dX12_order_23 : decode cX12_order 23 = .ok (.iload_n 2, 1) := by decide +kernel
theorem dX12_order_24 : decode cX12_order 24 = .ok (.invokevirtual 290, 3) := by decide +kernel
theorem dX12_order_27 : decode cX12_order 27 = .ok (.goto 7, 3) := by decide +kernel
theorem dX12_order_30 : decode cX12_order 30 = .ok (.aload_n 0, 1) := by decide +kernel
theorem dX12_order_31 : decode cX12_order 31 = .ok (.invokevirtual 312, 3) := by decide +kernel
theorem dX12_order_34 : decode cX12_order 34 = .ok (.ireturn, 1) := by decide +kernel
theorem dX12_order_5 : decode cX12_order 5 = .ok (.aload_n 0, 1) := by decide +kernel
theorem dX12_order_6 : decode cX12_order 6 = .ok (.iload_n 1, 1) := by decide +kernel
theorem dX12_order_7 : decode cX12_order 7 = .ok (.invokevirtual 160, 3) := by decide +kernel
theorem dX12_payOf_0 : decode cX12_payOf 0 = .ok (.aload_n 0, 1) := by decide +kernel
theorem dX12_payOf_1 : decode cX12_payOf 1 = .ok (.iload_n 1, 1) := by decide +kernel
theorem dX12_payOf_10 : decode cX12_payOf 10 = .ok (.iconst 0, 1) := by decide +kernel
theorem dX12_payOf_100 : decode cX12_payOf 100 = .ok (.iconst 3, 1) := by decide +kernel
theorem dX12_payOf_101 : decode cX12_payOf 101 = .ok (.aload_n 0, 1) := by decide +kernel
theorem dX12_payOf_102 : decode cX12_payOf 102 = .ok (.iload_n 1, 1) := by decide +kernel
theorem dX12_payOf_103 : decode cX12_payOf 103 = .ok (.invokevirtual 318, 3) := by decide +kernel
theorem dX12_payOf_106 : decode cX12_payOf 106 = .ok (.iastore, 1) := by decide +kernel
theorem dX12_payOf_107 : decode cX12_payOf 107 = .ok (.aload_n 0, 1) := by decide +kernel
theorem dX12_payOf_108 : decode cX12_payOf 108 = .ok (.getfield 116, 3) := by decide +kernel
theorem dX12_payOf_11 : decode cX12_payOf 11 = .ok (.ireturn, 1) := by decide +kernel
theorem dX12_payOf_111 : decode cX12_payOf 111 = .ok (.iconst 4, 1) := by decide +kernel
theorem dX12_payOf_112 : decode cX12_payOf 112 = .ok (.iload_n 2, 1) := by decide +kernel
theorem dX12_payOf_113 : decode cX12_payOf 113 = .ok (.iastore, 1) := by decide +kernel
theorem dX12_payOf_114 : decode cX12_payOf 114 = .ok (.aload_n 0, 1) := by decide +kernel
theorem dX12_payOf_115 : decode cX12_payOf 115 = .ok (.iconst 3, 1) := by decide +kernel
theorem dX12_payOf_116 : decode cX12_payOf 116 = .ok (.aload_n 0, 1) := by decide +kernel
theorem dX12_payOf_117 : decode cX12_payOf 117 = .ok (.iload_n 1, 1) := by decide +kernel
theorem dX12_payOf_118 : decode cX12_payOf 118 = .ok (.iconst 2, 1) := by decide +kernel
theorem dX12_payOf_119 : decode cX12_payOf 119 = .ok (.invokevirtual 261, 3) := by decide +kernel
theorem dX12_payOf_12 : decode cX12_payOf 12 = .ok (.iconst 0, 1) := by decide +kernel
theorem dX12_payOf_122 : decode cX12_payOf 122 = .ok (.sipush 480, 3) := by decide +kernel
theorem dX12_payOf_125 : decode cX12_payOf 125 = .ok (.idiv, 1) := by decide +kernel
theorem dX12_payOf_126 : decode cX12_payOf 126 = .ok (.invokevirtual 278, 3) := by decide +kernel
theorem dX12_payOf_129 : decode cX12_payOf 129 = .ok (.ireturn, 1) := by decide +kernel
theorem dX12_payOf_13 : decode cX12_payOf 13 = .ok (.istore_n 2, 1) := by decide +kernel
theorem dX12_payOf_14 : decode cX12_payOf 14 = .ok (.iconst 0, 1) := by decide +kernel
theorem dX12_payOf_15 : decode cX12_payOf 15 = .ok (.istore_n 3, 1) := by decide +kernel
theorem dX12_payOf_16 : decode cX12_payOf 16 = .ok (.iload_n 3, 1) := by decide +kernel
theorem dX12_payOf_17 : decode cX12_payOf 17 = .ok (.aload_n 0, 1) := by decide +kernel
theorem dX12_payOf_18 : decode cX12_payOf 18 = .ok (.getfield 321, 3) := by decide +kernel
theorem dX12_payOf_2 : decode cX12_payOf 2 = .ok (.iconst 2, 1) := by decide +kernel
theorem dX12_payOf_21 : decode cX12_payOf 21 = .ok (.if_icmp .ge 39, 3) := by decide +kernel
theorem dX12_payOf_24 : decode cX12_payOf 24 = .ok (.aload_n 0, 1) := by decide +kernel
theorem dX12_payOf_25 : decode cX12_payOf 25 = .ok (.getfield 82, 3) := by decide +kernel
theorem dX12_payOf_28 : decode cX12_payOf 28 = .ok (.iload_n 3, 1) := by decide +kernel
theorem dX12_payOf_29 : decode cX12_payOf 29 = .ok (.iaload, 1) := by decide +kernel
theorem dX12_payOf_3 : decode cX12_payOf 3 = .ok (.invokevirtual 261, 3) := by decide +kernel
theorem dX12_payOf_30 : decode cX12_payOf 30 = .ok (.iload_n 1, 1) := by decide +kernel
theorem dX12_payOf_31 : decode cX12_payOf 31 = .ok (.if_icmp .ne 23, 3) := by decide +kernel
theorem dX12_payOf_34 : decode cX12_payOf 34 = .ok (.aload_n 0, 1) := by decide +kernel
theorem dX12_payOf_35 : decode cX12_payOf 35 = .ok (.iload_n 3, 1) := by decide +kernel
theorem dX12_payOf_36 : decode cX12_payOf 36 = .ok (.invokevirtual 330, 3) := by decide +kernel
theorem dX12_payOf_39 : decode cX12_payOf 39 = .ok (.ifCond .eq 15, 3) := by decide +kernel
theorem dX12_payOf_42 : decode cX12_payOf 42 = .ok (.aload_n 0, 1) := by decide +kernel
theorem dX12_payOf_43 : decode cX12_payOf 43 = .ok (.iload_n 3, 1) := by decide +kernel
theorem dX12_payOf_44 : decode cX12_payOf 44 = .ok (.invokevirtual 333, 3) := by decide +kernel
theorem dX12_payOf_47 : decode cX12_payOf 47 = .ok (.iconst 1, 1) := by decide +kernel
theorem dX12_payOf_48 : decode cX12_payOf 48 = .ok (.if_icmp .ne 6, 3) := by decide +kernel
theorem dX12_payOf_51 : decode cX12_payOf 51 = .ok (.iinc 2 1, 3) := by decide +kernel
theorem dX12_payOf_54 : decode cX12_payOf 54 = .ok (.iinc 3 1, 3) := by decide +kernel
theorem dX12_payOf_57 : decode cX12_payOf 57 = .ok (.goto (-41), 3) := by decide +kernel
theorem dX12_payOf_6 : decode cX12_payOf 6 = .ok (.iconst (-1), 1) := by decide +kernel
theorem dX12_payOf_60 : decode cX12_payOf 60 = .ok (.aload_n 0, 1) := by decide +kernel
theorem dX12_payOf_61 : decode cX12_payOf 61 = .ok (.getfield 116, 3) := by decide +kernel
theorem dX12_payOf_64 : decode cX12_payOf 64 = .ok (.iconst 0, 1) := by decide +kernel
theorem dX12_payOf_65 : decode cX12_payOf 65 = .ok (.aload_n 0, 1) := by decide +kernel
theorem dX12_payOf_66 : decode cX12_payOf 66 = .ok (.getfield 37, 3) := by decide +kernel
theorem dX12_payOf_69 : decode cX12_payOf 69 = .ok (.iload_n 1, 1) := by decide +kernel
theorem dX12_payOf_7 : decode cX12_payOf 7 = .ok (.if_icmp .ne 5, 3) := by decide +kernel
theorem dX12_payOf_70 : decode cX12_payOf 70 = .ok (.iaload, 1) := by decide +kernel
theorem dX12_payOf_71 : decode cX12_payOf 71 = .ok (.iastore, 1) := by decide +kernel
theorem dX12_payOf_72 : decode cX12_payOf 72 = .ok (.aload_n 0, 1) := by decide +kernel
theorem dX12_payOf_73 : decode cX12_payOf 73 = .ok (.getfield 116, 3) := by decide +kernel
theorem dX12_payOf_76 : decode cX12_payOf 76 = .ok (.iconst 1, 1) := by decide +kernel
theorem dX12_payOf_77 : decode cX12_payOf 77 = .ok (.aload_n 0, 1) := by decide +kernel
theorem dX12_payOf_78 : decode cX12_payOf 78 = .ok (.getfield 55, 3) := by decide +kernel
theorem dX12_payOf_81 : decode cX12_payOf 81 = .ok (.iload_n 1, 1) := by decide +kernel
theorem dX12_payOf_82 : decode cX12_payOf 82 = .ok (.iaload, 1) := by decide +kernel
theorem dX12_payOf_83 : decode cX12_payOf 83 = .ok (.iastore, 1) := by decide +kernel
theorem dX12_payOf_84 : decode cX12_payOf 84 = .ok (.aload_n 0, 1) := by decide +kernel
theorem dX12_payOf_85 : decode cX12_payOf 85 = .ok (.getfield 116, 3) := by decide +kernel
theorem dX12_payOf_88 : decode cX12_payOf 88 = .ok (.iconst 2, 1) := by decide +kernel
theorem dX12_payOf_89 : decode cX12_payOf 89 = .ok (.aload_n 0, 1) := by decide +kernel
theorem dX12_payOf_90 : decode cX12_payOf 90 = .ok (.getfield 40, 3) := by decide +kernel
theorem dX12_payOf_93 : decode cX12_payOf 93 = .ok (.iload_n 1, 1) := by decide +kernel
theorem dX12_payOf_94 : decode cX12_payOf 94 = .ok (.iaload, 1) := by decide +kernel
theorem dX12_payOf_95 : decode cX12_payOf 95 = .ok (.iastore, 1) := by decide +kernel
theorem dX12_payOf_96 : decode cX12_payOf 96 = .ok (.aload_n 0, 1) := by decide +kernel
theorem dX12_payOf_97 : decode cX12_payOf 97 = .ok (.getfield 116, 3) := by decide +kernel
theorem dX12_pay_0 : decode cX12_pay 0 = .ok (.aload_n 0, 1) := by decide +kernel
theorem dX12_pay_1 : decode cX12_pay 1 = .ok (.iconst 0, 1) := by decide +kernel
theorem dX12_pay_10 : decode cX12_pay 10 = .ok (.ifCond .eq 11, 3) := by decide +kernel
theorem dX12_pay_13 : decode cX12_pay 13 = .ok (.aload_n 0, 1) := by decide +kernel
theorem dX12_pay_14 : decode cX12_pay 14 = .ok (.iload_n 1, 1) := by decide +kernel
theorem dX12_pay_15 : decode cX12_pay 15 = .ok (.invokevirtual 336, 3) := by decide +kernel
theorem dX12_pay_18 : decode cX12_pay 18 = .ok (.goto 7, 3) := by decide +kernel
theorem dX12_pay_2 : decode cX12_pay 2 = .ok (.putfield 139, 3) := by decide +kernel
theorem dX12_pay_21 : decode cX12_pay 21 = .ok (.aload_n 0, 1) := by decide +kernel
theorem dX12_pay_22 : decode cX12_pay 22 = .ok (.invokevirtual 312, 3) := by decide +kernel
theorem dX12_pay_25 : decode cX12_pay 25 = .ok (.ireturn, 1) := by decide +kernel
theorem dX12_pay_5 : decode cX12_pay 5 = .ok (.aload_n 0, 1) := by decide +kernel
theorem dX12_pay_6 : decode cX12_pay 6 = .ok (.iload_n 1, 1) := by decide +kernel
theorem dX12_pay_7 : decode cX12_pay 7 = .ok (.invokevirtual 315, 3) := by decide +kernel
theorem dX12_quick_0 : decode cX12_quick 0 = .ok (.aload_n 0, 1) := by decide +kernel
theorem dX12_quick_1 : decode cX12_quick 1 = .ok (.iconst 0, 1) := by decide +kernel
theorem dX12_quick_10 : decode cX12_quick 10 = .ok (.ifCond .eq 21, 3) := by decide +kernel
theorem dX12_quick_100 : decode cX12_quick 100 = .ok (.bipush 60, 2) := by decide +kernel
theorem dX12_quick_102 : decode cX12_quick 102 = .ok (.idiv, 1) := by decide +kernel
theorem dX12_quick_103 : decode cX12_quick 103 = .ok (.iadd, 1) := by decide +kernel
theorem dX12_quick_104 : decode cX12_quick 104 = .ok (.istore_n 3, 1) := by decide +kernel
theorem dX12_quick_105 : decode cX12_quick 105 = .ok (.iinc 4 1, 3) := by decide +kernel
theorem dX12_quick_108 : decode cX12_quick 108 = .ok (.goto (-49), 3) := by decide +kernel
theorem dX12_quick_111 : decode cX12_quick 111 = .ok (.iload_n 3, 1) := by decide +kernel
theorem dX12_quick_112 : decode cX12_quick 112 = .ok (.sipush 1000, 3) := by decide +kernel
theorem dX12_quick_115 : decode cX12_quick 115 = .ok (.imul, 1) := by decide +kernel
theorem dX12_quick_116 : decode cX12_quick 116 = .ok (.aload_n 0, 1) := by decide +kernel
theorem dX12_quick_117 : decode cX12_quick 117 = .ok (.iload_n 1, 1) := by decide +kernel
theorem dX12_quick_118 : decode cX12_quick 118 = .ok (.iconst 3, 1) := by decide +kernel
theorem dX12_quick_119 : decode cX12_quick 119 = .ok (.invokevirtual 272, 3) := by decide +kernel
theorem dX12_quick_122 : decode cX12_quick 122 = .ok (.idiv, 1) := by decide +kernel
theorem dX12_quick_123 : decode cX12_quick 123 = .ok (.ireturn, 1) := by decide +kernel
theorem dX12_quick_13 : decode cX12_quick 13 = .ok (.iload_n 2, 1) := by decide +kernel
theorem dX12_quick_14 : decode cX12_quick 14 = .ok (.iconst 0, 1) := by decide +kernel
theorem dX12_quick_15 : decode cX12_quick 15 = .ok (.iconst 1, 1) := by decide +kernel
theorem dX12_quick_16 : decode cX12_quick 16 = .ok (.invokestatic 145, 3) := by decide +kernel
theorem dX12_quick_19 : decode cX12_quick 19 = .ok (.ifCond .eq 12, 3) := by decide +kernel
theorem dX12_quick_2 : decode cX12_quick 2 = .ok (.putfield 139, 3) := by decide +kernel
theorem dX12_quick_22 : decode cX12_quick 22 = .ok (.aload_n 0, 1) := by decide +kernel
theorem dX12_quick_23 : decode cX12_quick 23 = .ok (.iload_n 1, 1) := by decide +kernel
theorem dX12_quick_24 : decode cX12_quick 24 = .ok (.iconst 3, 1) := by decide +kernel
theorem dX12_quick_25 : decode cX12_quick 25 = .ok (.invokevirtual 272, 3) := by decide +kernel
theorem dX12_quick_28 : decode cX12_quick 28 = .ok (.ifCond .ne 5, 3) := by decide +kernel
theorem dX12_quick_31 : decode cX12_quick 31 = .ok (.iconst (-1), 1) := by decide +kernel
theorem dX12_quick_32 : decode cX12_quick 32 = .ok (.ireturn, 1) := by decide +kernel
theorem dX12_quick_33 : decode cX12_quick 33 = .ok (.iload_n 2, 1) := by decide +kernel
theorem dX12_quick_34 : decode cX12_quick 34 = .ok (.ifCond .ne 20, 3) := by decide +kernel
theorem dX12_quick_37 : decode cX12_quick 37 = .ok (.aload_n 0, 1) := by decide +kernel
theorem dX12_quick_38 : decode cX12_quick 38 = .ok (.iload_n 1, 1) := by decide +kernel
theorem dX12_quick_39 : decode cX12_quick 39 = .ok (.iconst 4, 1) := by decide +kernel
theorem dX12_quick_40 : decode cX12_quick 40 = .ok (.invokevirtual 272, 3) := by decide +kernel
theorem dX12_quick_43 : decode cX12_quick 43 = .ok (.bipush 60, 2) := by decide +kernel
theorem dX12_quick_45 : decode cX12_quick 45 = .ok (.imul, 1) := by decide +kernel
theorem dX12_quick_46 : decode cX12_quick 46 = .ok (.aload_n 0, 1) := by decide +kernel
theorem dX12_quick_47 : decode cX12_quick 47 = .ok (.iload_n 1, 1) := by decide +kernel
theorem dX12_quick_48 : decode cX12_quick 48 = .ok (.iconst 3, 1) := by decide +kernel
theorem dX12_quick_49 : decode cX12_quick 49 = .ok (.invokevirtual 272, 3) := by decide +kernel
theorem dX12_quick_5 : decode cX12_quick 5 = .ok (.aload_n 0, 1) := by decide +kernel
theorem dX12_quick_52 : decode cX12_quick 52 = .ok (.idiv, 1) := by decide +kernel
theorem dX12_quick_53 : decode cX12_quick 53 = .ok (.ireturn, 1) := by decide +kernel
theorem dX12_quick_54 : decode cX12_quick 54 = .ok (.iconst 0, 1) := by decide +kernel
theorem dX12_quick_55 : decode cX12_quick 55 = .ok (.istore_n 3, 1) := by decide +kernel
theorem dX12_quick_56 : decode cX12_quick 56 = .ok (.iconst 0, 1) := by decide +kernel
theorem dX12_quick_57 : decode cX12_quick 57 = .ok (.istore 4, 2) := by decide +kernel
theorem dX12_quick_59 : decode cX12_quick 59 = .ok (.iload 4, 2) := by decide +kernel
theorem dX12_quick_6 : decode cX12_quick 6 = .ok (.iload_n 1, 1) := by decide +kernel
theorem dX12_quick_61 : decode cX12_quick 61 = .ok (.aload_n 0, 1) := by decide +kernel
theorem dX12_quick_62 : decode cX12_quick 62 = .ok (.getfield 149, 3) := by decide +kernel
theorem dX12_quick_65 : decode cX12_quick 65 = .ok (.if_icmp .ge 46, 3) := by decide +kernel
theorem dX12_quick_68 : decode cX12_quick 68 = .ok (.aload_n 0, 1) := by decide +kernel
theorem dX12_quick_69 : decode cX12_quick 69 = .ok (.iload 4, 2) := by decide +kernel
theorem dX12_quick_7 : decode cX12_quick 7 = .ok (.invokevirtual 160, 3) := by decide +kernel
theorem dX12_quick_71 : decode cX12_quick 71 = .ok (.iconst 0, 1) := by decide +kernel
theorem dX12_quick_72 : decode cX12_quick 72 = .ok (.invokevirtual 261, 3) := by decide +kernel
theorem dX12_quick_75 : decode cX12_quick 75 = .ok (.iload_n 1, 1) := by decide +kernel
theorem dX12_quick_76 : decode cX12_quick 76 = .ok (.if_icmp .ne 29, 3) := by decide +kernel
theorem dX12_quick_79 : decode cX12_quick 79 = .ok (.aload_n 0, 1) := by decide +kernel
theorem dX12_quick_80 : decode cX12_quick 80 = .ok (.iload 4, 2) := by decide +kernel
theorem dX12_quick_82 : decode cX12_quick 82 = .ok (.iconst 2, 1) := by decide +kernel
theorem dX12_quick_83 : decode cX12_quick 83 = .ok (.invokevirtual 261, 3) := by decide +kernel
theorem dX12_quick_86 : decode cX12_quick 86 = .ok (.iconst (-1), 1) := by decide +kernel
theorem dX12_quick_87 : decode cX12_quick 87 = .ok (.if_icmp .eq 18, 3) := by decide +kernel
theorem dX12_quick_90 : decode cX12_quick 90 = .ok (.iload_n 3, 1) := by decide +kernel
theorem dX12_quick_91 : decode cX12_quick 91 = .ok (.aload_n 0, 1) := by decide +kernel
theorem dX12_quick_92 : decode cX12_quick 92 = .ok (.iload 4, 2) := by decide +kernel
theorem dX12_quick_94 : decode cX12_quick 94 = .ok (.invokevirtual 173, 3) := by decide +kernel
theorem dX12_quick_97 : decode cX12_quick 97 = .ok (.bipush 59, 2) := by decide +kernel
theorem dX12_quick_99 : decode cX12_quick 99 = .ok (.iadd, 1) := by decide +kernel
theorem dX12_waited_0 : decode cX12_waited 0 = .ok (.iconst 0, 1) := by decide +kernel
theorem dX12_waited_1 : decode cX12_waited 1 = .ok (.istore_n 2, 1) := by decide +kernel
theorem dX12_waited_12 : decode cX12_waited 12 = .ok (.aload_n 0, 1) := by decide +kernel
theorem dX12_waited_13 : decode cX12_waited 13 = .ok (.getfield 31, 3) := by decide +kernel
theorem dX12_waited_16 : decode cX12_waited 16 = .ok (.iload_n 3, 1) := by decide +kernel
theorem dX12_waited_17 : decode cX12_waited 17 = .ok (.iaload, 1) := by decide +kernel
theorem dX12_waited_18 : decode cX12_waited 18 = .ok (.iload_n 1, 1) := by decide +kernel
theorem dX12_waited_19 : decode cX12_waited 19 = .ok (.if_icmp .ne 29, 3) := by decide +kernel
theorem dX12_waited_2 : decode cX12_waited 2 = .ok (.iconst 0, 1) := by decide +kernel
theorem dX12_waited_22 : decode cX12_waited 22 = .ok (.aload_n 0, 1) := by decide +kernel
theorem dX12_waited_23 : decode cX12_waited 23 = .ok (.iload_n 3, 1) := by decide +kernel
theorem dX12_waited_24 : decode cX12_waited 24 = .ok (.iconst 1, 1) := by decide +kernel
theorem dX12_waited_25 : decode cX12_waited 25 = .ok (.invokevirtual 261, 3) := by decide +kernel
theorem dX12_waited_28 : decode cX12_waited 28 = .ok (.iconst (-1), 1) := by decide +kernel
theorem dX12_waited_29 : decode cX12_waited 29 = .ok (.if_icmp .eq 19, 3) := by decide +kernel
theorem dX12_waited_3 : decode cX12_waited 3 = .ok (.istore_n 3, 1) := by decide +kernel
theorem dX12_waited_32 : decode cX12_waited 32 = .ok (.iload_n 2, 1) := by decide +kernel
theorem dX12_waited_33 : decode cX12_waited 33 = .ok (.aload_n 0, 1) := by decide +kernel
theorem dX12_waited_34 : decode cX12_waited 34 = .ok (.iload_n 3, 1) := by decide +kernel
theorem dX12_waited_35 : decode cX12_waited 35 = .ok (.iconst 1, 1) := by decide +kernel
theorem dX12_waited_36 : decode cX12_waited 36 = .ok (.invokevirtual 261, 3) := by decide +kernel
theorem dX12_waited_39 : decode cX12_waited 39 = .ok (.aload_n 0, 1) := by decide +kernel
theorem dX12_waited_4 : decode cX12_waited 4 = .ok (.iload_n 3, 1) := by decide +kernel
theorem dX12_waited_40 : decode cX12_waited 40 = .ok (.getfield 46, 3) := by decide +kernel
theorem dX12_waited_43 : decode cX12_waited 43 = .ok (.iload_n 3, 1) := by decide +kernel
theorem dX12_waited_44 : decode cX12_waited 44 = .ok (.iaload, 1) := by decide +kernel
theorem dX12_waited_45 : decode cX12_waited 45 = .ok (.isub, 1) := by decide +kernel
theorem dX12_waited_46 : decode cX12_waited 46 = .ok (.iadd, 1) := by decide +kernel
theorem dX12_waited_47 : decode cX12_waited 47 = .ok (.istore_n 2, 1) := by decide +kernel
theorem dX12_waited_48 : decode cX12_waited 48 = .ok (.iinc 3 1, 3) := by decide +kernel
theorem dX12_waited_5 : decode cX12_waited 5 = .ok (.aload_n 0, 1) := by decide +kernel
theorem dX12_waited_51 : decode cX12_waited 51 = .ok (.goto (-47), 3) := by decide +kernel
theorem dX12_waited_54 : decode cX12_waited 54 = .ok (.iload_n 2, 1) := by decide +kernel
theorem dX12_waited_55 : decode cX12_waited 55 = .ok (.ireturn, 1) := by decide +kernel
theorem dX12_waited_6 : decode cX12_waited 6 = .ok (.getfield 149, 3) := by decide +kernel
theorem dX12_waited_9 : decode cX12_waited 9 = .ok (.if_icmp .ge 45, 3) := by decide +kernel
theorem dX12_waits_0 : decode cX12_waits 0 = .ok (.aload_n 0, 1) := by decide +kernel
theorem dX12_waits_1 : decode cX12_waits 1 = .ok (.getfield 46, 3) := by decide +kernel
theorem dX12_waits_10 : decode cX12_waits 10 = .ok (.if_icmp .gt 17, 3) := by decide +kernel
theorem dX12_waits_13 : decode cX12_waits 13 = .ok (.aload_n 0, 1) := by decide +kernel
theorem dX12_waits_14 : decode cX12_waits 14 = .ok (.iload_n 1, 1) := by decide +kernel
theorem dX12_waits_15 : decode cX12_waits 15 = .ok (.iconst 0, 1) := by decide +kernel
theorem dX12_waits_16 : decode cX12_waits 16 = .ok (.invokevirtual 261, 3) := by decide +kernel
theorem dX12_waits_19 : decode cX12_waits 19 = .ok (.iconst (-1), 1) := by decide +kernel
theorem dX12_waits_20 : decode cX12_waits 20 = .ok (.if_icmp .ne 7, 3) := by decide +kernel
theorem dX12_waits_23 : decode cX12_waits 23 = .ok (.iconst 1, 1) := by decide +kernel
theorem dX12_waits_24 : decode cX12_waits 24 = .ok (.goto 4, 3) := by decide +kernel
theorem dX12_waits_27 : decode cX12_waits 27 = .ok (.iconst 0, 1) := by decide +kernel
theorem dX12_waits_28 : decode cX12_waits 28 = .ok (.ireturn, 1) := by decide +kernel
theorem dX12_waits_4 : decode cX12_waits 4 = .ok (.iload_n 1, 1) := by decide +kernel
theorem dX12_waits_5 : decode cX12_waits 5 = .ok (.iaload, 1) := by decide +kernel
theorem dX12_waits_6 : decode cX12_waits 6 = .ok (.aload_n 0, 1) := by decide +kernel
theorem dX12_waits_7 : decode cX12_waits 7 = .ok (.invokevirtual 164, 3) := by decide +kernel
def wo_m_openX : List Cond := [.fieldLink RX12 188 "TypingPoolModel" "signs" "[B", .fieldLink RX12 191 "TypingPoolModel" "begin" "I", .fieldLink RX12 194 "TypingPoolModel" "size" "I", .fieldLink RX12 197 "TypingPoolModel" "at" "I", .fieldLink RX12 200 "TypingPoolModel" "wrong" "I", .methodLink RX12 203 yX12_names, .static yX12_names, .initialized RX12, .fieldLink RX12 207 "TypingPoolModel" "letters" "Ljava/lang/String;"]
def wm_m_openX : List Cond := .code yX12_open cX12_open 5 none :: (wo_m_openX ++ (wsX120 ++ (wm_m_names ++ ([] : List Cond))))
theorem gd_m_openX : ∀ w ∈ wm_m_openX, goodWord w = true := gd_c rfl (gd_a (by decide) (gd_a gd_wsX120 (gd_a gd_m_names gd_nil)))
set_option maxRecDepth 20000 in
theorem im_m_openX : ∀ w ∈ wm_m_openX, w ∈ lw_tbl := im_c (in_r [.code yX12_open cX12_open 5 none] [1471] (by decide +kernel)) (in_app (in_r wo_m_openX [1283, 1284, 1285, 1286, 1287, 1472, 1473, 86, 1288] (by decide +kernel)) (in_app im_wsX120 (in_app im_m_names im_nil)))
set_option maxHeartbeats 4000000 in
set_option maxRecDepth 100000 in
theorem m_openX (l : Launch) (dC : Nat → ClassId) (dI : Nat → Nat → Nat) (ad av : Nat → Nat) (sz : Nat) (a : Nat → Nat) (k : Nat → ClassId) (τ ln : Nat → Nat) (y : Nat → Nat → Int32) (g : Nat → Nat → Option Nat) (u : Nat → Int) (p0 : Int32) (p1 : Int32) (p2 : Int32) (hI : IM a u τ y) (hW : IW (u 1) (u 2) (u 9) (y (a 89))) : Met l yX12_open wm_m_openX ({ frames := 1, cells := 0, slots := 0, locals := 60 }) (pw_ ad av (dC, dI) sz [.ref (a 50), .ref (a 71), .int p0, .int p1, .int p2] a k τ ln y g) (va_Qv (fun (_ : Unit) => True) (fun (_ : Unit) (t : State) => (∃ (y' : Nat → Nat → Int32) (g' : Nat → Nat → Option Nat), ag τ [60] y y' ∧ agg τ g g' ∧ IM a u τ y' ∧ g' (a 50) 42 = some (a 71) ∧ ltr ad (g' (a 50) 47) ∧ (y' (a 50) 43).toInt = p0.toInt ∧ (y' (a 50) 44).toInt = p1.toInt ∧ (y' (a 50) 45).toInt = 0 ∧ pk a y y' ∧ tw (dC, dI) a k τ ln y' g' t.heap)) (fr τ sz)) 0 0 (fr τ sz) := by
  refine Met.ofW (cc := cX12_open) (maxL := 5) (ret := none) (by decide) rfl ?_
  intro p e s m args below meth c s₁ B hml hv
  obtain ⟨rfl, hsz, hT, hK, hM⟩ := hv
  have hx := B.exec
  have hb := B.bytes
  have hr := B.returns
  have hts := atoms_spec (ws := wm_m_openX) B.pre
  have hown : s.vm.findClass RX12 = some m.cls := findClass_of_methodNamed B.named
  have hlocks := B.notSynchronized
  subst hsz
  generalize hAe : fr τ s.heap.size = A at hM ⊢
  have hA : ∀ q : Nat, s.heap.size ≤ q → A q := fun q h => by rw [← hAe]; exact Or.inr h
  have hF : ∀ q, τ q ≠ 0 → A q := fun q h => by rw [← hAe]; exact Or.inl h
  have hS : va_S A s.heap s.heap [] := va_S.rf
  have hX := hI.1
  have hR := im_r hI
  have hG : ag τ [60] y y := ag.rf
  have hGg : agg τ g g := agg.rf
  have hl := lv_entry ([.ref (a 50), .ref (a 71), .int p0, .int p1, .int p2]) (n := 5) (Nat.le_of_ble_eq_true rfl)
  rw [lg_entry_eq]
  generalize (lg_sl ([.ref (a 50), .ref (a 71), .int p0, .int p1, .int p2]) ++ List.replicate (5 - (lg_sl ([.ref (a 50), .ref (a 71), .int p0, .int p1, .int p2])).length) Slot.unset).toArray = ls at hl ⊢
  have hl : lv_has ls 5 [(0, .ref (a 50)), (1, .ref (a 71)), (2, .int p0), (3, .int p1), (4, .int p2)] := hl
  have hPK : pk a y y := pk_rf
  refine lv_aload_n hx hb dX12_open_0 rfl (lv_at hl 0 rfl) ?_
  refine lv_aload_n hx hb dX12_open_1 rfl (lv_at hl 1 rfl) ?_
  refine tw_putr (D := (dC, dI)) (x := (a 71)) (ty := .array .byte) (C := RX12) (T := TX12) (N := 58) hx hb hts (fun _ hh => (List.mem_cons_of_mem _ (List.mem_append_right _ (List.mem_append_left _ hh)))) tyX12 tyX12_ok nmX12 hown hK hT hF hS (fx_50 hX) (by decide) cl_e60 rfl 42 (by decide) (hts (.fieldLink RX12 188 "TypingPoolModel" "signs" "[B") (List.mem_cons_of_mem _ (List.mem_append_left _ (List.mem_of_getElem? (i := 0) rfl)))) (fun _ h9 => h9) rfl (tyX12_ok 42 (by decide)) rfl rfl (Nat.le_of_ble_eq_true rfl) rfl dX12_open_2 (fun H locs hT hS => ?_)
  obtain ⟨g_1, hg_1, hT⟩ : ∃ z : Nat → Nat → Option Nat, z = upg g (a 50) 42 (some (a 71)) ∧ tw (dC, dI) a k τ ln y z H := ⟨_, rfl, hT⟩
  have hGg : agg τ g g_1 := by rw [hg_1]; exact hGg.up (fx_50 hX)
  refine lv_aload_n hx hb dX12_open_5 rfl (lv_at hl 0 rfl) ?_
  refine lv_iload_n hx hb dX12_open_6 rfl (lv_at hl 2 rfl) ?_
  refine tw_put (D := (dC, dI)) (x := p0) (ty := .int) (C := RX12) (T := TX12) (N := 58) hx hb hts (fun _ hh => (List.mem_cons_of_mem _ (List.mem_append_right _ (List.mem_append_left _ hh)))) tyX12 tyX12_ok nmX12 hown hK hT hF hS (fx_50 hX) (by decide) cl_e60 rfl 43 (by decide) (hts (.fieldLink RX12 191 "TypingPoolModel" "begin" "I") (List.mem_cons_of_mem _ (List.mem_append_left _ (List.mem_of_getElem? (i := 1) rfl)))) (fun _ h9 => h9) rfl (tyX12_ok 43 (by decide)) rfl rfl (Nat.le_of_ble_eq_true rfl) rfl dX12_open_7 (fun H locs hT hS => ?_)
  obtain ⟨y_2, hy_2, hT⟩ : ∃ z : Nat → Nat → Int32, z = up2 y (a 50) 43 p0 ∧ tw (dC, dI) a k τ ln z g_1 H := ⟨_, rfl, hT⟩
  have hG : ag τ [60] y y_2 := by rw [hy_2]; exact hG.up (fx_50 hX) (by decide)
  have : (y_2 (a 50) 43).toInt = p0.toInt := (congrArg Int32.toInt (show y_2 (a 50) 43 = p0 from by rw [hy_2]; exact up2_i)).trans rfl
  have : (y_2 (a 50) 44).toInt = (y (a 50) 44).toInt := by rw [hy_2, up2_e (by decide)]
  have : (y_2 (a 50) 45).toInt = (y (a 50) 45).toInt := by rw [hy_2, up2_e (by decide)]
  have hPK : pk a y y_2 := by rw [hy_2]; exact hPK.up (by decide)
  have hW : IW (u 1) (u 2) (u 9) (y_2 (a 89)) := by rw [hy_2, up2_o (kd_ne (fx_89 hX) (fx_50 hX) (by decide))]; exact hW
  have hI := hI.put (f := 43) (x := p0) (by decide)
  rw [← hy_2] at hI
  refine lv_aload_n hx hb dX12_open_10 rfl (lv_at hl 0 rfl) ?_
  refine lv_iload_n hx hb dX12_open_11 rfl (lv_at hl 3 rfl) ?_
  refine tw_put (D := (dC, dI)) (x := p1) (ty := .int) (C := RX12) (T := TX12) (N := 58) hx hb hts (fun _ hh => (List.mem_cons_of_mem _ (List.mem_append_right _ (List.mem_append_left _ hh)))) tyX12 tyX12_ok nmX12 hown hK hT hF hS (fx_50 hX) (by decide) cl_e60 rfl 44 (by decide) (hts (.fieldLink RX12 194 "TypingPoolModel" "size" "I") (List.mem_cons_of_mem _ (List.mem_append_left _ (List.mem_of_getElem? (i := 2) rfl)))) (fun _ h9 => h9) rfl (tyX12_ok 44 (by decide)) rfl rfl (Nat.le_of_ble_eq_true rfl) rfl dX12_open_12 (fun H locs hT hS => ?_)
  obtain ⟨y_3, hy_3, hT⟩ : ∃ z : Nat → Nat → Int32, z = up2 y_2 (a 50) 44 p1 ∧ tw (dC, dI) a k τ ln z g_1 H := ⟨_, rfl, hT⟩
  have hG : ag τ [60] y y_3 := by rw [hy_3]; exact hG.up (fx_50 hX) (by decide)
  have : (y_3 (a 50) 43).toInt = (y_2 (a 50) 43).toInt := by rw [hy_3, up2_e (by decide)]
  have : (y_3 (a 50) 44).toInt = p1.toInt := (congrArg Int32.toInt (show y_3 (a 50) 44 = p1 from by rw [hy_3]; exact up2_i)).trans rfl
  have : (y_3 (a 50) 45).toInt = (y_2 (a 50) 45).toInt := by rw [hy_3, up2_e (by decide)]
  have hPK : pk a y y_3 := by rw [hy_3]; exact hPK.up (by decide)
  have hW : IW (u 1) (u 2) (u 9) (y_3 (a 89)) := by rw [hy_3, up2_o (kd_ne (fx_89 hX) (fx_50 hX) (by decide))]; exact hW
  have hI := hI.put (f := 44) (x := p1) (by decide)
  rw [← hy_3] at hI
  refine lv_aload_n hx hb dX12_open_15 rfl (lv_at hl 0 rfl) ?_
  refine lv_iconst (v := 0) hx hb dX12_open_16 (by decide) ?_
  refine tw_put (D := (dC, dI)) (x := 0) (ty := .int) (C := RX12) (T := TX12) (N := 58) hx hb hts (fun _ hh => (List.mem_cons_of_mem _ (List.mem_append_right _ (List.mem_append_left _ hh)))) tyX12 tyX12_ok nmX12 hown hK hT hF hS (fx_50 hX) (by decide) cl_e60 rfl 45 (by decide) (hts (.fieldLink RX12 197 "TypingPoolModel" "at" "I") (List.mem_cons_of_mem _ (List.mem_append_left _ (List.mem_of_getElem? (i := 3) rfl)))) (fun _ h9 => h9) rfl (tyX12_ok 45 (by decide)) rfl rfl (Nat.le_of_ble_eq_true rfl) rfl dX12_open_17 (fun H locs hT hS => ?_)
  obtain ⟨y_4, hy_4, hT⟩ : ∃ z : Nat → Nat → Int32, z = up2 y_3 (a 50) 45 (0 : Int32) ∧ tw (dC, dI) a k τ ln z g_1 H := ⟨_, rfl, hT⟩
  have hG : ag τ [60] y y_4 := by rw [hy_4]; exact hG.up (fx_50 hX) (by decide)
  have : (y_4 (a 50) 43).toInt = (y_3 (a 50) 43).toInt := by rw [hy_4, up2_e (by decide)]
  have : (y_4 (a 50) 44).toInt = (y_3 (a 50) 44).toInt := by rw [hy_4, up2_e (by decide)]
  have : (y_4 (a 50) 45).toInt = 0 := (congrArg Int32.toInt (show y_4 (a 50) 45 = (0 : Int32) from by rw [hy_4]; exact up2_i)).trans (zk (x := 0) 0 rfl)
  have hPK : pk a y y_4 := by rw [hy_4]; exact hPK.up (by decide)
  have hW : IW (u 1) (u 2) (u 9) (y_4 (a 89)) := by rw [hy_4, up2_o (kd_ne (fx_89 hX) (fx_50 hX) (by decide))]; exact hW
  have hI := hI.put (f := 45) (x := (0 : Int32)) (by decide)
  rw [← hy_4] at hI
  refine lv_aload_n hx hb dX12_open_20 rfl (lv_at hl 0 rfl) ?_
  refine lv_iconst (v := (-1)) hx hb dX12_open_21 (by decide) ?_
  refine tw_put (D := (dC, dI)) (x := (-1)) (ty := .int) (C := RX12) (T := TX12) (N := 58) hx hb hts (fun _ hh => (List.mem_cons_of_mem _ (List.mem_append_right _ (List.mem_append_left _ hh)))) tyX12 tyX12_ok nmX12 hown hK hT hF hS (fx_50 hX) (by decide) cl_e60 rfl 46 (by decide) (hts (.fieldLink RX12 200 "TypingPoolModel" "wrong" "I") (List.mem_cons_of_mem _ (List.mem_append_left _ (List.mem_of_getElem? (i := 4) rfl)))) (fun _ h9 => h9) rfl (tyX12_ok 46 (by decide)) rfl rfl (Nat.le_of_ble_eq_true rfl) rfl dX12_open_22 (fun H locs hT hS => ?_)
  obtain ⟨y_5, hy_5, hT⟩ : ∃ z : Nat → Nat → Int32, z = up2 y_4 (a 50) 46 (-1 : Int32) ∧ tw (dC, dI) a k τ ln z g_1 H := ⟨_, rfl, hT⟩
  have hG : ag τ [60] y y_5 := by rw [hy_5]; exact hG.up (fx_50 hX) (by decide)
  have : (y_5 (a 50) 43).toInt = (y_4 (a 50) 43).toInt := by rw [hy_5, up2_e (by decide)]
  have : (y_5 (a 50) 44).toInt = (y_4 (a 50) 44).toInt := by rw [hy_5, up2_e (by decide)]
  have : (y_5 (a 50) 45).toInt = (y_4 (a 50) 45).toInt := by rw [hy_5, up2_e (by decide)]
  have hPK : pk a y y_5 := by rw [hy_5]; exact hPK.up (by decide)
  have hW : IW (u 1) (u 2) (u 9) (y_5 (a 89)) := by rw [hy_5, up2_o (kd_ne (fx_89 hX) (fx_50 hX) (by decide))]; exact hW
  have hI := hI.put (f := 46) (x := (-1 : Int32)) (by decide)
  rw [← hy_5] at hI
  refine lv_aload_n hx hb dX12_open_25 rfl (lv_at hl 0 rfl) ?_
  refine lv_iload hx hb dX12_open_26 (lv_at hl 4 rfl) ?_
  have hFc := tw_free hF hS hA
  refine va_callr (va_runS (As := [.int p2]) (rest := [.ref (a 50)]) ⟨hx, hb, hml, hown, hts⟩ (m_names l dC dI ad av H.size a k τ ln y_5 g_1 u p2  ) (va_cwS 1 hts (gi_3 (List.mem_cons_of_mem _ (List.mem_append_left _ (List.mem_of_getElem? (i := 5) rfl))) (List.mem_cons_of_mem _ (List.mem_append_left _ (List.mem_of_getElem? (i := 6) rfl))) (List.mem_cons_of_mem _ (List.mem_append_left _ (List.mem_of_getElem? (i := 7) rfl))) (fun _ hh => (List.mem_cons_of_mem _ (List.mem_append_right _ (List.mem_append_right _ (List.mem_append_left _ hh))))) gd_m_names) rfl rfl rfl (by decide +kernel) ⟨Nat.le_of_ble_eq_true rfl, Nat.le_of_ble_eq_true rfl⟩) ⟨pw_blind, pw_use hT hK hFc hS hM⟩ rfl rfl hl.1 rfl (lv_room (Nat.le_of_ble_eq_true rfl)) dX12_open_28 ⟨Nat.le_of_ble_eq_true rfl, Nat.le_of_ble_eq_true rfl⟩) hS (fun q _ h => hFc q h) hFc (fun u0 r_6 t H locs ht hvm hw hB hz1 hk1 hS => ?_)
  refine W.widen (k := 0) (n := 0) (Nat.le_of_ble_eq_true rfl) (Nat.le_of_ble_eq_true rfl) ?_
  clear hvm hz1 hk1
  rcases hB with ⟨hre, hT⟩ | ⟨hre, hT⟩ | ⟨hre, hT⟩ | ⟨hre, hT⟩
  · subst hre
    rw [ht] at hT
    refine tw_putr (D := (dC, dI)) (x := (ad 9)) (ty := .object "java/lang/String") (C := RX12) (T := TX12) (N := 58) hx hb hts (fun _ hh => (List.mem_cons_of_mem _ (List.mem_append_right _ (List.mem_append_left _ hh)))) tyX12 tyX12_ok nmX12 hown hK hT hF hS (fx_50 hX) (by decide) cl_e60 rfl 47 (by decide) (hts (.fieldLink RX12 207 "TypingPoolModel" "letters" "Ljava/lang/String;") (List.mem_cons_of_mem _ (List.mem_append_left _ (List.mem_of_getElem? (i := 8) rfl)))) (fun _ h9 => h9) rfl (tyX12_ok 47 (by decide)) rfl rfl (Nat.le_of_ble_eq_true rfl) rfl dX12_open_31 (fun H locs hT hS => ?_)
    obtain ⟨g_7, hg_7, hT⟩ : ∃ z : Nat → Nat → Option Nat, z = upg g_1 (a 50) 47 (some (ad 9)) ∧ tw (dC, dI) a k τ ln y_5 z H := ⟨_, rfl, hT⟩
    have hGg : agg τ g g_7 := by rw [hg_7]; exact hGg.up (fx_50 hX)
    exact W.vret hx hb hr (fun t ht hW9 => ⟨⟨(), rfl, trivial, ⟨y_5, g_7, hG, hGg, hI, by rw [hg_7, upg_e (by decide), hg_1]; exact upg_i, ⟨9, by rw [hg_7]; exact upg_i, by decide, by decide⟩, by omega, by omega, by omega, hPK, tw_at ht hT⟩⟩, hS.F ht⟩) hS.2.2 dX12_open_34
  · subst hre
    rw [ht] at hT
    refine tw_putr (D := (dC, dI)) (x := (ad 10)) (ty := .object "java/lang/String") (C := RX12) (T := TX12) (N := 58) hx hb hts (fun _ hh => (List.mem_cons_of_mem _ (List.mem_append_right _ (List.mem_append_left _ hh)))) tyX12 tyX12_ok nmX12 hown hK hT hF hS (fx_50 hX) (by decide) cl_e60 rfl 47 (by decide) (hts (.fieldLink RX12 207 "TypingPoolModel" "letters" "Ljava/lang/String;") (List.mem_cons_of_mem _ (List.mem_append_left _ (List.mem_of_getElem? (i := 8) rfl)))) (fun _ h9 => h9) rfl (tyX12_ok 47 (by decide)) rfl rfl (Nat.le_of_ble_eq_true rfl) rfl dX12_open_31 (fun H locs hT hS => ?_)
    obtain ⟨g_8, hg_8, hT⟩ : ∃ z : Nat → Nat → Option Nat, z = upg g_1 (a 50) 47 (some (ad 10)) ∧ tw (dC, dI) a k τ ln y_5 z H := ⟨_, rfl, hT⟩
    have hGg : agg τ g g_8 := by rw [hg_8]; exact hGg.up (fx_50 hX)
    exact W.vret hx hb hr (fun t ht hW9 => ⟨⟨(), rfl, trivial, ⟨y_5, g_8, hG, hGg, hI, by rw [hg_8, upg_e (by decide), hg_1]; exact upg_i, ⟨10, by rw [hg_8]; exact upg_i, by decide, by decide⟩, by omega, by omega, by omega, hPK, tw_at ht hT⟩⟩, hS.F ht⟩) hS.2.2 dX12_open_34
  · subst hre
    rw [ht] at hT
    refine tw_putr (D := (dC, dI)) (x := (ad 11)) (ty := .object "java/lang/String") (C := RX12) (T := TX12) (N := 58) hx hb hts (fun _ hh => (List.mem_cons_of_mem _ (List.mem_append_right _ (List.mem_append_left _ hh)))) tyX12 tyX12_ok nmX12 hown hK hT hF hS (fx_50 hX) (by decide) cl_e60 rfl 47 (by decide) (hts (.fieldLink RX12 207 "TypingPoolModel" "letters" "Ljava/lang/String;") (List.mem_cons_of_mem _ (List.mem_append_left _ (List.mem_of_getElem? (i := 8) rfl)))) (fun _ h9 => h9) rfl (tyX12_ok 47 (by decide)) rfl rfl (Nat.le_of_ble_eq_true rfl) rfl dX12_open_31 (fun H locs hT hS => ?_)
    obtain ⟨g_9, hg_9, hT⟩ : ∃ z : Nat → Nat → Option Nat, z = upg g_1 (a 50) 47 (some (ad 11)) ∧ tw (dC, dI) a k τ ln y_5 z H := ⟨_, rfl, hT⟩
    have hGg : agg τ g g_9 := by rw [hg_9]; exact hGg.up (fx_50 hX)
    exact W.vret hx hb hr (fun t ht hW9 => ⟨⟨(), rfl, trivial, ⟨y_5, g_9, hG, hGg, hI, by rw [hg_9, upg_e (by decide), hg_1]; exact upg_i, ⟨11, by rw [hg_9]; exact upg_i, by decide, by decide⟩, by omega, by omega, by omega, hPK, tw_at ht hT⟩⟩, hS.F ht⟩) hS.2.2 dX12_open_34
  · subst hre
    rw [ht] at hT
    refine tw_putr (D := (dC, dI)) (x := (ad 12)) (ty := .object "java/lang/String") (C := RX12) (T := TX12) (N := 58) hx hb hts (fun _ hh => (List.mem_cons_of_mem _ (List.mem_append_right _ (List.mem_append_left _ hh)))) tyX12 tyX12_ok nmX12 hown hK hT hF hS (fx_50 hX) (by decide) cl_e60 rfl 47 (by decide) (hts (.fieldLink RX12 207 "TypingPoolModel" "letters" "Ljava/lang/String;") (List.mem_cons_of_mem _ (List.mem_append_left _ (List.mem_of_getElem? (i := 8) rfl)))) (fun _ h9 => h9) rfl (tyX12_ok 47 (by decide)) rfl rfl (Nat.le_of_ble_eq_true rfl) rfl dX12_open_31 (fun H locs hT hS => ?_)
    obtain ⟨g_10, hg_10, hT⟩ : ∃ z : Nat → Nat → Option Nat, z = upg g_1 (a 50) 47 (some (ad 12)) ∧ tw (dC, dI) a k τ ln y_5 z H := ⟨_, rfl, hT⟩
    have hGg : agg τ g g_10 := by rw [hg_10]; exact hGg.up (fx_50 hX)
    exact W.vret hx hb hr (fun t ht hW9 => ⟨⟨(), rfl, trivial, ⟨y_5, g_10, hG, hGg, hI, by rw [hg_10, upg_e (by decide), hg_1]; exact upg_i, ⟨12, by rw [hg_10]; exact upg_i, by decide, by decide⟩, by omega, by omega, by omega, hPK, tw_at ht hT⟩⟩, hS.F ht⟩) hS.2.2 dX12_open_34
def wo_m_openF : List Cond := [.fieldLink RX12 188 "TypingPoolModel" "signs" "[B", .fieldLink RX12 191 "TypingPoolModel" "begin" "I", .fieldLink RX12 194 "TypingPoolModel" "size" "I", .fieldLink RX12 197 "TypingPoolModel" "at" "I", .fieldLink RX12 200 "TypingPoolModel" "wrong" "I", .methodLink RX12 203 yX12_names, .static yX12_names, .initialized RX12, .fieldLink RX12 207 "TypingPoolModel" "letters" "Ljava/lang/String;"]
def wm_m_openF : List Cond := .code yX12_open cX12_open 5 none :: (wo_m_openF ++ (wsX120 ++ (wm_m_names ++ ([] : List Cond))))
theorem gd_m_openF : ∀ w ∈ wm_m_openF, goodWord w = true := gd_c rfl (gd_a (by decide) (gd_a gd_wsX120 (gd_a gd_m_names gd_nil)))
set_option maxRecDepth 20000 in
theorem im_m_openF : ∀ w ∈ wm_m_openF, w ∈ lw_tbl := im_c (in_r [.code yX12_open cX12_open 5 none] [1471] (by decide +kernel)) (in_app (in_r wo_m_openF [1283, 1284, 1285, 1286, 1287, 1472, 1473, 86, 1288] (by decide +kernel)) (in_app im_wsX120 (in_app im_m_names im_nil)))
set_option maxHeartbeats 4000000 in
set_option maxRecDepth 100000 in
theorem m_openF (l : Launch) (dC : Nat → ClassId) (dI : Nat → Nat → Nat) (ad av : Nat → Nat) (sz : Nat) (a : Nat → Nat) (k : Nat → ClassId) (τ ln : Nat → Nat) (y : Nat → Nat → Int32) (g : Nat → Nat → Option Nat) (u : Nat → Int) (p0 : Int32) (p1 : Int32) (p2 : Int32) (hI : IM a u τ y) (hW : IW (u 1) (u 2) (u 9) (y (a 89))) : Met l yX12_open wm_m_openF ({ frames := 1, cells := 0, slots := 0, locals := 60 }) (pw_ ad av (dC, dI) sz [.ref (a 50), .ref (a 76), .int p0, .int p1, .int p2] a k τ ln y g) (va_Qv (fun (_ : Unit) => True) (fun (_ : Unit) (t : State) => (∃ (y' : Nat → Nat → Int32) (g' : Nat → Nat → Option Nat), ag τ [60] y y' ∧ agg τ g g' ∧ IM a u τ y' ∧ g' (a 50) 42 = some (a 76) ∧ ltr ad (g' (a 50) 47) ∧ (y' (a 50) 43).toInt = p0.toInt ∧ (y' (a 50) 44).toInt = p1.toInt ∧ (y' (a 50) 45).toInt = 0 ∧ pk a y y' ∧ tw (dC, dI) a k τ ln y' g' t.heap)) (fr τ sz)) 0 0 (fr τ sz) := by
  refine Met.ofW (cc := cX12_open) (maxL := 5) (ret := none) (by decide) rfl ?_
  intro p e s m args below meth c s₁ B hml hv
  obtain ⟨rfl, hsz, hT, hK, hM⟩ := hv
  have hx := B.exec
  have hb := B.bytes
  have hr := B.returns
  have hts := atoms_spec (ws := wm_m_openF) B.pre
  have hown : s.vm.findClass RX12 = some m.cls := findClass_of_methodNamed B.named
  have hlocks := B.notSynchronized
  subst hsz
  generalize hAe : fr τ s.heap.size = A at hM ⊢
  have hA : ∀ q : Nat, s.heap.size ≤ q → A q := fun q h => by rw [← hAe]; exact Or.inr h
  have hF : ∀ q, τ q ≠ 0 → A q := fun q h => by rw [← hAe]; exact Or.inl h
  have hS : va_S A s.heap s.heap [] := va_S.rf
  have hX := hI.1
  have hR := im_r hI
  have hG : ag τ [60] y y := ag.rf
  have hGg : agg τ g g := agg.rf
  have hl := lv_entry ([.ref (a 50), .ref (a 76), .int p0, .int p1, .int p2]) (n := 5) (Nat.le_of_ble_eq_true rfl)
  rw [lg_entry_eq]
  generalize (lg_sl ([.ref (a 50), .ref (a 76), .int p0, .int p1, .int p2]) ++ List.replicate (5 - (lg_sl ([.ref (a 50), .ref (a 76), .int p0, .int p1, .int p2])).length) Slot.unset).toArray = ls at hl ⊢
  have hl : lv_has ls 5 [(0, .ref (a 50)), (1, .ref (a 76)), (2, .int p0), (3, .int p1), (4, .int p2)] := hl
  have hPK : pk a y y := pk_rf
  refine lv_aload_n hx hb dX12_open_0 rfl (lv_at hl 0 rfl) ?_
  refine lv_aload_n hx hb dX12_open_1 rfl (lv_at hl 1 rfl) ?_
  refine tw_putr (D := (dC, dI)) (x := (a 76)) (ty := .array .byte) (C := RX12) (T := TX12) (N := 58) hx hb hts (fun _ hh => (List.mem_cons_of_mem _ (List.mem_append_right _ (List.mem_append_left _ hh)))) tyX12 tyX12_ok nmX12 hown hK hT hF hS (fx_50 hX) (by decide) cl_e60 rfl 42 (by decide) (hts (.fieldLink RX12 188 "TypingPoolModel" "signs" "[B") (List.mem_cons_of_mem _ (List.mem_append_left _ (List.mem_of_getElem? (i := 0) rfl)))) (fun _ h9 => h9) rfl (tyX12_ok 42 (by decide)) rfl rfl (Nat.le_of_ble_eq_true rfl) rfl dX12_open_2 (fun H locs hT hS => ?_)
  obtain ⟨g_1, hg_1, hT⟩ : ∃ z : Nat → Nat → Option Nat, z = upg g (a 50) 42 (some (a 76)) ∧ tw (dC, dI) a k τ ln y z H := ⟨_, rfl, hT⟩
  have hGg : agg τ g g_1 := by rw [hg_1]; exact hGg.up (fx_50 hX)
  refine lv_aload_n hx hb dX12_open_5 rfl (lv_at hl 0 rfl) ?_
  refine lv_iload_n hx hb dX12_open_6 rfl (lv_at hl 2 rfl) ?_
  refine tw_put (D := (dC, dI)) (x := p0) (ty := .int) (C := RX12) (T := TX12) (N := 58) hx hb hts (fun _ hh => (List.mem_cons_of_mem _ (List.mem_append_right _ (List.mem_append_left _ hh)))) tyX12 tyX12_ok nmX12 hown hK hT hF hS (fx_50 hX) (by decide) cl_e60 rfl 43 (by decide) (hts (.fieldLink RX12 191 "TypingPoolModel" "begin" "I") (List.mem_cons_of_mem _ (List.mem_append_left _ (List.mem_of_getElem? (i := 1) rfl)))) (fun _ h9 => h9) rfl (tyX12_ok 43 (by decide)) rfl rfl (Nat.le_of_ble_eq_true rfl) rfl dX12_open_7 (fun H locs hT hS => ?_)
  obtain ⟨y_2, hy_2, hT⟩ : ∃ z : Nat → Nat → Int32, z = up2 y (a 50) 43 p0 ∧ tw (dC, dI) a k τ ln z g_1 H := ⟨_, rfl, hT⟩
  have hG : ag τ [60] y y_2 := by rw [hy_2]; exact hG.up (fx_50 hX) (by decide)
  have : (y_2 (a 50) 43).toInt = p0.toInt := (congrArg Int32.toInt (show y_2 (a 50) 43 = p0 from by rw [hy_2]; exact up2_i)).trans rfl
  have : (y_2 (a 50) 44).toInt = (y (a 50) 44).toInt := by rw [hy_2, up2_e (by decide)]
  have : (y_2 (a 50) 45).toInt = (y (a 50) 45).toInt := by rw [hy_2, up2_e (by decide)]
  have hPK : pk a y y_2 := by rw [hy_2]; exact hPK.up (by decide)
  have hW : IW (u 1) (u 2) (u 9) (y_2 (a 89)) := by rw [hy_2, up2_o (kd_ne (fx_89 hX) (fx_50 hX) (by decide))]; exact hW
  have hI := hI.put (f := 43) (x := p0) (by decide)
  rw [← hy_2] at hI
  refine lv_aload_n hx hb dX12_open_10 rfl (lv_at hl 0 rfl) ?_
  refine lv_iload_n hx hb dX12_open_11 rfl (lv_at hl 3 rfl) ?_
  refine tw_put (D := (dC, dI)) (x := p1) (ty := .int) (C := RX12) (T := TX12) (N := 58) hx hb hts (fun _ hh => (List.mem_cons_of_mem _ (List.mem_append_right _ (List.mem_append_left _ hh)))) tyX12 tyX12_ok nmX12 hown hK hT hF hS (fx_50 hX) (by decide) cl_e60 rfl 44 (by decide) (hts (.fieldLink RX12 194 "TypingPoolModel" "size" "I") (List.mem_cons_of_mem _ (List.mem_append_left _ (List.mem_of_getElem? (i := 2) rfl)))) (fun _ h9 => h9) rfl (tyX12_ok 44 (by decide)) rfl rfl (Nat.le_of_ble_eq_true rfl) rfl dX12_open_12 (fun H locs hT hS => ?_)
  obtain ⟨y_3, hy_3, hT⟩ : ∃ z : Nat → Nat → Int32, z = up2 y_2 (a 50) 44 p1 ∧ tw (dC, dI) a k τ ln z g_1 H := ⟨_, rfl, hT⟩
  have hG : ag τ [60] y y_3 := by rw [hy_3]; exact hG.up (fx_50 hX) (by decide)
  have : (y_3 (a 50) 43).toInt = (y_2 (a 50) 43).toInt := by rw [hy_3, up2_e (by decide)]
  have : (y_3 (a 50) 44).toInt = p1.toInt := (congrArg Int32.toInt (show y_3 (a 50) 44 = p1 from by rw [hy_3]; exact up2_i)).trans rfl
  have : (y_3 (a 50) 45).toInt = (y_2 (a 50) 45).toInt := by rw [hy_3, up2_e (by decide)]
  have hPK : pk a y y_3 := by rw [hy_3]; exact hPK.up (by decide)
  have hW : IW (u 1) (u 2) (u 9) (y_3 (a 89)) := by rw [hy_3, up2_o (kd_ne (fx_89 hX) (fx_50 hX) (by decide))]; exact hW
  have hI := hI.put (f := 44) (x := p1) (by decide)
  rw [← hy_3] at hI
  refine lv_aload_n hx hb dX12_open_15 rfl (lv_at hl 0 rfl) ?_
  refine lv_iconst (v := 0) hx hb dX12_open_16 (by decide) ?_
  refine tw_put (D := (dC, dI)) (x := 0) (ty := .int) (C := RX12) (T := TX12) (N := 58) hx hb hts (fun _ hh => (List.mem_cons_of_mem _ (List.mem_append_right _ (List.mem_append_left _ hh)))) tyX12 tyX12_ok nmX12 hown hK hT hF hS (fx_50 hX) (by decide) cl_e60 rfl 45 (by decide) (hts (.fieldLink RX12 197 "TypingPoolModel" "at" "I") (List.mem_cons_of_mem _ (List.mem_append_left _ (List.mem_of_getElem? (i := 3) rfl)))) (fun _ h9 => h9) rfl (tyX12_ok 45 (by decide)) rfl rfl (Nat.le_of_ble_eq_true rfl) rfl dX12_open_17 (fun H locs hT hS => ?_)
  obtain ⟨y_4, hy_4, hT⟩ : ∃ z : Nat → Nat → Int32, z = up2 y_3 (a 50) 45 (0 : Int32) ∧ tw (dC, dI) a k τ ln z g_1 H := ⟨_, rfl, hT⟩
  have hG : ag τ [60] y y_4 := by rw [hy_4]; exact hG.up (fx_50 hX) (by decide)
  have : (y_4 (a 50) 43).toInt = (y_3 (a 50) 43).toInt := by rw [hy_4, up2_e (by decide)]
  have : (y_4 (a 50) 44).toInt = (y_3 (a 50) 44).toInt := by rw [hy_4, up2_e (by decide)]
  have : (y_4 (a 50) 45).toInt = 0 := (congrArg Int32.toInt (show y_4 (a 50) 45 = (0 : Int32) from by rw [hy_4]; exact up2_i)).trans (zk (x := 0) 0 rfl)
  have hPK : pk a y y_4 := by rw [hy_4]; exact hPK.up (by decide)
  have hW : IW (u 1) (u 2) (u 9) (y_4 (a 89)) := by rw [hy_4, up2_o (kd_ne (fx_89 hX) (fx_50 hX) (by decide))]; exact hW
  have hI := hI.put (f := 45) (x := (0 : Int32)) (by decide)
  rw [← hy_4] at hI
  refine lv_aload_n hx hb dX12_open_20 rfl (lv_at hl 0 rfl) ?_
  refine lv_iconst (v := (-1)) hx hb dX12_open_21 (by decide) ?_
  refine tw_put (D := (dC, dI)) (x := (-1)) (ty := .int) (C := RX12) (T := TX12) (N := 58) hx hb hts (fun _ hh => (List.mem_cons_of_mem _ (List.mem_append_right _ (List.mem_append_left _ hh)))) tyX12 tyX12_ok nmX12 hown hK hT hF hS (fx_50 hX) (by decide) cl_e60 rfl 46 (by decide) (hts (.fieldLink RX12 200 "TypingPoolModel" "wrong" "I") (List.mem_cons_of_mem _ (List.mem_append_left _ (List.mem_of_getElem? (i := 4) rfl)))) (fun _ h9 => h9) rfl (tyX12_ok 46 (by decide)) rfl rfl (Nat.le_of_ble_eq_true rfl) rfl dX12_open_22 (fun H locs hT hS => ?_)
  obtain ⟨y_5, hy_5, hT⟩ : ∃ z : Nat → Nat → Int32, z = up2 y_4 (a 50) 46 (-1 : Int32) ∧ tw (dC, dI) a k τ ln z g_1 H := ⟨_, rfl, hT⟩
  have hG : ag τ [60] y y_5 := by rw [hy_5]; exact hG.up (fx_50 hX) (by decide)
  have : (y_5 (a 50) 43).toInt = (y_4 (a 50) 43).toInt := by rw [hy_5, up2_e (by decide)]
  have : (y_5 (a 50) 44).toInt = (y_4 (a 50) 44).toInt := by rw [hy_5, up2_e (by decide)]
  have : (y_5 (a 50) 45).toInt = (y_4 (a 50) 45).toInt := by rw [hy_5, up2_e (by decide)]
  have hPK : pk a y y_5 := by rw [hy_5]; exact hPK.up (by decide)
  have hW : IW (u 1) (u 2) (u 9) (y_5 (a 89)) := by rw [hy_5, up2_o (kd_ne (fx_89 hX) (fx_50 hX) (by decide))]; exact hW
  have hI := hI.put (f := 46) (x := (-1 : Int32)) (by decide)
  rw [← hy_5] at hI
  refine lv_aload_n hx hb dX12_open_25 rfl (lv_at hl 0 rfl) ?_
  refine lv_iload hx hb dX12_open_26 (lv_at hl 4 rfl) ?_
  have hFc := tw_free hF hS hA
  refine va_callr (va_runS (As := [.int p2]) (rest := [.ref (a 50)]) ⟨hx, hb, hml, hown, hts⟩ (m_names l dC dI ad av H.size a k τ ln y_5 g_1 u p2  ) (va_cwS 1 hts (gi_3 (List.mem_cons_of_mem _ (List.mem_append_left _ (List.mem_of_getElem? (i := 5) rfl))) (List.mem_cons_of_mem _ (List.mem_append_left _ (List.mem_of_getElem? (i := 6) rfl))) (List.mem_cons_of_mem _ (List.mem_append_left _ (List.mem_of_getElem? (i := 7) rfl))) (fun _ hh => (List.mem_cons_of_mem _ (List.mem_append_right _ (List.mem_append_right _ (List.mem_append_left _ hh))))) gd_m_names) rfl rfl rfl (by decide +kernel) ⟨Nat.le_of_ble_eq_true rfl, Nat.le_of_ble_eq_true rfl⟩) ⟨pw_blind, pw_use hT hK hFc hS hM⟩ rfl rfl hl.1 rfl (lv_room (Nat.le_of_ble_eq_true rfl)) dX12_open_28 ⟨Nat.le_of_ble_eq_true rfl, Nat.le_of_ble_eq_true rfl⟩) hS (fun q _ h => hFc q h) hFc (fun u0 r_6 t H locs ht hvm hw hB hz1 hk1 hS => ?_)
  refine W.widen (k := 0) (n := 0) (Nat.le_of_ble_eq_true rfl) (Nat.le_of_ble_eq_true rfl) ?_
  clear hvm hz1 hk1
  rcases hB with ⟨hre, hT⟩ | ⟨hre, hT⟩ | ⟨hre, hT⟩ | ⟨hre, hT⟩
  · subst hre
    rw [ht] at hT
    refine tw_putr (D := (dC, dI)) (x := (ad 9)) (ty := .object "java/lang/String") (C := RX12) (T := TX12) (N := 58) hx hb hts (fun _ hh => (List.mem_cons_of_mem _ (List.mem_append_right _ (List.mem_append_left _ hh)))) tyX12 tyX12_ok nmX12 hown hK hT hF hS (fx_50 hX) (by decide) cl_e60 rfl 47 (by decide) (hts (.fieldLink RX12 207 "TypingPoolModel" "letters" "Ljava/lang/String;") (List.mem_cons_of_mem _ (List.mem_append_left _ (List.mem_of_getElem? (i := 8) rfl)))) (fun _ h9 => h9) rfl (tyX12_ok 47 (by decide)) rfl rfl (Nat.le_of_ble_eq_true rfl) rfl dX12_open_31 (fun H locs hT hS => ?_)
    obtain ⟨g_7, hg_7, hT⟩ : ∃ z : Nat → Nat → Option Nat, z = upg g_1 (a 50) 47 (some (ad 9)) ∧ tw (dC, dI) a k τ ln y_5 z H := ⟨_, rfl, hT⟩
    have hGg : agg τ g g_7 := by rw [hg_7]; exact hGg.up (fx_50 hX)
    exact W.vret hx hb hr (fun t ht hW9 => ⟨⟨(), rfl, trivial, ⟨y_5, g_7, hG, hGg, hI, by rw [hg_7, upg_e (by decide), hg_1]; exact upg_i, ⟨9, by rw [hg_7]; exact upg_i, by decide, by decide⟩, by omega, by omega, by omega, hPK, tw_at ht hT⟩⟩, hS.F ht⟩) hS.2.2 dX12_open_34
  · subst hre
    rw [ht] at hT
    refine tw_putr (D := (dC, dI)) (x := (ad 10)) (ty := .object "java/lang/String") (C := RX12) (T := TX12) (N := 58) hx hb hts (fun _ hh => (List.mem_cons_of_mem _ (List.mem_append_right _ (List.mem_append_left _ hh)))) tyX12 tyX12_ok nmX12 hown hK hT hF hS (fx_50 hX) (by decide) cl_e60 rfl 47 (by decide) (hts (.fieldLink RX12 207 "TypingPoolModel" "letters" "Ljava/lang/String;") (List.mem_cons_of_mem _ (List.mem_append_left _ (List.mem_of_getElem? (i := 8) rfl)))) (fun _ h9 => h9) rfl (tyX12_ok 47 (by decide)) rfl rfl (Nat.le_of_ble_eq_true rfl) rfl dX12_open_31 (fun H locs hT hS => ?_)
    obtain ⟨g_8, hg_8, hT⟩ : ∃ z : Nat → Nat → Option Nat, z = upg g_1 (a 50) 47 (some (ad 10)) ∧ tw (dC, dI) a k τ ln y_5 z H := ⟨_, rfl, hT⟩
    have hGg : agg τ g g_8 := by rw [hg_8]; exact hGg.up (fx_50 hX)
    exact W.vret hx hb hr (fun t ht hW9 => ⟨⟨(), rfl, trivial, ⟨y_5, g_8, hG, hGg, hI, by rw [hg_8, upg_e (by decide), hg_1]; exact upg_i, ⟨10, by rw [hg_8]; exact upg_i, by decide, by decide⟩, by omega, by omega, by omega, hPK, tw_at ht hT⟩⟩, hS.F ht⟩) hS.2.2 dX12_open_34
  · subst hre
    rw [ht] at hT
    refine tw_putr (D := (dC, dI)) (x := (ad 11)) (ty := .object "java/lang/String") (C := RX12) (T := TX12) (N := 58) hx hb hts (fun _ hh => (List.mem_cons_of_mem _ (List.mem_append_right _ (List.mem_append_left _ hh)))) tyX12 tyX12_ok nmX12 hown hK hT hF hS (fx_50 hX) (by decide) cl_e60 rfl 47 (by decide) (hts (.fieldLink RX12 207 "TypingPoolModel" "letters" "Ljava/lang/String;") (List.mem_cons_of_mem _ (List.mem_append_left _ (List.mem_of_getElem? (i := 8) rfl)))) (fun _ h9 => h9) rfl (tyX12_ok 47 (by decide)) rfl rfl (Nat.le_of_ble_eq_true rfl) rfl dX12_open_31 (fun H locs hT hS => ?_)
    obtain ⟨g_9, hg_9, hT⟩ : ∃ z : Nat → Nat → Option Nat, z = upg g_1 (a 50) 47 (some (ad 11)) ∧ tw (dC, dI) a k τ ln y_5 z H := ⟨_, rfl, hT⟩
    have hGg : agg τ g g_9 := by rw [hg_9]; exact hGg.up (fx_50 hX)
    exact W.vret hx hb hr (fun t ht hW9 => ⟨⟨(), rfl, trivial, ⟨y_5, g_9, hG, hGg, hI, by rw [hg_9, upg_e (by decide), hg_1]; exact upg_i, ⟨11, by rw [hg_9]; exact upg_i, by decide, by decide⟩, by omega, by omega, by omega, hPK, tw_at ht hT⟩⟩, hS.F ht⟩) hS.2.2 dX12_open_34
  · subst hre
    rw [ht] at hT
    refine tw_putr (D := (dC, dI)) (x := (ad 12)) (ty := .object "java/lang/String") (C := RX12) (T := TX12) (N := 58) hx hb hts (fun _ hh => (List.mem_cons_of_mem _ (List.mem_append_right _ (List.mem_append_left _ hh)))) tyX12 tyX12_ok nmX12 hown hK hT hF hS (fx_50 hX) (by decide) cl_e60 rfl 47 (by decide) (hts (.fieldLink RX12 207 "TypingPoolModel" "letters" "Ljava/lang/String;") (List.mem_cons_of_mem _ (List.mem_append_left _ (List.mem_of_getElem? (i := 8) rfl)))) (fun _ h9 => h9) rfl (tyX12_ok 47 (by decide)) rfl rfl (Nat.le_of_ble_eq_true rfl) rfl dX12_open_31 (fun H locs hT hS => ?_)
    obtain ⟨g_10, hg_10, hT⟩ : ∃ z : Nat → Nat → Option Nat, z = upg g_1 (a 50) 47 (some (ad 12)) ∧ tw (dC, dI) a k τ ln y_5 z H := ⟨_, rfl, hT⟩
    have hGg : agg τ g g_10 := by rw [hg_10]; exact hGg.up (fx_50 hX)
    exact W.vret hx hb hr (fun t ht hW9 => ⟨⟨(), rfl, trivial, ⟨y_5, g_10, hG, hGg, hI, by rw [hg_10, upg_e (by decide), hg_1]; exact upg_i, ⟨12, by rw [hg_10]; exact upg_i, by decide, by decide⟩, by omega, by omega, by omega, hPK, tw_at ht hT⟩⟩, hS.F ht⟩) hS.2.2 dX12_open_34
def wo_m_asks : List Cond := [.fieldLink RX12 113 "TypingPoolModel" "forced" "I", .fieldLink RX12 248 "TypingPoolModel" "rules" "I", .fieldLink RX12 58 "TypingPoolModel" "texts" "[B", .fieldLink RX12 62 "TypingPoolModel" "textSize" "[I", .methodLink RX12 251 yX12_open, .instanceMethod yX12_open, .selects RX12 yX12_open yX12_open, .initialized RX12, .methodLink RX12 239 yX12_any, .instanceMethod yX12_any, .selects RX12 yX12_any yX12_any, .fieldLink RX12 79 "TypingPoolModel" "first" "[B", .fieldLink RX12 255 "TypingPoolModel" "FIRST_FROM" "[I", .fieldLink RX12 258 "TypingPoolModel" "FIRST_SIZE" "[I", .fieldLink RX12 65 "TypingPoolModel" "textKind" "[I", .fieldLink RX12 68 "TypingPoolModel" "textDay" "[I"]
def wm_m_asks : List Cond := .code yX12_asks cX12_asks 5 (some .int) :: (wo_m_asks ++ (wsX120 ++ (wm_m_openX ++ (wm_g_any ++ (wm_m_openF ++ ([] : List Cond))))))
theorem gd_m_asks : ∀ w ∈ wm_m_asks, goodWord w = true := gd_c rfl (gd_a (by decide) (gd_a gd_wsX120 (gd_a gd_m_openX (gd_a gd_g_any (gd_a gd_m_openF gd_nil)))))
set_option maxRecDepth 20000 in
theorem im_m_asks : ∀ w ∈ wm_m_asks, w ∈ lw_tbl := im_c (in_r [.code yX12_asks cX12_asks 5 (some .int)] [1567] (by decide +kernel)) (in_app (in_r wo_m_asks [1281, 1265, 1261, 1262, 1468, 1470, 31, 86, 1479, 1481, 32, 1266, 1568, 1570, 1263, 1264] (by decide +kernel)) (in_app im_wsX120 (in_app im_m_openX (in_app im_g_any (in_app im_m_openF im_nil)))))
set_option maxHeartbeats 4000000 in
set_option maxRecDepth 100000 in
theorem m_asks (l : Launch) (dC : Nat → ClassId) (dI : Nat → Nat → Nat) (ad av : Nat → Nat) (sz : Nat) (a : Nat → Nat) (k : Nat → ClassId) (τ ln : Nat → Nat) (y : Nat → Nat → Int32) (g : Nat → Nat → Option Nat) (u : Nat → Int) (p0 : Int32) (p1 : Int32) (hI : IM a u τ y) (hlp0 : 0 ≤ p0.toInt) (hup0 : p0.toInt < 4) (hW : IW (u 1) (u 2) (u 9) (y (a 89))) : Met l yX12_asks wm_m_asks ({ frames := 384, cells := 0, slots := 0, locals := 25160 }) (pw_ ad av (dC, dI) sz [.ref (a 50), .int p0, .int p1] a k τ ln y g) (va_Qi (fun (r u : Int32) => u = r) (fun (r : Int32) (t : State) => (∃ (y' : Nat → Nat → Int32) (g' : Nat → Nat → Option Nat), ag τ [60] y y' ∧ agg τ g g' ∧ IM a u τ y' ∧ pk a y y' ∧ tw (dC, dI) a k τ ln y' g' t.heap)) (fr τ sz)) 0 0 (fr τ sz) := by
  refine Met.ofW (cc := cX12_asks) (maxL := 5) (ret := (some .int)) (by decide) rfl ?_
  intro p e s m args below meth c s₁ B hml hv
  obtain ⟨rfl, hsz, hT, hK, hM⟩ := hv
  have hx := B.exec
  have hb := B.bytes
  have hr := B.returns
  have hts := atoms_spec (ws := wm_m_asks) B.pre
  have hown : s.vm.findClass RX12 = some m.cls := findClass_of_methodNamed B.named
  have hlocks := B.notSynchronized
  subst hsz
  generalize hAe : fr τ s.heap.size = A at hM ⊢
  have hA : ∀ q : Nat, s.heap.size ≤ q → A q := fun q h => by rw [← hAe]; exact Or.inr h
  have hF : ∀ q, τ q ≠ 0 → A q := fun q h => by rw [← hAe]; exact Or.inl h
  have hS : va_S A s.heap s.heap [] := va_S.rf
  have hX := hI.1
  have hR := im_r hI
  have hG : ag τ [60] y y := ag.rf
  have hGg : agg τ g g := agg.rf
  have hl := lv_entry ([.ref (a 50), .int p0, .int p1]) (n := 5) (Nat.le_of_ble_eq_true rfl)
  rw [lg_entry_eq]
  generalize (lg_sl ([.ref (a 50), .int p0, .int p1]) ++ List.replicate (5 - (lg_sl ([.ref (a 50), .int p0, .int p1])).length) Slot.unset).toArray = ls at hl ⊢
  have hl : lv_has ls 5 [(0, .ref (a 50)), (1, .int p0), (2, .int p1)] := hl
  have hPK : pk a y y := pk_rf
  refine lv_iconst (v := (-1)) hx hb dX12_asks_0 (by decide) ?_
  refine lv_istore_n (lv' := [(3, .int (-1)), (0, .ref (a 50)), (1, .int p0), (2, .int p1)]) hx hb dX12_asks_1 rfl hl (by decide) rfl (fun ls hl => ?_)
  refine lv_aload_n hx hb dX12_asks_2 rfl (lv_at hl 1 rfl) ?_
  refine tw_get (D := (dC, dI)) (v := .int (y (a 50) 40)) (C := RX12) (T := TX12) (N := 58) hx hb hts (fun _ hh => (List.mem_cons_of_mem _ (List.mem_append_right _ (List.mem_append_left _ hh)))) hown hK hT (fx_50 hX) (by decide) cl_e60 rfl 40 (by decide) (hts (.fieldLink RX12 113 "TypingPoolModel" "forced" "I") (List.mem_cons_of_mem _ (List.mem_append_left _ (List.mem_of_getElem? (i := 0) rfl)))) (fun _ h9 => h9) rfl dX12_asks_3 ?_
  have hc_1 := im_10 hI
  refine lv_iconst (v := (-1)) hx hb dX12_asks_6 (by decide) ?_
  refine lv_icmp_eq (tgt := 31) hx hb dX12_asks_7 (by decide) (fun c_2 => ?_) (fun c_2 => ?_)
  · have nc_2 := z_eq hc_1 (zk (x := (-1)) (-1) rfl) c_2
    refine lv_iconst (v := 0) hx hb dX12_asks_31 (by decide) ?_
    refine lv_istore (lv' := [(4, .int 0), (3, .int (-1)), (0, .ref (a 50)), (1, .int p0), (2, .int p1)]) hx hb dX12_asks_32 hl (by decide) rfl (fun ls hl => ?_)
    have loop_34 : ∀ (n : Nat) (i3 : Int32) (i4 : Int32) (y_L34 : Nat → Nat → Int32) (g_L34 : Nat → Nat → Option Nat) (H : Heap) (locs : List Loc) (ls : Array Slot), (u 4 - i4.toInt).toNat < n → ag τ [60] y y_L34 → IM a u τ y_L34 → agg τ g g_L34 → IW (u 1) (u 2) (u 9) (y_L34 (a 89)) → pk a y y_L34 → 0 ≤ i4.toInt → i4.toInt ≤ u 4 → i3.toInt = -1 ∨ (0 ≤ i3.toInt ∧ i3.toInt < u 4) → tw (dC, dI) a k τ ln y_L34 g_L34 H → va_S A s.heap H locs → lv_has ls 5 [(0, .ref (a 50)), (1, .int p0), (2, .int p1), (3, .int i3), (4, .int i4)] → W p l e (headSpec wm_m_asks ({ frames := 384, cells := 0, slots := 0, locals := 25160 })).room s m ([.ref (a 50), .int p0, .int p1] : List Value).toArray below meth c H locs 0 0 (MQ below (va_Qi (fun (r u : Int32) => u = r) (fun (r : Int32) (t : State) => (∃ (y' : Nat → Nat → Int32) (g' : Nat → Nat → Option Nat), ag τ [60] y y' ∧ agg τ g g' ∧ IM a u τ y' ∧ pk a y y' ∧ tw (dC, dI) a k τ ln y' g' t.heap)) A) ([.ref (a 50), .int p0, .int p1] : List Value).toArray s 0 0 A) (F0 m 34 ls []) := by
      intro n
      induction n with
      | zero => intro i3 i4 y_L34 g_L34 H locs ls hlt; exact absurd hlt (Nat.not_lt_zero _)
      | succ n ih_34 =>
        intro i3 i4 y_L34 g_L34 H locs ls hlt hG hI hGg hW hPK hi34_0 hi34_1 hi34_2 hT hS hl
        refine lv_iload hx hb dX12_asks_34 (lv_at hl 4 rfl) ?_
        refine lv_aload_n hx hb dX12_asks_36 rfl (lv_at hl 0 rfl) ?_
        refine tw_get (D := (dC, dI)) (v := .int (y_L34 (a 50) 24)) (C := RX12) (T := TX12) (N := 58) hx hb hts (fun _ hh => (List.mem_cons_of_mem _ (List.mem_append_right _ (List.mem_append_left _ hh)))) hown hK hT (fx_50 hX) (by decide) cl_e60 rfl 24 (by decide) (hts (.fieldLink RX12 248 "TypingPoolModel" "rules" "I") (List.mem_cons_of_mem _ (List.mem_append_left _ (List.mem_of_getElem? (i := 1) rfl)))) (fun _ h9 => h9) rfl dX12_asks_37 ?_
        have hc_3 := im_4 hI
        refine lv_icmp_ge (tgt := 95) hx hb dX12_asks_40 (by decide) (fun c_4 => ?_) (fun c_4 => ?_)
        · have nc_4 := z_le hc_3 rfl c_4
          refine lv_iload_n hx hb dX12_asks_95 rfl (lv_at hl 3 rfl) ?_
          refine lv_iconst (v := (-1)) hx hb dX12_asks_96 (by decide) ?_
          refine lv_icmp_ne (tgt := 122) hx hb dX12_asks_97 (by decide) (fun c_5 => ?_) (fun c_5 => ?_)
          · have nc_5 := z_ne rfl (zk (x := (-1)) (-1) rfl) c_5
            refine lv_aload_n hx hb dX12_asks_122 rfl (lv_at hl 0 rfl) ?_
            refine lv_aload_n hx hb dX12_asks_123 rfl (lv_at hl 0 rfl) ?_
            refine tw_get (D := (dC, dI)) (v := .ref (a 71)) (C := RX12) (T := TX12) (N := 58) hx hb hts (fun _ hh => (List.mem_cons_of_mem _ (List.mem_append_right _ (List.mem_append_left _ hh)))) hown hK hT (fx_50 hX) (by decide) cl_e60 rfl 20 (by decide) (hts (.fieldLink RX12 58 "TypingPoolModel" "texts" "[B") (List.mem_cons_of_mem _ (List.mem_append_left _ (List.mem_of_getElem? (i := 2) rfl)))) (fun _ h9 => h9) rfl dX12_asks_124 ?_
            refine lv_bipush (v := 60) hx hb dX12_asks_127 (by decide) ?_
            refine lv_iload_n hx hb dX12_asks_129 rfl (lv_at hl 3 rfl) ?_
            refine lv_imul hx hb dX12_asks_130 ?_
            refine lv_topi (fun x_6 ex_6 => ?_)
            have hx_6 := z_mul ex_6 (zk (x := 60) 60 rfl) rfl (by omega) (by omega)
            refine lv_aload_n hx hb dX12_asks_131 rfl (lv_at hl 0 rfl) ?_
            refine tw_get (D := (dC, dI)) (v := .ref (a 72)) (C := RX12) (T := TX12) (N := 58) hx hb hts (fun _ hh => (List.mem_cons_of_mem _ (List.mem_append_right _ (List.mem_append_left _ hh)))) hown hK hT (fx_50 hX) (by decide) cl_e60 rfl 21 (by decide) (hts (.fieldLink RX12 62 "TypingPoolModel" "textSize" "[I") (List.mem_cons_of_mem _ (List.mem_append_left _ (List.mem_of_getElem? (i := 3) rfl)))) (fun _ h9 => h9) rfl dX12_asks_132 ?_
            refine lv_iload_n hx hb dX12_asks_135 rfl (lv_at hl 3 rfl) ?_
            refine tw_iald hx hb hK hT 0 (fx_72 hX) (by decide) cl_e82 rfl (z_in rfl (by omega) (by omega)) dX12_asks_136 ?_
            have hv_7 := vb_at (im_a72 hI) (x := i3) rfl (by omega) (by omega)
            refine lv_iload_n hx hb dX12_asks_137 rfl (lv_at hl 1 rfl) ?_
            have hFc := tw_free hF hS hA
            refine va_callv (va_runV (As := [.ref (a 71), .int x_6, .int (y_L34 (a 72) i3.toNatClampNeg), .int p0]) (rest := []) ⟨hx, hb, hml, hown, hts⟩ (m_openX l dC dI ad av H.size a k τ ln y_L34 g_L34 u x_6 (y_L34 (a 72) i3.toNatClampNeg) p0 hI hW) (cwV 4 hts (gi_4 (List.mem_cons_of_mem _ (List.mem_append_left _ (List.mem_of_getElem? (i := 4) rfl))) (List.mem_cons_of_mem _ (List.mem_append_left _ (List.mem_of_getElem? (i := 5) rfl))) (List.mem_cons_of_mem _ (List.mem_append_left _ (List.mem_of_getElem? (i := 6) rfl))) (List.mem_cons_of_mem _ (List.mem_append_left _ (List.mem_of_getElem? (i := 7) rfl))) (fun _ hh => (List.mem_cons_of_mem _ (List.mem_append_right _ (List.mem_append_right _ (List.mem_append_left _ hh))))) gd_m_openX) rfl rfl rfl (by decide +kernel) ⟨Nat.le_of_ble_eq_true rfl, Nat.le_of_ble_eq_true rfl⟩) ⟨pw_blind, tw_recv hK hT (fx_50 hX) (by decide) cl_e60 rfl, pw_use hT hK hFc hS hM⟩ rfl rfl hl.1 rfl (lv_room (Nat.le_of_ble_eq_true rfl)) dX12_asks_138 ⟨Nat.le_of_ble_eq_true rfl, Nat.le_of_ble_eq_true rfl⟩) hS (fun q _ h => hFc q h) hFc (fun u0 t H locs ht hvm hw hB hz1 hk1 hS => ?_)
            refine W.widen (k := 0) (n := 0) (Nat.le_of_ble_eq_true rfl) (Nat.le_of_ble_eq_true rfl) ?_
            clear hvm hz1 hk1
            obtain ⟨y_9, g_10, hgy_9, hggg_10, hI, hf_11, hf_12, hf_13, hf_14, hf_15, hf_16, hT⟩ := hB
            rw [ht] at hT
            have hG := hG.tr hgy_9 (by decide)
            have hGg := hGg.tr hggg_10
            have hW : IW (u 1) (u 2) (u 9) (y_9 (a 89)) := by rw [hgy_9.at (fx_89 hX) (by decide)]; exact hW
            have hPK := hPK.tr hf_16
            obtain ⟨iw_17, hltw_17, hi_iw_17, hslw_17⟩ := hf_12
            clear hc_1 hc_3
            refine lv_aload_n hx hb dX12_asks_141 rfl (lv_at hl 0 rfl) ?_
            refine lv_iconst (v := 0) hx hb dX12_asks_142 (by decide) ?_
            have hFc := tw_free hF hS hA
            have hp_18 : (0 : Int32).toInt = 0 := (zk (x := 0) 0 rfl)
            refine va_calli (va_runV (As := [.int 0]) (rest := []) ⟨hx, hb, hml, hown, hts⟩ (m_any l dC dI ad av H.size a k τ ln y_9 g_10 u (0 : Int32) (a 71) 1200 iw_17 hI (by rw [fx_71 hX]; decide) (by rw [fx_71 hX]; intro f v; exact cl_e81) hf_11 hltw_17 hi_iw_17 hslw_17 (by omega) (by omega) (by omega) (by omega) (by omega) hW) (cwV 1 hts (gi_4 (List.mem_cons_of_mem _ (List.mem_append_left _ (List.mem_of_getElem? (i := 8) rfl))) (List.mem_cons_of_mem _ (List.mem_append_left _ (List.mem_of_getElem? (i := 9) rfl))) (List.mem_cons_of_mem _ (List.mem_append_left _ (List.mem_of_getElem? (i := 10) rfl))) (List.mem_cons_of_mem _ (List.mem_append_left _ (List.mem_of_getElem? (i := 7) rfl))) (fun _ hh => (List.mem_cons_of_mem _ (List.mem_append_right _ (List.mem_append_right _ (List.mem_append_right _ (List.mem_append_left _ hh)))))) gd_g_any) rfl rfl rfl (by decide +kernel) ⟨Nat.le_of_ble_eq_true rfl, Nat.le_of_ble_eq_true rfl⟩) ⟨pw_blind, tw_recv hK hT (fx_50 hX) (by decide) cl_e60 rfl, pw_use hT hK hFc hS hM⟩ rfl rfl hl.1 rfl (lv_room (Nat.le_of_ble_eq_true rfl)) dX12_asks_143 ⟨Nat.le_of_ble_eq_true rfl, Nat.le_of_ble_eq_true rfl⟩) hS (fun q _ h => hFc q h) hFc (fun r0 r_19 t H locs ht hvm hw hB hz1 hk1 hS => ?_)
            refine W.widen (k := 0) (n := 0) (Nat.le_of_ble_eq_true rfl) (Nat.le_of_ble_eq_true rfl) ?_
            clear hvm hz1 hk1
            subst hw
            obtain ⟨y_20, hgy_20, hI, hf_21, hf_22, hf_23, hf_24, hT⟩ := hB
            rw [ht] at hT
            have hG := hG.tr hgy_20 (by decide)
            have hW : IW (u 1) (u 2) (u 9) (y_20 (a 89)) := by rw [hgy_20.at (fx_89 hX) (by decide)]; exact hW
            try simp only [hp_18] at hf_21 hf_22 hf_23 hf_24
            clear hp_18
            have hPK := hPK.tr hf_24
            have hrv : r_19.toInt = r_19.toInt := rfl
            exact W.iret (v := r_19) hx hb hr (fun t ht hW9 => ⟨⟨r_19, r_19, rfl, rfl, ⟨y_20, g_10, hG, hGg, hI, hPK, tw_at ht hT⟩⟩, hS.F ht⟩) hS.2.2 dX12_asks_146
          · have nc_5 := z_eq rfl (zk (x := (-1)) (-1) rfl) c_5
            refine lv_aload_n hx hb dX12_asks_100 rfl (lv_at hl 0 rfl) ?_
            refine lv_aload_n hx hb dX12_asks_101 rfl (lv_at hl 0 rfl) ?_
            refine tw_get (D := (dC, dI)) (v := .ref (a 76)) (C := RX12) (T := TX12) (N := 58) hx hb hts (fun _ hh => (List.mem_cons_of_mem _ (List.mem_append_right _ (List.mem_append_left _ hh)))) hown hK hT (fx_50 hX) (by decide) cl_e60 rfl 25 (by decide) (hts (.fieldLink RX12 79 "TypingPoolModel" "first" "[B") (List.mem_cons_of_mem _ (List.mem_append_left _ (List.mem_of_getElem? (i := 11) rfl)))) (fun _ h9 => h9) rfl dX12_asks_102 ?_
            obtain ⟨f0, f1, hZ0, hT0, hZ1, hT1⟩ := hM.2.2.2.2.2.2.2.2.2
            refine va_gets hx hb hZ0 hS hown (hts (.fieldLink RX12 255 "TypingPoolModel" "FIRST_FROM" "[I") (List.mem_cons_of_mem _ (List.mem_append_left _ (List.mem_of_getElem? (i := 12) rfl)))) (fun _ h9 => h9) dX12_asks_105 ?_
            refine lv_iload_n hx hb dX12_asks_108 rfl (lv_at hl 1 rfl) ?_
            refine va_ti hx hb hT0 hS (z_in rfl (by omega) (by omega)) rfl dX12_asks_109 ?_
            have hfr_25 := fr_ok (x := p0) rfl (by omega) (by omega)
            refine va_gets hx hb hZ1 hS hown (hts (.fieldLink RX12 258 "TypingPoolModel" "FIRST_SIZE" "[I") (List.mem_cons_of_mem _ (List.mem_append_left _ (List.mem_of_getElem? (i := 13) rfl)))) (fun _ h9 => h9) dX12_asks_110 ?_
            refine lv_iload_n hx hb dX12_asks_113 rfl (lv_at hl 1 rfl) ?_
            refine va_ti hx hb hT1 hS (z_in rfl (by omega) (by omega)) rfl dX12_asks_114 ?_
            have hfr_26 := fr_ok (x := p0) rfl (by omega) (by omega)
            refine lv_iload_n hx hb dX12_asks_115 rfl (lv_at hl 1 rfl) ?_
            have hFc := tw_free hF hS hA
            refine va_callv (va_runV (As := [.ref (a 76), .int (frm p0.toNatClampNeg), .int (fsz p0.toNatClampNeg), .int p0]) (rest := []) ⟨hx, hb, hml, hown, hts⟩ (m_openF l dC dI ad av H.size a k τ ln y_L34 g_L34 u (frm p0.toNatClampNeg) (fsz p0.toNatClampNeg) p0 hI hW) (cwV 4 hts (gi_4 (List.mem_cons_of_mem _ (List.mem_append_left _ (List.mem_of_getElem? (i := 4) rfl))) (List.mem_cons_of_mem _ (List.mem_append_left _ (List.mem_of_getElem? (i := 5) rfl))) (List.mem_cons_of_mem _ (List.mem_append_left _ (List.mem_of_getElem? (i := 6) rfl))) (List.mem_cons_of_mem _ (List.mem_append_left _ (List.mem_of_getElem? (i := 7) rfl))) (fun _ hh => (List.mem_cons_of_mem _ (List.mem_append_right _ (List.mem_append_right _ (List.mem_append_right _ (List.mem_append_right _ (List.mem_append_left _ hh))))))) gd_m_openF) rfl rfl rfl (by decide +kernel) ⟨Nat.le_of_ble_eq_true rfl, Nat.le_of_ble_eq_true rfl⟩) ⟨pw_blind, tw_recv hK hT (fx_50 hX) (by decide) cl_e60 rfl, pw_use hT hK hFc hS hM⟩ rfl rfl hl.1 rfl (lv_room (Nat.le_of_ble_eq_true rfl)) dX12_asks_116 ⟨Nat.le_of_ble_eq_true rfl, Nat.le_of_ble_eq_true rfl⟩) hS (fun q _ h => hFc q h) hFc (fun u0 t H locs ht hvm hw hB hz1 hk1 hS => ?_)
            refine W.widen (k := 0) (n := 0) (Nat.le_of_ble_eq_true rfl) (Nat.le_of_ble_eq_true rfl) ?_
            clear hvm hz1 hk1
            obtain ⟨y_28, g_29, hgy_28, hggg_29, hI, hf_30, hf_31, hf_32, hf_33, hf_34, hf_35, hT⟩ := hB
            rw [ht] at hT
            have hG := hG.tr hgy_28 (by decide)
            have hGg := hGg.tr hggg_29
            have hW : IW (u 1) (u 2) (u 9) (y_28 (a 89)) := by rw [hgy_28.at (fx_89 hX) (by decide)]; exact hW
            have hPK := hPK.tr hf_35
            obtain ⟨iw_36, hltw_36, hi_iw_36, hslw_36⟩ := hf_31
            clear hc_1 hc_3
            refine lv_goto (tgt := 141) hx hb dX12_asks_119 (by decide) ?_
            refine lv_aload_n hx hb dX12_asks_141 rfl (lv_at hl 0 rfl) ?_
            refine lv_iconst (v := 0) hx hb dX12_asks_142 (by decide) ?_
            have hFc := tw_free hF hS hA
            have hp_37 : (0 : Int32).toInt = 0 := (zk (x := 0) 0 rfl)
            refine va_calli (va_runV (As := [.int 0]) (rest := []) ⟨hx, hb, hml, hown, hts⟩ (m_any l dC dI ad av H.size a k τ ln y_28 g_29 u (0 : Int32) (a 76) 22 iw_36 hI (by rw [fx_76 hX]; decide) (by rw [fx_76 hX]; intro f v; exact cl_e86) hf_30 hltw_36 hi_iw_36 hslw_36 (by omega) (by omega) (by omega) (by omega) (by omega) hW) (cwV 1 hts (gi_4 (List.mem_cons_of_mem _ (List.mem_append_left _ (List.mem_of_getElem? (i := 8) rfl))) (List.mem_cons_of_mem _ (List.mem_append_left _ (List.mem_of_getElem? (i := 9) rfl))) (List.mem_cons_of_mem _ (List.mem_append_left _ (List.mem_of_getElem? (i := 10) rfl))) (List.mem_cons_of_mem _ (List.mem_append_left _ (List.mem_of_getElem? (i := 7) rfl))) (fun _ hh => (List.mem_cons_of_mem _ (List.mem_append_right _ (List.mem_append_right _ (List.mem_append_right _ (List.mem_append_left _ hh)))))) gd_g_any) rfl rfl rfl (by decide +kernel) ⟨Nat.le_of_ble_eq_true rfl, Nat.le_of_ble_eq_true rfl⟩) ⟨pw_blind, tw_recv hK hT (fx_50 hX) (by decide) cl_e60 rfl, pw_use hT hK hFc hS hM⟩ rfl rfl hl.1 rfl (lv_room (Nat.le_of_ble_eq_true rfl)) dX12_asks_143 ⟨Nat.le_of_ble_eq_true rfl, Nat.le_of_ble_eq_true rfl⟩) hS (fun q _ h => hFc q h) hFc (fun r0 r_38 t H locs ht hvm hw hB hz1 hk1 hS => ?_)
            refine W.widen (k := 0) (n := 0) (Nat.le_of_ble_eq_true rfl) (Nat.le_of_ble_eq_true rfl) ?_
            clear hvm hz1 hk1
            subst hw
            obtain ⟨y_39, hgy_39, hI, hf_40, hf_41, hf_42, hf_43, hT⟩ := hB
            rw [ht] at hT
            have hG := hG.tr hgy_39 (by decide)
            have hW : IW (u 1) (u 2) (u 9) (y_39 (a 89)) := by rw [hgy_39.at (fx_89 hX) (by decide)]; exact hW
            try simp only [hp_37] at hf_40 hf_41 hf_42 hf_43
            clear hp_37
            have hPK := hPK.tr hf_43
            have hrv : r_38.toInt = r_38.toInt := rfl
            exact W.iret (v := r_38) hx hb hr (fun t ht hW9 => ⟨⟨r_38, r_38, rfl, rfl, ⟨y_39, g_29, hG, hGg, hI, hPK, tw_at ht hT⟩⟩, hS.F ht⟩) hS.2.2 dX12_asks_146
        · have nc_4 := z_nle hc_3 rfl c_4
          refine lv_aload_n hx hb dX12_asks_43 rfl (lv_at hl 0 rfl) ?_
          refine tw_get (D := (dC, dI)) (v := .ref (a 73)) (C := RX12) (T := TX12) (N := 58) hx hb hts (fun _ hh => (List.mem_cons_of_mem _ (List.mem_append_right _ (List.mem_append_left _ hh)))) hown hK hT (fx_50 hX) (by decide) cl_e60 rfl 22 (by decide) (hts (.fieldLink RX12 65 "TypingPoolModel" "textKind" "[I") (List.mem_cons_of_mem _ (List.mem_append_left _ (List.mem_of_getElem? (i := 14) rfl)))) (fun _ h9 => h9) rfl dX12_asks_44 ?_
          refine lv_iload hx hb dX12_asks_47 (lv_at hl 4 rfl) ?_
          refine tw_iald hx hb hK hT 0 (fx_73 hX) (by decide) cl_e83 rfl (z_in rfl (by omega) (by omega)) dX12_asks_49 ?_
          refine lv_iload_n hx hb dX12_asks_50 rfl (lv_at hl 1 rfl) ?_
          refine lv_icmp_ne (tgt := 89) hx hb dX12_asks_51 (by decide) (fun c_44 => ?_) (fun c_44 => ?_)
          · have nc_44 := z_ne rfl rfl c_44
            obtain ⟨x_45, ex_45⟩ : ∃ y : Int32, y = i4 + Int32.ofInt 1 := ⟨_, rfl⟩
            have hx_45 := z_add ex_45 rfl (zk (x := Int32.ofInt 1) 1 rfl) (by omega) (by omega)
            refine lv_iinc (v := x_45) (lv' := [(4, .int x_45), (0, .ref (a 50)), (1, .int p0), (2, .int p1), (3, .int i3)]) hx hb dX12_asks_89 hl (k := 4) rfl ex_45.symm (by decide) rfl (fun ls hl => ?_)
            refine lv_goto (tgt := 34) hx hb dX12_asks_92 (by decide) ?_
            exact ih_34  i3 x_45 y_L34 g_L34 H _ ls (by omega) hG hI hGg hW hPK (by omega) (by omega) (by omega) hT hS (lv_sub hl [1, 2, 3, 4, 0] rfl)
          · have nc_44 := z_eq rfl rfl c_44
            refine lv_aload_n hx hb dX12_asks_54 rfl (lv_at hl 0 rfl) ?_
            refine tw_get (D := (dC, dI)) (v := .ref (a 74)) (C := RX12) (T := TX12) (N := 58) hx hb hts (fun _ hh => (List.mem_cons_of_mem _ (List.mem_append_right _ (List.mem_append_left _ hh)))) hown hK hT (fx_50 hX) (by decide) cl_e60 rfl 23 (by decide) (hts (.fieldLink RX12 68 "TypingPoolModel" "textDay" "[I") (List.mem_cons_of_mem _ (List.mem_append_left _ (List.mem_of_getElem? (i := 15) rfl)))) (fun _ h9 => h9) rfl dX12_asks_55 ?_
            refine lv_iload hx hb dX12_asks_58 (lv_at hl 4 rfl) ?_
            refine tw_iald hx hb hK hT 0 (fx_74 hX) (by decide) cl_e84 rfl (z_in rfl (by omega) (by omega)) dX12_asks_60 ?_
            refine lv_iload_n hx hb dX12_asks_61 rfl (lv_at hl 2 rfl) ?_
            refine lv_icmp_gt (tgt := 89) hx hb dX12_asks_62 (by decide) (fun c_46 => ?_) (fun c_46 => ?_)
            · have nc_46 := z_lt rfl rfl c_46
              obtain ⟨x_47, ex_47⟩ : ∃ y : Int32, y = i4 + Int32.ofInt 1 := ⟨_, rfl⟩
              have hx_47 := z_add ex_47 rfl (zk (x := Int32.ofInt 1) 1 rfl) (by omega) (by omega)
              refine lv_iinc (v := x_47) (lv' := [(4, .int x_47), (0, .ref (a 50)), (1, .int p0), (2, .int p1), (3, .int i3)]) hx hb dX12_asks_89 hl (k := 4) rfl ex_47.symm (by decide) rfl (fun ls hl => ?_)
              refine lv_goto (tgt := 34) hx hb dX12_asks_92 (by decide) ?_
              exact ih_34  i3 x_47 y_L34 g_L34 H _ ls (by omega) hG hI hGg hW hPK (by omega) (by omega) (by omega) hT hS (lv_sub hl [1, 2, 3, 4, 0] rfl)
            · have nc_46 := z_nlt rfl rfl c_46
              refine lv_iload_n hx hb dX12_asks_65 rfl (lv_at hl 3 rfl) ?_
              refine lv_iconst (v := (-1)) hx hb dX12_asks_66 (by decide) ?_
              refine lv_icmp_eq (tgt := 86) hx hb dX12_asks_67 (by decide) (fun c_48 => ?_) (fun c_48 => ?_)
              · have nc_48 := z_eq rfl (zk (x := (-1)) (-1) rfl) c_48
                refine lv_iload hx hb dX12_asks_86 (lv_at hl 4 rfl) ?_
                refine lv_istore_n (lv' := [(3, .int i4), (0, .ref (a 50)), (1, .int p0), (2, .int p1), (4, .int i4)]) hx hb dX12_asks_88 rfl hl (by decide) rfl (fun ls hl => ?_)
                obtain ⟨x_49, ex_49⟩ : ∃ y : Int32, y = i4 + Int32.ofInt 1 := ⟨_, rfl⟩
                have hx_49 := z_add ex_49 rfl (zk (x := Int32.ofInt 1) 1 rfl) (by omega) (by omega)
                refine lv_iinc (v := x_49) (lv' := [(4, .int x_49), (3, .int i4), (0, .ref (a 50)), (1, .int p0), (2, .int p1)]) hx hb dX12_asks_89 hl (k := 4) rfl ex_49.symm (by decide) rfl (fun ls hl => ?_)
                refine lv_goto (tgt := 34) hx hb dX12_asks_92 (by decide) ?_
                exact ih_34  i4 x_49 y_L34 g_L34 H _ ls (by omega) hG hI hGg hW hPK (by omega) (by omega) (by omega) hT hS (lv_sub hl [2, 3, 4, 1, 0] rfl)
              · have nc_48 := z_ne rfl (zk (x := (-1)) (-1) rfl) c_48
                refine lv_aload_n hx hb dX12_asks_70 rfl (lv_at hl 0 rfl) ?_
                refine tw_get (D := (dC, dI)) (v := .ref (a 74)) (C := RX12) (T := TX12) (N := 58) hx hb hts (fun _ hh => (List.mem_cons_of_mem _ (List.mem_append_right _ (List.mem_append_left _ hh)))) hown hK hT (fx_50 hX) (by decide) cl_e60 rfl 23 (by decide) (hts (.fieldLink RX12 68 "TypingPoolModel" "textDay" "[I") (List.mem_cons_of_mem _ (List.mem_append_left _ (List.mem_of_getElem? (i := 15) rfl)))) (fun _ h9 => h9) rfl dX12_asks_71 ?_
                refine lv_iload hx hb dX12_asks_74 (lv_at hl 4 rfl) ?_
                refine tw_iald hx hb hK hT 0 (fx_74 hX) (by decide) cl_e84 rfl (z_in rfl (by omega) (by omega)) dX12_asks_76 ?_
                refine lv_aload_n hx hb dX12_asks_77 rfl (lv_at hl 0 rfl) ?_
                refine tw_get (D := (dC, dI)) (v := .ref (a 74)) (C := RX12) (T := TX12) (N := 58) hx hb hts (fun _ hh => (List.mem_cons_of_mem _ (List.mem_append_right _ (List.mem_append_left _ hh)))) hown hK hT (fx_50 hX) (by decide) cl_e60 rfl 23 (by decide) (hts (.fieldLink RX12 68 "TypingPoolModel" "textDay" "[I") (List.mem_cons_of_mem _ (List.mem_append_left _ (List.mem_of_getElem? (i := 15) rfl)))) (fun _ h9 => h9) rfl dX12_asks_78 ?_
                refine lv_iload_n hx hb dX12_asks_81 rfl (lv_at hl 3 rfl) ?_
                refine tw_iald hx hb hK hT 0 (fx_74 hX) (by decide) cl_e84 rfl (z_in rfl (by omega) (by omega)) dX12_asks_82 ?_
                refine lv_icmp_lt (tgt := 89) hx hb dX12_asks_83 (by decide) (fun c_50 => ?_) (fun c_50 => ?_)
                · have nc_50 := z_lt rfl rfl c_50
                  obtain ⟨x_51, ex_51⟩ : ∃ y : Int32, y = i4 + Int32.ofInt 1 := ⟨_, rfl⟩
                  have hx_51 := z_add ex_51 rfl (zk (x := Int32.ofInt 1) 1 rfl) (by omega) (by omega)
                  refine lv_iinc (v := x_51) (lv' := [(4, .int x_51), (0, .ref (a 50)), (1, .int p0), (2, .int p1), (3, .int i3)]) hx hb dX12_asks_89 hl (k := 4) rfl ex_51.symm (by decide) rfl (fun ls hl => ?_)
                  refine lv_goto (tgt := 34) hx hb dX12_asks_92 (by decide) ?_
                  exact ih_34  i3 x_51 y_L34 g_L34 H _ ls (by omega) hG hI hGg hW hPK (by omega) (by omega) (by omega) hT hS (lv_sub hl [1, 2, 3, 4, 0] rfl)
                · have nc_50 := z_nlt rfl rfl c_50
                  refine lv_iload hx hb dX12_asks_86 (lv_at hl 4 rfl) ?_
                  refine lv_istore_n (lv' := [(3, .int i4), (0, .ref (a 50)), (1, .int p0), (2, .int p1), (4, .int i4)]) hx hb dX12_asks_88 rfl hl (by decide) rfl (fun ls hl => ?_)
                  obtain ⟨x_52, ex_52⟩ : ∃ y : Int32, y = i4 + Int32.ofInt 1 := ⟨_, rfl⟩
                  have hx_52 := z_add ex_52 rfl (zk (x := Int32.ofInt 1) 1 rfl) (by omega) (by omega)
                  refine lv_iinc (v := x_52) (lv' := [(4, .int x_52), (3, .int i4), (0, .ref (a 50)), (1, .int p0), (2, .int p1)]) hx hb dX12_asks_89 hl (k := 4) rfl ex_52.symm (by decide) rfl (fun ls hl => ?_)
                  refine lv_goto (tgt := 34) hx hb dX12_asks_92 (by decide) ?_
                  exact ih_34  i4 x_52 y_L34 g_L34 H _ ls (by omega) hG hI hGg hW hPK (by omega) (by omega) (by omega) hT hS (lv_sub hl [2, 3, 4, 1, 0] rfl)
    have hp_53 : (-1 : Int32).toInt = (-1) := (zk (x := (-1)) (-1) rfl)
    have hp_54 : (0 : Int32).toInt = 0 := (zk (x := 0) 0 rfl)
    exact loop_34 _ (-1 : Int32) (0 : Int32) y g s.heap _ ls (Nat.lt_succ_self _) hG hI hGg hW hPK (by omega) (by omega) (by omega) hT hS (lv_sub hl [2, 3, 4, 1, 0] rfl)
  · have nc_2 := z_ne hc_1 (zk (x := (-1)) (-1) rfl) c_2
    refine lv_aload_n hx hb dX12_asks_10 rfl (lv_at hl 1 rfl) ?_
    refine tw_get (D := (dC, dI)) (v := .ref (a 73)) (C := RX12) (T := TX12) (N := 58) hx hb hts (fun _ hh => (List.mem_cons_of_mem _ (List.mem_append_right _ (List.mem_append_left _ hh)))) hown hK hT (fx_50 hX) (by decide) cl_e60 rfl 22 (by decide) (hts (.fieldLink RX12 65 "TypingPoolModel" "textKind" "[I") (List.mem_cons_of_mem _ (List.mem_append_left _ (List.mem_of_getElem? (i := 14) rfl)))) (fun _ h9 => h9) rfl dX12_asks_11 ?_
    refine lv_aload_n hx hb dX12_asks_14 rfl (lv_at hl 1 rfl) ?_
    refine tw_get (D := (dC, dI)) (v := .int (y (a 50) 40)) (C := RX12) (T := TX12) (N := 58) hx hb hts (fun _ hh => (List.mem_cons_of_mem _ (List.mem_append_right _ (List.mem_append_left _ hh)))) hown hK hT (fx_50 hX) (by decide) cl_e60 rfl 40 (by decide) (hts (.fieldLink RX12 113 "TypingPoolModel" "forced" "I") (List.mem_cons_of_mem _ (List.mem_append_left _ (List.mem_of_getElem? (i := 0) rfl)))) (fun _ h9 => h9) rfl dX12_asks_15 ?_
    have hc_55 := im_10 hI
    have hbd_56 : 0 ≤ u 10 ∧ u 10 < 20 := by omega
    refine tw_iald hx hb hK hT 0 (fx_73 hX) (by decide) cl_e83 rfl (z_in hc_55 hbd_56.1 hbd_56.2) dX12_asks_18 ?_
    refine lv_iload_n hx hb dX12_asks_19 rfl (lv_at hl 2 rfl) ?_
    refine lv_icmp_ne (tgt := 31) hx hb dX12_asks_20 (by decide) (fun c_57 => ?_) (fun c_57 => ?_)
    · have nc_57 := z_ne rfl rfl c_57
      refine lv_iconst (v := 0) hx hb dX12_asks_31 (by decide) ?_
      refine lv_istore (lv' := [(4, .int 0), (3, .int (-1)), (0, .ref (a 50)), (1, .int p0), (2, .int p1)]) hx hb dX12_asks_32 hl (by decide) rfl (fun ls hl => ?_)
      have loop_34 : ∀ (n : Nat) (i3 : Int32) (i4 : Int32) (y_L34 : Nat → Nat → Int32) (g_L34 : Nat → Nat → Option Nat) (H : Heap) (locs : List Loc) (ls : Array Slot), (u 4 - i4.toInt).toNat < n → ag τ [60] y y_L34 → IM a u τ y_L34 → agg τ g g_L34 → IW (u 1) (u 2) (u 9) (y_L34 (a 89)) → pk a y y_L34 → 0 ≤ i4.toInt → i4.toInt ≤ u 4 → i3.toInt = -1 ∨ (0 ≤ i3.toInt ∧ i3.toInt < u 4) → tw (dC, dI) a k τ ln y_L34 g_L34 H → va_S A s.heap H locs → lv_has ls 5 [(0, .ref (a 50)), (1, .int p0), (2, .int p1), (3, .int i3), (4, .int i4)] → W p l e (headSpec wm_m_asks ({ frames := 384, cells := 0, slots := 0, locals := 25160 })).room s m ([.ref (a 50), .int p0, .int p1] : List Value).toArray below meth c H locs 0 0 (MQ below (va_Qi (fun (r u : Int32) => u = r) (fun (r : Int32) (t : State) => (∃ (y' : Nat → Nat → Int32) (g' : Nat → Nat → Option Nat), ag τ [60] y y' ∧ agg τ g g' ∧ IM a u τ y' ∧ pk a y y' ∧ tw (dC, dI) a k τ ln y' g' t.heap)) A) ([.ref (a 50), .int p0, .int p1] : List Value).toArray s 0 0 A) (F0 m 34 ls []) := by
        intro n
        induction n with
        | zero => intro i3 i4 y_L34 g_L34 H locs ls hlt; exact absurd hlt (Nat.not_lt_zero _)
        | succ n ih_34 =>
          intro i3 i4 y_L34 g_L34 H locs ls hlt hG hI hGg hW hPK hi34_0 hi34_1 hi34_2 hT hS hl
          refine lv_iload hx hb dX12_asks_34 (lv_at hl 4 rfl) ?_
          refine lv_aload_n hx hb dX12_asks_36 rfl (lv_at hl 0 rfl) ?_
          refine tw_get (D := (dC, dI)) (v := .int (y_L34 (a 50) 24)) (C := RX12) (T := TX12) (N := 58) hx hb hts (fun _ hh => (List.mem_cons_of_mem _ (List.mem_append_right _ (List.mem_append_left _ hh)))) hown hK hT (fx_50 hX) (by decide) cl_e60 rfl 24 (by decide) (hts (.fieldLink RX12 248 "TypingPoolModel" "rules" "I") (List.mem_cons_of_mem _ (List.mem_append_left _ (List.mem_of_getElem? (i := 1) rfl)))) (fun _ h9 => h9) rfl dX12_asks_37 ?_
          have hc_58 := im_4 hI
          refine lv_icmp_ge (tgt := 95) hx hb dX12_asks_40 (by decide) (fun c_59 => ?_) (fun c_59 => ?_)
          · have nc_59 := z_le hc_58 rfl c_59
            refine lv_iload_n hx hb dX12_asks_95 rfl (lv_at hl 3 rfl) ?_
            refine lv_iconst (v := (-1)) hx hb dX12_asks_96 (by decide) ?_
            refine lv_icmp_ne (tgt := 122) hx hb dX12_asks_97 (by decide) (fun c_60 => ?_) (fun c_60 => ?_)
            · have nc_60 := z_ne rfl (zk (x := (-1)) (-1) rfl) c_60
              refine lv_aload_n hx hb dX12_asks_122 rfl (lv_at hl 0 rfl) ?_
              refine lv_aload_n hx hb dX12_asks_123 rfl (lv_at hl 0 rfl) ?_
              refine tw_get (D := (dC, dI)) (v := .ref (a 71)) (C := RX12) (T := TX12) (N := 58) hx hb hts (fun _ hh => (List.mem_cons_of_mem _ (List.mem_append_right _ (List.mem_append_left _ hh)))) hown hK hT (fx_50 hX) (by decide) cl_e60 rfl 20 (by decide) (hts (.fieldLink RX12 58 "TypingPoolModel" "texts" "[B") (List.mem_cons_of_mem _ (List.mem_append_left _ (List.mem_of_getElem? (i := 2) rfl)))) (fun _ h9 => h9) rfl dX12_asks_124 ?_
              refine lv_bipush (v := 60) hx hb dX12_asks_127 (by decide) ?_
              refine lv_iload_n hx hb dX12_asks_129 rfl (lv_at hl 3 rfl) ?_
              refine lv_imul hx hb dX12_asks_130 ?_
              refine lv_topi (fun x_61 ex_61 => ?_)
              have hx_61 := z_mul ex_61 (zk (x := 60) 60 rfl) rfl (by omega) (by omega)
              refine lv_aload_n hx hb dX12_asks_131 rfl (lv_at hl 0 rfl) ?_
              refine tw_get (D := (dC, dI)) (v := .ref (a 72)) (C := RX12) (T := TX12) (N := 58) hx hb hts (fun _ hh => (List.mem_cons_of_mem _ (List.mem_append_right _ (List.mem_append_left _ hh)))) hown hK hT (fx_50 hX) (by decide) cl_e60 rfl 21 (by decide) (hts (.fieldLink RX12 62 "TypingPoolModel" "textSize" "[I") (List.mem_cons_of_mem _ (List.mem_append_left _ (List.mem_of_getElem? (i := 3) rfl)))) (fun _ h9 => h9) rfl dX12_asks_132 ?_
              refine lv_iload_n hx hb dX12_asks_135 rfl (lv_at hl 3 rfl) ?_
              refine tw_iald hx hb hK hT 0 (fx_72 hX) (by decide) cl_e82 rfl (z_in rfl (by omega) (by omega)) dX12_asks_136 ?_
              have hv_62 := vb_at (im_a72 hI) (x := i3) rfl (by omega) (by omega)
              refine lv_iload_n hx hb dX12_asks_137 rfl (lv_at hl 1 rfl) ?_
              have hFc := tw_free hF hS hA
              refine va_callv (va_runV (As := [.ref (a 71), .int x_61, .int (y_L34 (a 72) i3.toNatClampNeg), .int p0]) (rest := []) ⟨hx, hb, hml, hown, hts⟩ (m_openX l dC dI ad av H.size a k τ ln y_L34 g_L34 u x_61 (y_L34 (a 72) i3.toNatClampNeg) p0 hI hW) (cwV 4 hts (gi_4 (List.mem_cons_of_mem _ (List.mem_append_left _ (List.mem_of_getElem? (i := 4) rfl))) (List.mem_cons_of_mem _ (List.mem_append_left _ (List.mem_of_getElem? (i := 5) rfl))) (List.mem_cons_of_mem _ (List.mem_append_left _ (List.mem_of_getElem? (i := 6) rfl))) (List.mem_cons_of_mem _ (List.mem_append_left _ (List.mem_of_getElem? (i := 7) rfl))) (fun _ hh => (List.mem_cons_of_mem _ (List.mem_append_right _ (List.mem_append_right _ (List.mem_append_left _ hh))))) gd_m_openX) rfl rfl rfl (by decide +kernel) ⟨Nat.le_of_ble_eq_true rfl, Nat.le_of_ble_eq_true rfl⟩) ⟨pw_blind, tw_recv hK hT (fx_50 hX) (by decide) cl_e60 rfl, pw_use hT hK hFc hS hM⟩ rfl rfl hl.1 rfl (lv_room (Nat.le_of_ble_eq_true rfl)) dX12_asks_138 ⟨Nat.le_of_ble_eq_true rfl, Nat.le_of_ble_eq_true rfl⟩) hS (fun q _ h => hFc q h) hFc (fun u0 t H locs ht hvm hw hB hz1 hk1 hS => ?_)
              refine W.widen (k := 0) (n := 0) (Nat.le_of_ble_eq_true rfl) (Nat.le_of_ble_eq_true rfl) ?_
              clear hvm hz1 hk1
              obtain ⟨y_64, g_65, hgy_64, hggg_65, hI, hf_66, hf_67, hf_68, hf_69, hf_70, hf_71, hT⟩ := hB
              rw [ht] at hT
              have hG := hG.tr hgy_64 (by decide)
              have hGg := hGg.tr hggg_65
              have hW : IW (u 1) (u 2) (u 9) (y_64 (a 89)) := by rw [hgy_64.at (fx_89 hX) (by decide)]; exact hW
              have hPK := hPK.tr hf_71
              obtain ⟨iw_72, hltw_72, hi_iw_72, hslw_72⟩ := hf_67
              clear hc_1 hc_55 hc_58
              refine lv_aload_n hx hb dX12_asks_141 rfl (lv_at hl 0 rfl) ?_
              refine lv_iconst (v := 0) hx hb dX12_asks_142 (by decide) ?_
              have hFc := tw_free hF hS hA
              have hp_73 : (0 : Int32).toInt = 0 := (zk (x := 0) 0 rfl)
              refine va_calli (va_runV (As := [.int 0]) (rest := []) ⟨hx, hb, hml, hown, hts⟩ (m_any l dC dI ad av H.size a k τ ln y_64 g_65 u (0 : Int32) (a 71) 1200 iw_72 hI (by rw [fx_71 hX]; decide) (by rw [fx_71 hX]; intro f v; exact cl_e81) hf_66 hltw_72 hi_iw_72 hslw_72 (by omega) (by omega) (by omega) (by omega) (by omega) hW) (cwV 1 hts (gi_4 (List.mem_cons_of_mem _ (List.mem_append_left _ (List.mem_of_getElem? (i := 8) rfl))) (List.mem_cons_of_mem _ (List.mem_append_left _ (List.mem_of_getElem? (i := 9) rfl))) (List.mem_cons_of_mem _ (List.mem_append_left _ (List.mem_of_getElem? (i := 10) rfl))) (List.mem_cons_of_mem _ (List.mem_append_left _ (List.mem_of_getElem? (i := 7) rfl))) (fun _ hh => (List.mem_cons_of_mem _ (List.mem_append_right _ (List.mem_append_right _ (List.mem_append_right _ (List.mem_append_left _ hh)))))) gd_g_any) rfl rfl rfl (by decide +kernel) ⟨Nat.le_of_ble_eq_true rfl, Nat.le_of_ble_eq_true rfl⟩) ⟨pw_blind, tw_recv hK hT (fx_50 hX) (by decide) cl_e60 rfl, pw_use hT hK hFc hS hM⟩ rfl rfl hl.1 rfl (lv_room (Nat.le_of_ble_eq_true rfl)) dX12_asks_143 ⟨Nat.le_of_ble_eq_true rfl, Nat.le_of_ble_eq_true rfl⟩) hS (fun q _ h => hFc q h) hFc (fun r0 r_74 t H locs ht hvm hw hB hz1 hk1 hS => ?_)
              refine W.widen (k := 0) (n := 0) (Nat.le_of_ble_eq_true rfl) (Nat.le_of_ble_eq_true rfl) ?_
              clear hvm hz1 hk1
              subst hw
              obtain ⟨y_75, hgy_75, hI, hf_76, hf_77, hf_78, hf_79, hT⟩ := hB
              rw [ht] at hT
              have hG := hG.tr hgy_75 (by decide)
              have hW : IW (u 1) (u 2) (u 9) (y_75 (a 89)) := by rw [hgy_75.at (fx_89 hX) (by decide)]; exact hW
              try simp only [hp_73] at hf_76 hf_77 hf_78 hf_79
              clear hp_73
              have hPK := hPK.tr hf_79
              have hrv : r_74.toInt = r_74.toInt := rfl
              exact W.iret (v := r_74) hx hb hr (fun t ht hW9 => ⟨⟨r_74, r_74, rfl, rfl, ⟨y_75, g_65, hG, hGg, hI, hPK, tw_at ht hT⟩⟩, hS.F ht⟩) hS.2.2 dX12_asks_146
            · have nc_60 := z_eq rfl (zk (x := (-1)) (-1) rfl) c_60
              refine lv_aload_n hx hb dX12_asks_100 rfl (lv_at hl 0 rfl) ?_
              refine lv_aload_n hx hb dX12_asks_101 rfl (lv_at hl 0 rfl) ?_
              refine tw_get (D := (dC, dI)) (v := .ref (a 76)) (C := RX12) (T := TX12) (N := 58) hx hb hts (fun _ hh => (List.mem_cons_of_mem _ (List.mem_append_right _ (List.mem_append_left _ hh)))) hown hK hT (fx_50 hX) (by decide) cl_e60 rfl 25 (by decide) (hts (.fieldLink RX12 79 "TypingPoolModel" "first" "[B") (List.mem_cons_of_mem _ (List.mem_append_left _ (List.mem_of_getElem? (i := 11) rfl)))) (fun _ h9 => h9) rfl dX12_asks_102 ?_
              obtain ⟨f0, f1, hZ0, hT0, hZ1, hT1⟩ := hM.2.2.2.2.2.2.2.2.2
              refine va_gets hx hb hZ0 hS hown (hts (.fieldLink RX12 255 "TypingPoolModel" "FIRST_FROM" "[I") (List.mem_cons_of_mem _ (List.mem_append_left _ (List.mem_of_getElem? (i := 12) rfl)))) (fun _ h9 => h9) dX12_asks_105 ?_
              refine lv_iload_n hx hb dX12_asks_108 rfl (lv_at hl 1 rfl) ?_
              refine va_ti hx hb hT0 hS (z_in rfl (by omega) (by omega)) rfl dX12_asks_109 ?_
              have hfr_80 := fr_ok (x := p0) rfl (by omega) (by omega)
              refine va_gets hx hb hZ1 hS hown (hts (.fieldLink RX12 258 "TypingPoolModel" "FIRST_SIZE" "[I") (List.mem_cons_of_mem _ (List.mem_append_left _ (List.mem_of_getElem? (i := 13) rfl)))) (fun _ h9 => h9) dX12_asks_110 ?_
              refine lv_iload_n hx hb dX12_asks_113 rfl (lv_at hl 1 rfl) ?_
              refine va_ti hx hb hT1 hS (z_in rfl (by omega) (by omega)) rfl dX12_asks_114 ?_
              have hfr_81 := fr_ok (x := p0) rfl (by omega) (by omega)
              refine lv_iload_n hx hb dX12_asks_115 rfl (lv_at hl 1 rfl) ?_
              have hFc := tw_free hF hS hA
              refine va_callv (va_runV (As := [.ref (a 76), .int (frm p0.toNatClampNeg), .int (fsz p0.toNatClampNeg), .int p0]) (rest := []) ⟨hx, hb, hml, hown, hts⟩ (m_openF l dC dI ad av H.size a k τ ln y_L34 g_L34 u (frm p0.toNatClampNeg) (fsz p0.toNatClampNeg) p0 hI hW) (cwV 4 hts (gi_4 (List.mem_cons_of_mem _ (List.mem_append_left _ (List.mem_of_getElem? (i := 4) rfl))) (List.mem_cons_of_mem _ (List.mem_append_left _ (List.mem_of_getElem? (i := 5) rfl))) (List.mem_cons_of_mem _ (List.mem_append_left _ (List.mem_of_getElem? (i := 6) rfl))) (List.mem_cons_of_mem _ (List.mem_append_left _ (List.mem_of_getElem? (i := 7) rfl))) (fun _ hh => (List.mem_cons_of_mem _ (List.mem_append_right _ (List.mem_append_right _ (List.mem_append_right _ (List.mem_append_right _ (List.mem_append_left _ hh))))))) gd_m_openF) rfl rfl rfl (by decide +kernel) ⟨Nat.le_of_ble_eq_true rfl, Nat.le_of_ble_eq_true rfl⟩) ⟨pw_blind, tw_recv hK hT (fx_50 hX) (by decide) cl_e60 rfl, pw_use hT hK hFc hS hM⟩ rfl rfl hl.1 rfl (lv_room (Nat.le_of_ble_eq_true rfl)) dX12_asks_116 ⟨Nat.le_of_ble_eq_true rfl, Nat.le_of_ble_eq_true rfl⟩) hS (fun q _ h => hFc q h) hFc (fun u0 t H locs ht hvm hw hB hz1 hk1 hS => ?_)
              refine W.widen (k := 0) (n := 0) (Nat.le_of_ble_eq_true rfl) (Nat.le_of_ble_eq_true rfl) ?_
              clear hvm hz1 hk1
              obtain ⟨y_83, g_84, hgy_83, hggg_84, hI, hf_85, hf_86, hf_87, hf_88, hf_89, hf_90, hT⟩ := hB
              rw [ht] at hT
              have hG := hG.tr hgy_83 (by decide)
              have hGg := hGg.tr hggg_84
              have hW : IW (u 1) (u 2) (u 9) (y_83 (a 89)) := by rw [hgy_83.at (fx_89 hX) (by decide)]; exact hW
              have hPK := hPK.tr hf_90
              obtain ⟨iw_91, hltw_91, hi_iw_91, hslw_91⟩ := hf_86
              clear hc_1 hc_55 hc_58
              refine lv_goto (tgt := 141) hx hb dX12_asks_119 (by decide) ?_
              refine lv_aload_n hx hb dX12_asks_141 rfl (lv_at hl 0 rfl) ?_
              refine lv_iconst (v := 0) hx hb dX12_asks_142 (by decide) ?_
              have hFc := tw_free hF hS hA
              have hp_92 : (0 : Int32).toInt = 0 := (zk (x := 0) 0 rfl)
              refine va_calli (va_runV (As := [.int 0]) (rest := []) ⟨hx, hb, hml, hown, hts⟩ (m_any l dC dI ad av H.size a k τ ln y_83 g_84 u (0 : Int32) (a 76) 22 iw_91 hI (by rw [fx_76 hX]; decide) (by rw [fx_76 hX]; intro f v; exact cl_e86) hf_85 hltw_91 hi_iw_91 hslw_91 (by omega) (by omega) (by omega) (by omega) (by omega) hW) (cwV 1 hts (gi_4 (List.mem_cons_of_mem _ (List.mem_append_left _ (List.mem_of_getElem? (i := 8) rfl))) (List.mem_cons_of_mem _ (List.mem_append_left _ (List.mem_of_getElem? (i := 9) rfl))) (List.mem_cons_of_mem _ (List.mem_append_left _ (List.mem_of_getElem? (i := 10) rfl))) (List.mem_cons_of_mem _ (List.mem_append_left _ (List.mem_of_getElem? (i := 7) rfl))) (fun _ hh => (List.mem_cons_of_mem _ (List.mem_append_right _ (List.mem_append_right _ (List.mem_append_right _ (List.mem_append_left _ hh)))))) gd_g_any) rfl rfl rfl (by decide +kernel) ⟨Nat.le_of_ble_eq_true rfl, Nat.le_of_ble_eq_true rfl⟩) ⟨pw_blind, tw_recv hK hT (fx_50 hX) (by decide) cl_e60 rfl, pw_use hT hK hFc hS hM⟩ rfl rfl hl.1 rfl (lv_room (Nat.le_of_ble_eq_true rfl)) dX12_asks_143 ⟨Nat.le_of_ble_eq_true rfl, Nat.le_of_ble_eq_true rfl⟩) hS (fun q _ h => hFc q h) hFc (fun r0 r_93 t H locs ht hvm hw hB hz1 hk1 hS => ?_)
              refine W.widen (k := 0) (n := 0) (Nat.le_of_ble_eq_true rfl) (Nat.le_of_ble_eq_true rfl) ?_
              clear hvm hz1 hk1
              subst hw
              obtain ⟨y_94, hgy_94, hI, hf_95, hf_96, hf_97, hf_98, hT⟩ := hB
              rw [ht] at hT
              have hG := hG.tr hgy_94 (by decide)
              have hW : IW (u 1) (u 2) (u 9) (y_94 (a 89)) := by rw [hgy_94.at (fx_89 hX) (by decide)]; exact hW
              try simp only [hp_92] at hf_95 hf_96 hf_97 hf_98
              clear hp_92
              have hPK := hPK.tr hf_98
              have hrv : r_93.toInt = r_93.toInt := rfl
              exact W.iret (v := r_93) hx hb hr (fun t ht hW9 => ⟨⟨r_93, r_93, rfl, rfl, ⟨y_94, g_84, hG, hGg, hI, hPK, tw_at ht hT⟩⟩, hS.F ht⟩) hS.2.2 dX12_asks_146
          · have nc_59 := z_nle hc_58 rfl c_59
            refine lv_aload_n hx hb dX12_asks_43 rfl (lv_at hl 0 rfl) ?_
            refine tw_get (D := (dC, dI)) (v := .ref (a 73)) (C := RX12) (T := TX12) (N := 58) hx hb hts (fun _ hh => (List.mem_cons_of_mem _ (List.mem_append_right _ (List.mem_append_left _ hh)))) hown hK hT (fx_50 hX) (by decide) cl_e60 rfl 22 (by decide) (hts (.fieldLink RX12 65 "TypingPoolModel" "textKind" "[I") (List.mem_cons_of_mem _ (List.mem_append_left _ (List.mem_of_getElem? (i := 14) rfl)))) (fun _ h9 => h9) rfl dX12_asks_44 ?_
            refine lv_iload hx hb dX12_asks_47 (lv_at hl 4 rfl) ?_
            refine tw_iald hx hb hK hT 0 (fx_73 hX) (by decide) cl_e83 rfl (z_in rfl (by omega) (by omega)) dX12_asks_49 ?_
            refine lv_iload_n hx hb dX12_asks_50 rfl (lv_at hl 1 rfl) ?_
            refine lv_icmp_ne (tgt := 89) hx hb dX12_asks_51 (by decide) (fun c_99 => ?_) (fun c_99 => ?_)
            · have nc_99 := z_ne rfl rfl c_99
              obtain ⟨x_100, ex_100⟩ : ∃ y : Int32, y = i4 + Int32.ofInt 1 := ⟨_, rfl⟩
              have hx_100 := z_add ex_100 rfl (zk (x := Int32.ofInt 1) 1 rfl) (by omega) (by omega)
              refine lv_iinc (v := x_100) (lv' := [(4, .int x_100), (0, .ref (a 50)), (1, .int p0), (2, .int p1), (3, .int i3)]) hx hb dX12_asks_89 hl (k := 4) rfl ex_100.symm (by decide) rfl (fun ls hl => ?_)
              refine lv_goto (tgt := 34) hx hb dX12_asks_92 (by decide) ?_
              exact ih_34  i3 x_100 y_L34 g_L34 H _ ls (by omega) hG hI hGg hW hPK (by omega) (by omega) (by omega) hT hS (lv_sub hl [1, 2, 3, 4, 0] rfl)
            · have nc_99 := z_eq rfl rfl c_99
              refine lv_aload_n hx hb dX12_asks_54 rfl (lv_at hl 0 rfl) ?_
              refine tw_get (D := (dC, dI)) (v := .ref (a 74)) (C := RX12) (T := TX12) (N := 58) hx hb hts (fun _ hh => (List.mem_cons_of_mem _ (List.mem_append_right _ (List.mem_append_left _ hh)))) hown hK hT (fx_50 hX) (by decide) cl_e60 rfl 23 (by decide) (hts (.fieldLink RX12 68 "TypingPoolModel" "textDay" "[I") (List.mem_cons_of_mem _ (List.mem_append_left _ (List.mem_of_getElem? (i := 15) rfl)))) (fun _ h9 => h9) rfl dX12_asks_55 ?_
              refine lv_iload hx hb dX12_asks_58 (lv_at hl 4 rfl) ?_
              refine tw_iald hx hb hK hT 0 (fx_74 hX) (by decide) cl_e84 rfl (z_in rfl (by omega) (by omega)) dX12_asks_60 ?_
              refine lv_iload_n hx hb dX12_asks_61 rfl (lv_at hl 2 rfl) ?_
              refine lv_icmp_gt (tgt := 89) hx hb dX12_asks_62 (by decide) (fun c_101 => ?_) (fun c_101 => ?_)
              · have nc_101 := z_lt rfl rfl c_101
                obtain ⟨x_102, ex_102⟩ : ∃ y : Int32, y = i4 + Int32.ofInt 1 := ⟨_, rfl⟩
                have hx_102 := z_add ex_102 rfl (zk (x := Int32.ofInt 1) 1 rfl) (by omega) (by omega)
                refine lv_iinc (v := x_102) (lv' := [(4, .int x_102), (0, .ref (a 50)), (1, .int p0), (2, .int p1), (3, .int i3)]) hx hb dX12_asks_89 hl (k := 4) rfl ex_102.symm (by decide) rfl (fun ls hl => ?_)
                refine lv_goto (tgt := 34) hx hb dX12_asks_92 (by decide) ?_
                exact ih_34  i3 x_102 y_L34 g_L34 H _ ls (by omega) hG hI hGg hW hPK (by omega) (by omega) (by omega) hT hS (lv_sub hl [1, 2, 3, 4, 0] rfl)
              · have nc_101 := z_nlt rfl rfl c_101
                refine lv_iload_n hx hb dX12_asks_65 rfl (lv_at hl 3 rfl) ?_
                refine lv_iconst (v := (-1)) hx hb dX12_asks_66 (by decide) ?_
                refine lv_icmp_eq (tgt := 86) hx hb dX12_asks_67 (by decide) (fun c_103 => ?_) (fun c_103 => ?_)
                · have nc_103 := z_eq rfl (zk (x := (-1)) (-1) rfl) c_103
                  refine lv_iload hx hb dX12_asks_86 (lv_at hl 4 rfl) ?_
                  refine lv_istore_n (lv' := [(3, .int i4), (0, .ref (a 50)), (1, .int p0), (2, .int p1), (4, .int i4)]) hx hb dX12_asks_88 rfl hl (by decide) rfl (fun ls hl => ?_)
                  obtain ⟨x_104, ex_104⟩ : ∃ y : Int32, y = i4 + Int32.ofInt 1 := ⟨_, rfl⟩
                  have hx_104 := z_add ex_104 rfl (zk (x := Int32.ofInt 1) 1 rfl) (by omega) (by omega)
                  refine lv_iinc (v := x_104) (lv' := [(4, .int x_104), (3, .int i4), (0, .ref (a 50)), (1, .int p0), (2, .int p1)]) hx hb dX12_asks_89 hl (k := 4) rfl ex_104.symm (by decide) rfl (fun ls hl => ?_)
                  refine lv_goto (tgt := 34) hx hb dX12_asks_92 (by decide) ?_
                  exact ih_34  i4 x_104 y_L34 g_L34 H _ ls (by omega) hG hI hGg hW hPK (by omega) (by omega) (by omega) hT hS (lv_sub hl [2, 3, 4, 1, 0] rfl)
                · have nc_103 := z_ne rfl (zk (x := (-1)) (-1) rfl) c_103
                  refine lv_aload_n hx hb dX12_asks_70 rfl (lv_at hl 0 rfl) ?_
                  refine tw_get (D := (dC, dI)) (v := .ref (a 74)) (C := RX12) (T := TX12) (N := 58) hx hb hts (fun _ hh => (List.mem_cons_of_mem _ (List.mem_append_right _ (List.mem_append_left _ hh)))) hown hK hT (fx_50 hX) (by decide) cl_e60 rfl 23 (by decide) (hts (.fieldLink RX12 68 "TypingPoolModel" "textDay" "[I") (List.mem_cons_of_mem _ (List.mem_append_left _ (List.mem_of_getElem? (i := 15) rfl)))) (fun _ h9 => h9) rfl dX12_asks_71 ?_
                  refine lv_iload hx hb dX12_asks_74 (lv_at hl 4 rfl) ?_
                  refine tw_iald hx hb hK hT 0 (fx_74 hX) (by decide) cl_e84 rfl (z_in rfl (by omega) (by omega)) dX12_asks_76 ?_
                  refine lv_aload_n hx hb dX12_asks_77 rfl (lv_at hl 0 rfl) ?_
                  refine tw_get (D := (dC, dI)) (v := .ref (a 74)) (C := RX12) (T := TX12) (N := 58) hx hb hts (fun _ hh => (List.mem_cons_of_mem _ (List.mem_append_right _ (List.mem_append_left _ hh)))) hown hK hT (fx_50 hX) (by decide) cl_e60 rfl 23 (by decide) (hts (.fieldLink RX12 68 "TypingPoolModel" "textDay" "[I") (List.mem_cons_of_mem _ (List.mem_append_left _ (List.mem_of_getElem? (i := 15) rfl)))) (fun _ h9 => h9) rfl dX12_asks_78 ?_
                  refine lv_iload_n hx hb dX12_asks_81 rfl (lv_at hl 3 rfl) ?_
                  refine tw_iald hx hb hK hT 0 (fx_74 hX) (by decide) cl_e84 rfl (z_in rfl (by omega) (by omega)) dX12_asks_82 ?_
                  refine lv_icmp_lt (tgt := 89) hx hb dX12_asks_83 (by decide) (fun c_105 => ?_) (fun c_105 => ?_)
                  · have nc_105 := z_lt rfl rfl c_105
                    obtain ⟨x_106, ex_106⟩ : ∃ y : Int32, y = i4 + Int32.ofInt 1 := ⟨_, rfl⟩
                    have hx_106 := z_add ex_106 rfl (zk (x := Int32.ofInt 1) 1 rfl) (by omega) (by omega)
                    refine lv_iinc (v := x_106) (lv' := [(4, .int x_106), (0, .ref (a 50)), (1, .int p0), (2, .int p1), (3, .int i3)]) hx hb dX12_asks_89 hl (k := 4) rfl ex_106.symm (by decide) rfl (fun ls hl => ?_)
                    refine lv_goto (tgt := 34) hx hb dX12_asks_92 (by decide) ?_
                    exact ih_34  i3 x_106 y_L34 g_L34 H _ ls (by omega) hG hI hGg hW hPK (by omega) (by omega) (by omega) hT hS (lv_sub hl [1, 2, 3, 4, 0] rfl)
                  · have nc_105 := z_nlt rfl rfl c_105
                    refine lv_iload hx hb dX12_asks_86 (lv_at hl 4 rfl) ?_
                    refine lv_istore_n (lv' := [(3, .int i4), (0, .ref (a 50)), (1, .int p0), (2, .int p1), (4, .int i4)]) hx hb dX12_asks_88 rfl hl (by decide) rfl (fun ls hl => ?_)
                    obtain ⟨x_107, ex_107⟩ : ∃ y : Int32, y = i4 + Int32.ofInt 1 := ⟨_, rfl⟩
                    have hx_107 := z_add ex_107 rfl (zk (x := Int32.ofInt 1) 1 rfl) (by omega) (by omega)
                    refine lv_iinc (v := x_107) (lv' := [(4, .int x_107), (3, .int i4), (0, .ref (a 50)), (1, .int p0), (2, .int p1)]) hx hb dX12_asks_89 hl (k := 4) rfl ex_107.symm (by decide) rfl (fun ls hl => ?_)
                    refine lv_goto (tgt := 34) hx hb dX12_asks_92 (by decide) ?_
                    exact ih_34  i4 x_107 y_L34 g_L34 H _ ls (by omega) hG hI hGg hW hPK (by omega) (by omega) (by omega) hT hS (lv_sub hl [2, 3, 4, 1, 0] rfl)
      have hp_108 : (-1 : Int32).toInt = (-1) := (zk (x := (-1)) (-1) rfl)
      have hp_109 : (0 : Int32).toInt = 0 := (zk (x := 0) 0 rfl)
      exact loop_34 _ (-1 : Int32) (0 : Int32) y g s.heap _ ls (Nat.lt_succ_self _) hG hI hGg hW hPK (by omega) (by omega) (by omega) hT hS (lv_sub hl [2, 3, 4, 1, 0] rfl)
    · have nc_57 := z_eq rfl rfl c_57
      refine lv_aload_n hx hb dX12_asks_23 rfl (lv_at hl 1 rfl) ?_
      refine tw_get (D := (dC, dI)) (v := .int (y (a 50) 40)) (C := RX12) (T := TX12) (N := 58) hx hb hts (fun _ hh => (List.mem_cons_of_mem _ (List.mem_append_right _ (List.mem_append_left _ hh)))) hown hK hT (fx_50 hX) (by decide) cl_e60 rfl 40 (by decide) (hts (.fieldLink RX12 113 "TypingPoolModel" "forced" "I") (List.mem_cons_of_mem _ (List.mem_append_left _ (List.mem_of_getElem? (i := 0) rfl)))) (fun _ h9 => h9) rfl dX12_asks_24 ?_
      have hc_110 := im_10 hI
      refine lv_istore_n (lv' := [(3, .int (y (a 50) 40)), (0, .ref (a 50)), (1, .int p0), (2, .int p1)]) hx hb dX12_asks_27 rfl hl (by decide) rfl (fun ls hl => ?_)
      refine lv_goto (tgt := 95) hx hb dX12_asks_28 (by decide) ?_
      refine lv_iload_n hx hb dX12_asks_95 rfl (lv_at hl 0 rfl) ?_
      refine lv_iconst (v := (-1)) hx hb dX12_asks_96 (by decide) ?_
      refine lv_icmp_ne (tgt := 122) hx hb dX12_asks_97 (by decide) (fun c_111 => ?_) (fun c_111 => ?_)
      · have nc_111 := z_ne hc_110 (zk (x := (-1)) (-1) rfl) c_111
        refine lv_aload_n hx hb dX12_asks_122 rfl (lv_at hl 1 rfl) ?_
        refine lv_aload_n hx hb dX12_asks_123 rfl (lv_at hl 1 rfl) ?_
        refine tw_get (D := (dC, dI)) (v := .ref (a 71)) (C := RX12) (T := TX12) (N := 58) hx hb hts (fun _ hh => (List.mem_cons_of_mem _ (List.mem_append_right _ (List.mem_append_left _ hh)))) hown hK hT (fx_50 hX) (by decide) cl_e60 rfl 20 (by decide) (hts (.fieldLink RX12 58 "TypingPoolModel" "texts" "[B") (List.mem_cons_of_mem _ (List.mem_append_left _ (List.mem_of_getElem? (i := 2) rfl)))) (fun _ h9 => h9) rfl dX12_asks_124 ?_
        refine lv_bipush (v := 60) hx hb dX12_asks_127 (by decide) ?_
        refine lv_iload_n hx hb dX12_asks_129 rfl (lv_at hl 0 rfl) ?_
        refine lv_imul hx hb dX12_asks_130 ?_
        refine lv_topi (fun x_112 ex_112 => ?_)
        have hx_112 := z_mul ex_112 (zk (x := 60) 60 rfl) hc_110 (by omega) (by omega)
        refine lv_aload_n hx hb dX12_asks_131 rfl (lv_at hl 1 rfl) ?_
        refine tw_get (D := (dC, dI)) (v := .ref (a 72)) (C := RX12) (T := TX12) (N := 58) hx hb hts (fun _ hh => (List.mem_cons_of_mem _ (List.mem_append_right _ (List.mem_append_left _ hh)))) hown hK hT (fx_50 hX) (by decide) cl_e60 rfl 21 (by decide) (hts (.fieldLink RX12 62 "TypingPoolModel" "textSize" "[I") (List.mem_cons_of_mem _ (List.mem_append_left _ (List.mem_of_getElem? (i := 3) rfl)))) (fun _ h9 => h9) rfl dX12_asks_132 ?_
        refine lv_iload_n hx hb dX12_asks_135 rfl (lv_at hl 0 rfl) ?_
        refine tw_iald hx hb hK hT 0 (fx_72 hX) (by decide) cl_e82 rfl (z_in hc_110 hbd_56.1 hbd_56.2) dX12_asks_136 ?_
        have hv_113 := vb_at (im_a72 hI) (x := (y (a 50) 40)) hc_110 (by omega) (by omega)
        refine lv_iload_n hx hb dX12_asks_137 rfl (lv_at hl 2 rfl) ?_
        have hFc := tw_free hF hS hA
        refine va_callv (va_runV (As := [.ref (a 71), .int x_112, .int (y (a 72) (y (a 50) 40).toNatClampNeg), .int p0]) (rest := []) ⟨hx, hb, hml, hown, hts⟩ (m_openX l dC dI ad av s.heap.size a k τ ln y g u x_112 (y (a 72) (y (a 50) 40).toNatClampNeg) p0 hI hW) (cwV 4 hts (gi_4 (List.mem_cons_of_mem _ (List.mem_append_left _ (List.mem_of_getElem? (i := 4) rfl))) (List.mem_cons_of_mem _ (List.mem_append_left _ (List.mem_of_getElem? (i := 5) rfl))) (List.mem_cons_of_mem _ (List.mem_append_left _ (List.mem_of_getElem? (i := 6) rfl))) (List.mem_cons_of_mem _ (List.mem_append_left _ (List.mem_of_getElem? (i := 7) rfl))) (fun _ hh => (List.mem_cons_of_mem _ (List.mem_append_right _ (List.mem_append_right _ (List.mem_append_left _ hh))))) gd_m_openX) rfl rfl rfl (by decide +kernel) ⟨Nat.le_of_ble_eq_true rfl, Nat.le_of_ble_eq_true rfl⟩) ⟨pw_blind, tw_recv hK hT (fx_50 hX) (by decide) cl_e60 rfl, pw_use hT hK hFc hS hM⟩ rfl rfl hl.1 rfl (lv_room (Nat.le_of_ble_eq_true rfl)) dX12_asks_138 ⟨Nat.le_of_ble_eq_true rfl, Nat.le_of_ble_eq_true rfl⟩) hS (fun q _ h => hFc q h) hFc (fun u0 t H locs ht hvm hw hB hz1 hk1 hS => ?_)
        refine W.widen (k := 0) (n := 0) (Nat.le_of_ble_eq_true rfl) (Nat.le_of_ble_eq_true rfl) ?_
        clear hvm hz1 hk1
        obtain ⟨y_115, g_116, hgy_115, hggg_116, hI, hf_117, hf_118, hf_119, hf_120, hf_121, hf_122, hT⟩ := hB
        rw [ht] at hT
        have hG := hG.tr hgy_115 (by decide)
        have hGg := hGg.tr hggg_116
        have hW : IW (u 1) (u 2) (u 9) (y_115 (a 89)) := by rw [hgy_115.at (fx_89 hX) (by decide)]; exact hW
        have hPK := hPK.tr hf_122
        obtain ⟨iw_123, hltw_123, hi_iw_123, hslw_123⟩ := hf_118
        clear hc_1 hc_55
        refine lv_aload_n hx hb dX12_asks_141 rfl (lv_at hl 1 rfl) ?_
        refine lv_iconst (v := 0) hx hb dX12_asks_142 (by decide) ?_
        have hFc := tw_free hF hS hA
        have hp_124 : (0 : Int32).toInt = 0 := (zk (x := 0) 0 rfl)
        refine va_calli (va_runV (As := [.int 0]) (rest := []) ⟨hx, hb, hml, hown, hts⟩ (m_any l dC dI ad av H.size a k τ ln y_115 g_116 u (0 : Int32) (a 71) 1200 iw_123 hI (by rw [fx_71 hX]; decide) (by rw [fx_71 hX]; intro f v; exact cl_e81) hf_117 hltw_123 hi_iw_123 hslw_123 (by omega) (by omega) (by omega) (by omega) (by omega) hW) (cwV 1 hts (gi_4 (List.mem_cons_of_mem _ (List.mem_append_left _ (List.mem_of_getElem? (i := 8) rfl))) (List.mem_cons_of_mem _ (List.mem_append_left _ (List.mem_of_getElem? (i := 9) rfl))) (List.mem_cons_of_mem _ (List.mem_append_left _ (List.mem_of_getElem? (i := 10) rfl))) (List.mem_cons_of_mem _ (List.mem_append_left _ (List.mem_of_getElem? (i := 7) rfl))) (fun _ hh => (List.mem_cons_of_mem _ (List.mem_append_right _ (List.mem_append_right _ (List.mem_append_right _ (List.mem_append_left _ hh)))))) gd_g_any) rfl rfl rfl (by decide +kernel) ⟨Nat.le_of_ble_eq_true rfl, Nat.le_of_ble_eq_true rfl⟩) ⟨pw_blind, tw_recv hK hT (fx_50 hX) (by decide) cl_e60 rfl, pw_use hT hK hFc hS hM⟩ rfl rfl hl.1 rfl (lv_room (Nat.le_of_ble_eq_true rfl)) dX12_asks_143 ⟨Nat.le_of_ble_eq_true rfl, Nat.le_of_ble_eq_true rfl⟩) hS (fun q _ h => hFc q h) hFc (fun r0 r_125 t H locs ht hvm hw hB hz1 hk1 hS => ?_)
        refine W.widen (k := 0) (n := 0) (Nat.le_of_ble_eq_true rfl) (Nat.le_of_ble_eq_true rfl) ?_
        clear hvm hz1 hk1
        subst hw
        obtain ⟨y_126, hgy_126, hI, hf_127, hf_128, hf_129, hf_130, hT⟩ := hB
        rw [ht] at hT
        have hG := hG.tr hgy_126 (by decide)
        have hW : IW (u 1) (u 2) (u 9) (y_126 (a 89)) := by rw [hgy_126.at (fx_89 hX) (by decide)]; exact hW
        try simp only [hp_124] at hf_127 hf_128 hf_129 hf_130
        clear hp_124
        have hPK := hPK.tr hf_130
        have hrv : r_125.toInt = r_125.toInt := rfl
        exact W.iret (v := r_125) hx hb hr (fun t ht hW9 => ⟨⟨r_125, r_125, rfl, rfl, ⟨y_126, g_116, hG, hGg, hI, hPK, tw_at ht hT⟩⟩, hS.F ht⟩) hS.2.2 dX12_asks_146
      · have nc_111 := z_eq hc_110 (zk (x := (-1)) (-1) rfl) c_111
        refine lv_aload_n hx hb dX12_asks_100 rfl (lv_at hl 1 rfl) ?_
        refine lv_aload_n hx hb dX12_asks_101 rfl (lv_at hl 1 rfl) ?_
        refine tw_get (D := (dC, dI)) (v := .ref (a 76)) (C := RX12) (T := TX12) (N := 58) hx hb hts (fun _ hh => (List.mem_cons_of_mem _ (List.mem_append_right _ (List.mem_append_left _ hh)))) hown hK hT (fx_50 hX) (by decide) cl_e60 rfl 25 (by decide) (hts (.fieldLink RX12 79 "TypingPoolModel" "first" "[B") (List.mem_cons_of_mem _ (List.mem_append_left _ (List.mem_of_getElem? (i := 11) rfl)))) (fun _ h9 => h9) rfl dX12_asks_102 ?_
        obtain ⟨f0, f1, hZ0, hT0, hZ1, hT1⟩ := hM.2.2.2.2.2.2.2.2.2
        refine va_gets hx hb hZ0 hS hown (hts (.fieldLink RX12 255 "TypingPoolModel" "FIRST_FROM" "[I") (List.mem_cons_of_mem _ (List.mem_append_left _ (List.mem_of_getElem? (i := 12) rfl)))) (fun _ h9 => h9) dX12_asks_105 ?_
        refine lv_iload_n hx hb dX12_asks_108 rfl (lv_at hl 2 rfl) ?_
        refine va_ti hx hb hT0 hS (z_in rfl (by omega) (by omega)) rfl dX12_asks_109 ?_
        have hfr_131 := fr_ok (x := p0) rfl (by omega) (by omega)
        refine va_gets hx hb hZ1 hS hown (hts (.fieldLink RX12 258 "TypingPoolModel" "FIRST_SIZE" "[I") (List.mem_cons_of_mem _ (List.mem_append_left _ (List.mem_of_getElem? (i := 13) rfl)))) (fun _ h9 => h9) dX12_asks_110 ?_
        refine lv_iload_n hx hb dX12_asks_113 rfl (lv_at hl 2 rfl) ?_
        refine va_ti hx hb hT1 hS (z_in rfl (by omega) (by omega)) rfl dX12_asks_114 ?_
        have hfr_132 := fr_ok (x := p0) rfl (by omega) (by omega)
        refine lv_iload_n hx hb dX12_asks_115 rfl (lv_at hl 2 rfl) ?_
        have hFc := tw_free hF hS hA
        refine va_callv (va_runV (As := [.ref (a 76), .int (frm p0.toNatClampNeg), .int (fsz p0.toNatClampNeg), .int p0]) (rest := []) ⟨hx, hb, hml, hown, hts⟩ (m_openF l dC dI ad av s.heap.size a k τ ln y g u (frm p0.toNatClampNeg) (fsz p0.toNatClampNeg) p0 hI hW) (cwV 4 hts (gi_4 (List.mem_cons_of_mem _ (List.mem_append_left _ (List.mem_of_getElem? (i := 4) rfl))) (List.mem_cons_of_mem _ (List.mem_append_left _ (List.mem_of_getElem? (i := 5) rfl))) (List.mem_cons_of_mem _ (List.mem_append_left _ (List.mem_of_getElem? (i := 6) rfl))) (List.mem_cons_of_mem _ (List.mem_append_left _ (List.mem_of_getElem? (i := 7) rfl))) (fun _ hh => (List.mem_cons_of_mem _ (List.mem_append_right _ (List.mem_append_right _ (List.mem_append_right _ (List.mem_append_right _ (List.mem_append_left _ hh))))))) gd_m_openF) rfl rfl rfl (by decide +kernel) ⟨Nat.le_of_ble_eq_true rfl, Nat.le_of_ble_eq_true rfl⟩) ⟨pw_blind, tw_recv hK hT (fx_50 hX) (by decide) cl_e60 rfl, pw_use hT hK hFc hS hM⟩ rfl rfl hl.1 rfl (lv_room (Nat.le_of_ble_eq_true rfl)) dX12_asks_116 ⟨Nat.le_of_ble_eq_true rfl, Nat.le_of_ble_eq_true rfl⟩) hS (fun q _ h => hFc q h) hFc (fun u0 t H locs ht hvm hw hB hz1 hk1 hS => ?_)
        refine W.widen (k := 0) (n := 0) (Nat.le_of_ble_eq_true rfl) (Nat.le_of_ble_eq_true rfl) ?_
        clear hvm hz1 hk1
        obtain ⟨y_134, g_135, hgy_134, hggg_135, hI, hf_136, hf_137, hf_138, hf_139, hf_140, hf_141, hT⟩ := hB
        rw [ht] at hT
        have hG := hG.tr hgy_134 (by decide)
        have hGg := hGg.tr hggg_135
        have hW : IW (u 1) (u 2) (u 9) (y_134 (a 89)) := by rw [hgy_134.at (fx_89 hX) (by decide)]; exact hW
        have hPK := hPK.tr hf_141
        obtain ⟨iw_142, hltw_142, hi_iw_142, hslw_142⟩ := hf_137
        clear hc_1 hc_55
        refine lv_goto (tgt := 141) hx hb dX12_asks_119 (by decide) ?_
        refine lv_aload_n hx hb dX12_asks_141 rfl (lv_at hl 1 rfl) ?_
        refine lv_iconst (v := 0) hx hb dX12_asks_142 (by decide) ?_
        have hFc := tw_free hF hS hA
        have hp_143 : (0 : Int32).toInt = 0 := (zk (x := 0) 0 rfl)
        refine va_calli (va_runV (As := [.int 0]) (rest := []) ⟨hx, hb, hml, hown, hts⟩ (m_any l dC dI ad av H.size a k τ ln y_134 g_135 u (0 : Int32) (a 76) 22 iw_142 hI (by rw [fx_76 hX]; decide) (by rw [fx_76 hX]; intro f v; exact cl_e86) hf_136 hltw_142 hi_iw_142 hslw_142 (by omega) (by omega) (by omega) (by omega) (by omega) hW) (cwV 1 hts (gi_4 (List.mem_cons_of_mem _ (List.mem_append_left _ (List.mem_of_getElem? (i := 8) rfl))) (List.mem_cons_of_mem _ (List.mem_append_left _ (List.mem_of_getElem? (i := 9) rfl))) (List.mem_cons_of_mem _ (List.mem_append_left _ (List.mem_of_getElem? (i := 10) rfl))) (List.mem_cons_of_mem _ (List.mem_append_left _ (List.mem_of_getElem? (i := 7) rfl))) (fun _ hh => (List.mem_cons_of_mem _ (List.mem_append_right _ (List.mem_append_right _ (List.mem_append_right _ (List.mem_append_left _ hh)))))) gd_g_any) rfl rfl rfl (by decide +kernel) ⟨Nat.le_of_ble_eq_true rfl, Nat.le_of_ble_eq_true rfl⟩) ⟨pw_blind, tw_recv hK hT (fx_50 hX) (by decide) cl_e60 rfl, pw_use hT hK hFc hS hM⟩ rfl rfl hl.1 rfl (lv_room (Nat.le_of_ble_eq_true rfl)) dX12_asks_143 ⟨Nat.le_of_ble_eq_true rfl, Nat.le_of_ble_eq_true rfl⟩) hS (fun q _ h => hFc q h) hFc (fun r0 r_144 t H locs ht hvm hw hB hz1 hk1 hS => ?_)
        refine W.widen (k := 0) (n := 0) (Nat.le_of_ble_eq_true rfl) (Nat.le_of_ble_eq_true rfl) ?_
        clear hvm hz1 hk1
        subst hw
        obtain ⟨y_145, hgy_145, hI, hf_146, hf_147, hf_148, hf_149, hT⟩ := hB
        rw [ht] at hT
        have hG := hG.tr hgy_145 (by decide)
        have hW : IW (u 1) (u 2) (u 9) (y_145 (a 89)) := by rw [hgy_145.at (fx_89 hX) (by decide)]; exact hW
        try simp only [hp_143] at hf_146 hf_147 hf_148 hf_149
        clear hp_143
        have hPK := hPK.tr hf_149
        have hrv : r_144.toInt = r_144.toInt := rfl
        exact W.iret (v := r_144) hx hb hr (fun t ht hW9 => ⟨⟨r_144, r_144, rfl, rfl, ⟨y_145, g_135, hG, hGg, hI, hPK, tw_at ht hT⟩⟩, hS.F ht⟩) hS.2.2 dX12_asks_146
def wo_m_waits : List Cond := [.fieldLink RX12 46 "TypingPoolModel" "comes" "[I", .methodLink RX12 164 yX12_now, .instanceMethod yX12_now, .selects RX12 yX12_now yX12_now, .initialized RX12, .methodLink RX12 261 yX12_piece, .instanceMethod yX12_piece, .selects RX12 yX12_piece yX12_piece]
def wm_m_waits : List Cond := .code yX12_waits cX12_waits 2 (some .boolean) :: (wo_m_waits ++ (wsX120 ++ (wm_m_now ++ (wm_m_pieceG ++ ([] : List Cond)))))
theorem gd_m_waits : ∀ w ∈ wm_m_waits, goodWord w = true := gd_c rfl (gd_a (by decide) (gd_a gd_wsX120 (gd_a gd_m_now (gd_a gd_m_pieceG gd_nil))))
set_option maxRecDepth 20000 in
theorem im_m_waits : ∀ w ∈ wm_m_waits, w ∈ lw_tbl := im_c (in_r [.code yX12_waits cX12_waits 2 (some .boolean)] [1555] (by decide +kernel)) (in_app (in_r wo_m_waits [1256, 1440, 1442, 28, 86, 1556, 1558, 50] (by decide +kernel)) (in_app im_wsX120 (in_app im_m_now (in_app im_m_pieceG im_nil))))
set_option maxHeartbeats 4000000 in
set_option maxRecDepth 100000 in
theorem m_waits (l : Launch) (dC : Nat → ClassId) (dI : Nat → Nat → Nat) (ad av : Nat → Nat) (sz : Nat) (a : Nat → Nat) (k : Nat → ClassId) (τ ln : Nat → Nat) (y : Nat → Nat → Int32) (g : Nat → Nat → Option Nat) (u : Nat → Int) (p0 : Int32) (hI : IM a u τ y) (hlp0 : 0 ≤ p0.toInt) (hup0 : p0.toInt < u 2) (hW : IW (u 1) (u 2) (u 9) (y (a 89))) : Met l yX12_waits wm_m_waits ({ frames := 1, cells := 0, slots := 0, locals := 60 }) (pw_ ad av (dC, dI) sz [.ref (a 50), .int p0] a k τ ln y g) (va_Qi (fun (r u : Int32) => u = r) (fun (r : Int32) (t : State) => (r = 1 ∧ tw (dC, dI) a k τ ln y g t.heap) ∨ (r = 0 ∧ tw (dC, dI) a k τ ln y g t.heap)) (fr τ sz)) 0 0 (fr τ sz) := by
  refine Met.ofW (cc := cX12_waits) (maxL := 2) (ret := (some .boolean)) (by decide) rfl ?_
  intro p e s m args below meth c s₁ B hml hv
  obtain ⟨rfl, hsz, hT, hK, hM⟩ := hv
  have hx := B.exec
  have hb := B.bytes
  have hr := B.returns
  have hts := atoms_spec (ws := wm_m_waits) B.pre
  have hown : s.vm.findClass RX12 = some m.cls := findClass_of_methodNamed B.named
  have hlocks := B.notSynchronized
  subst hsz
  generalize hAe : fr τ s.heap.size = A at hM ⊢
  have hA : ∀ q : Nat, s.heap.size ≤ q → A q := fun q h => by rw [← hAe]; exact Or.inr h
  have hF : ∀ q, τ q ≠ 0 → A q := fun q h => by rw [← hAe]; exact Or.inl h
  have hS : va_S A s.heap s.heap [] := va_S.rf
  have hX := hI.1
  have hR := im_r hI
  have hl := lv_entry ([.ref (a 50), .int p0]) (n := 2) (Nat.le_of_ble_eq_true rfl)
  rw [lg_entry_eq]
  generalize (lg_sl ([.ref (a 50), .int p0]) ++ List.replicate (2 - (lg_sl ([.ref (a 50), .int p0])).length) Slot.unset).toArray = ls at hl ⊢
  have hl : lv_has ls 2 [(0, .ref (a 50)), (1, .int p0)] := hl
  refine lv_aload_n hx hb dX12_waits_0 rfl (lv_at hl 0 rfl) ?_
  refine tw_get (D := (dC, dI)) (v := .ref (a 66)) (C := RX12) (T := TX12) (N := 58) hx hb hts (fun _ hh => (List.mem_cons_of_mem _ (List.mem_append_right _ (List.mem_append_left _ hh)))) hown hK hT (fx_50 hX) (by decide) cl_e60 rfl 15 (by decide) (hts (.fieldLink RX12 46 "TypingPoolModel" "comes" "[I") (List.mem_cons_of_mem _ (List.mem_append_left _ (List.mem_of_getElem? (i := 0) rfl)))) (fun _ h9 => h9) rfl dX12_waits_1 ?_
  refine lv_iload_n hx hb dX12_waits_4 rfl (lv_at hl 1 rfl) ?_
  refine tw_iald hx hb hK hT 0 (fx_66 hX) (by decide) cl_e76 rfl (z_in rfl (by omega) (by omega)) dX12_waits_5 ?_
  refine lv_aload_n hx hb dX12_waits_6 rfl (lv_at hl 0 rfl) ?_
  have hFc := tw_free hF hS hA
  refine va_calli (va_runV (As := []) (rest := [.int (y (a 66) p0.toNatClampNeg)]) ⟨hx, hb, hml, hown, hts⟩ (m_now l dC dI ad av s.heap.size a k τ ln y g u  hI hW) (cwV 0 hts (gi_4 (List.mem_cons_of_mem _ (List.mem_append_left _ (List.mem_of_getElem? (i := 1) rfl))) (List.mem_cons_of_mem _ (List.mem_append_left _ (List.mem_of_getElem? (i := 2) rfl))) (List.mem_cons_of_mem _ (List.mem_append_left _ (List.mem_of_getElem? (i := 3) rfl))) (List.mem_cons_of_mem _ (List.mem_append_left _ (List.mem_of_getElem? (i := 4) rfl))) (fun _ hh => (List.mem_cons_of_mem _ (List.mem_append_right _ (List.mem_append_right _ (List.mem_append_left _ hh))))) gd_m_now) rfl rfl rfl (by decide +kernel) ⟨Nat.le_of_ble_eq_true rfl, Nat.le_of_ble_eq_true rfl⟩) ⟨pw_blind, tw_recv hK hT (fx_50 hX) (by decide) cl_e60 rfl, pw_use hT hK hFc hS hM⟩ rfl rfl hl.1 rfl (lv_room (Nat.le_of_ble_eq_true rfl)) dX12_waits_7 ⟨Nat.le_of_ble_eq_true rfl, Nat.le_of_ble_eq_true rfl⟩) hS (fun q _ h => hFc q h) hFc (fun r0 r_1 t H locs ht hvm hw hB hz1 hk1 hS => ?_)
  refine W.widen (k := 0) (n := 0) (Nat.le_of_ble_eq_true rfl) (Nat.le_of_ble_eq_true rfl) ?_
  clear hvm hz1 hk1
  subst hw
  obtain ⟨hf_2, hT⟩ := hB
  rw [ht] at hT
  refine lv_icmp_gt (tgt := 27) hx hb dX12_waits_10 (by decide) (fun c_3 => ?_) (fun c_3 => ?_)
  · have nc_3 := z_lt rfl rfl c_3
    refine lv_iconst (v := 0) hx hb dX12_waits_27 (by decide) ?_
    exact W.zret (v := 0) hx hb hr (by decide) (fun t ht hW9 => ⟨⟨0, 0, rfl, rfl, Or.inr (⟨rfl, tw_at ht hT⟩)⟩, hS.F ht⟩) hS.2.2 dX12_waits_28
  · have nc_3 := z_nlt rfl rfl c_3
    refine lv_aload_n hx hb dX12_waits_13 rfl (lv_at hl 0 rfl) ?_
    refine lv_iload_n hx hb dX12_waits_14 rfl (lv_at hl 1 rfl) ?_
    refine lv_iconst (v := 0) hx hb dX12_waits_15 (by decide) ?_
    have hFc := tw_free hF hS hA
    have hp_4 : (0 : Int32).toInt = 0 := (zk (x := 0) 0 rfl)
    refine va_calli (va_runV (As := [.int p0, .int 0]) (rest := []) ⟨hx, hb, hml, hown, hts⟩ (m_pieceG l dC dI ad av H.size a k τ ln y g u p0 (0 : Int32) hI (by omega) (by omega) (by decide) (by decide) hW) (cwV 2 hts (gi_4 (List.mem_cons_of_mem _ (List.mem_append_left _ (List.mem_of_getElem? (i := 5) rfl))) (List.mem_cons_of_mem _ (List.mem_append_left _ (List.mem_of_getElem? (i := 6) rfl))) (List.mem_cons_of_mem _ (List.mem_append_left _ (List.mem_of_getElem? (i := 7) rfl))) (List.mem_cons_of_mem _ (List.mem_append_left _ (List.mem_of_getElem? (i := 4) rfl))) (fun _ hh => (List.mem_cons_of_mem _ (List.mem_append_right _ (List.mem_append_right _ (List.mem_append_right _ (List.mem_append_left _ hh)))))) gd_m_pieceG) rfl rfl rfl (by decide +kernel) ⟨Nat.le_of_ble_eq_true rfl, Nat.le_of_ble_eq_true rfl⟩) ⟨pw_blind, tw_recv hK hT (fx_50 hX) (by decide) cl_e60 rfl, pw_use hT hK hFc hS hM⟩ rfl rfl hl.1 rfl (lv_room (Nat.le_of_ble_eq_true rfl)) dX12_waits_16 ⟨Nat.le_of_ble_eq_true rfl, Nat.le_of_ble_eq_true rfl⟩) hS (fun q _ h => hFc q h) hFc (fun r0 r_5 t H locs ht hvm hw hB hz1 hk1 hS => ?_)
    refine W.widen (k := 0) (n := 0) (Nat.le_of_ble_eq_true rfl) (Nat.le_of_ble_eq_true rfl) ?_
    clear hvm hz1 hk1
    subst hw
    obtain ⟨hf_6, hT⟩ := hB
    rw [ht] at hT
    try simp only [hp_4] at hf_6
    clear hp_4
    refine lv_iconst (v := (-1)) hx hb dX12_waits_19 (by decide) ?_
    refine lv_icmp_ne (tgt := 27) hx hb dX12_waits_20 (by decide) (fun c_7 => ?_) (fun c_7 => ?_)
    · have nc_7 := z_ne rfl (zk (x := (-1)) (-1) rfl) c_7
      refine lv_iconst (v := 0) hx hb dX12_waits_27 (by decide) ?_
      exact W.zret (v := 0) hx hb hr (by decide) (fun t ht hW9 => ⟨⟨0, 0, rfl, rfl, Or.inr (⟨rfl, tw_at ht hT⟩)⟩, hS.F ht⟩) hS.2.2 dX12_waits_28
    · have nc_7 := z_eq rfl (zk (x := (-1)) (-1) rfl) c_7
      refine lv_iconst (v := 1) hx hb dX12_waits_23 (by decide) ?_
      refine lv_goto (tgt := 28) hx hb dX12_waits_24 (by decide) ?_
      exact W.zret (v := 1) hx hb hr (by decide) (fun t ht hW9 => ⟨⟨1, 1, rfl, rfl, Or.inl ⟨rfl, tw_at ht hT⟩⟩, hS.F ht⟩) hS.2.2 dX12_waits_28
def wo_m_orderOf : List Cond := [.fieldLink RX12 149 "TypingPoolModel" "pieces" "I", .fieldLink RX12 116 "TypingPoolModel" "values" "[I", .fieldLink RX12 43 "TypingPoolModel" "claim" "[I", .methodLink RX12 164 yX12_now, .instanceMethod yX12_now, .selects RX12 yX12_now yX12_now, .initialized RX12, .fieldLink RX12 46 "TypingPoolModel" "comes" "[I", .fieldLink RX12 37 "TypingPoolModel" "lines" "[I", .fieldLink RX12 49 "TypingPoolModel" "due" "[I", .fieldLink RX12 40 "TypingPoolModel" "secret" "[I", .fieldLink RX12 31 "TypingPoolModel" "department" "[I", .fieldLink RX12 52 "TypingPoolModel" "words" "[I", .methodLink RX12 272 yX12_get, .instanceMethod yX12_get, .selects RX12 yX12_get yX12_get, .methodLink RX12 275 yX12_bits, .static yX12_bits, .methodLink RX12 278 yX12_asks, .instanceMethod yX12_asks, .selects RX12 yX12_asks yX12_asks, .methodLink RX12 269 yX12_waits, .instanceMethod yX12_waits, .selects RX12 yX12_waits yX12_waits]
def wm_m_orderOf : List Cond := .code yX12_orderOf cX12_orderOf 5 (some .int) :: (wo_m_orderOf ++ (wsX120 ++ (wm_m_now ++ (wm_m_get ++ (wm_m_bits ++ (wm_m_asks ++ (wm_m_waits ++ ([] : List Cond))))))))
theorem gd_m_orderOf : ∀ w ∈ wm_m_orderOf, goodWord w = true := gd_c rfl (gd_a (by decide) (gd_a gd_wsX120 (gd_a gd_m_now (gd_a gd_m_get (gd_a gd_m_bits (gd_a gd_m_asks (gd_a gd_m_waits gd_nil)))))))
set_option maxRecDepth 20000 in
theorem im_m_orderOf : ∀ w ∈ wm_m_orderOf, w ∈ lw_tbl := im_c (in_r [.code yX12_orderOf cX12_orderOf 5 (some .int)] [1575] (by decide +kernel)) (in_app (in_r wo_m_orderOf [1260, 1282, 1255, 1440, 1442, 28, 86, 1256, 1253, 1257, 1254, 1251, 1258, 1540, 1542, 46, 1576, 1577, 1564, 1566, 52, 1552, 1554, 49] (by decide +kernel)) (in_app im_wsX120 (in_app im_m_now (in_app im_m_get (in_app im_m_bits (in_app im_m_asks (in_app im_m_waits im_nil)))))))
set_option maxHeartbeats 4000000 in
set_option maxRecDepth 100000 in
theorem m_orderOf (l : Launch) (dC : Nat → ClassId) (dI : Nat → Nat → Nat) (ad av : Nat → Nat) (sz : Nat) (a : Nat → Nat) (k : Nat → ClassId) (τ ln : Nat → Nat) (y : Nat → Nat → Int32) (g : Nat → Nat → Option Nat) (u : Nat → Int) (p0 : Int32) (p1 : Int32) (hI : IM a u τ y) (hlp0 : 0 ≤ p0.toInt) (hup0 : p0.toInt < u 1) (hlp1 : 0 ≤ p1.toInt) (hup1 : p1.toInt < u 2) (hW : IW (u 1) (u 2) (u 9) (y (a 89))) : Met l yX12_orderOf wm_m_orderOf ({ frames := 385, cells := 0, slots := 0, locals := 25220 }) (pw_ ad av (dC, dI) sz [.ref (a 50), .int p0, .int p1] a k τ ln y g) (va_Qi (fun (r u : Int32) => u = r) (fun (r : Int32) (t : State) => (∃ (y' : Nat → Nat → Int32) (g' : Nat → Nat → Option Nat), ag τ [60, 102] y y' ∧ agg τ g g' ∧ IM a u τ y' ∧ tw (dC, dI) a k τ ln y' g' t.heap)) (fr τ sz)) 0 0 (fr τ sz) := by
  refine Met.ofW (cc := cX12_orderOf) (maxL := 5) (ret := (some .int)) (by decide) rfl ?_
  intro p e s m args below meth c s₁ B hml hv
  obtain ⟨rfl, hsz, hT, hK, hM⟩ := hv
  have hx := B.exec
  have hb := B.bytes
  have hr := B.returns
  have hts := atoms_spec (ws := wm_m_orderOf) B.pre
  have hown : s.vm.findClass RX12 = some m.cls := findClass_of_methodNamed B.named
  have hlocks := B.notSynchronized
  subst hsz
  generalize hAe : fr τ s.heap.size = A at hM ⊢
  have hA : ∀ q : Nat, s.heap.size ≤ q → A q := fun q h => by rw [← hAe]; exact Or.inr h
  have hF : ∀ q, τ q ≠ 0 → A q := fun q h => by rw [← hAe]; exact Or.inl h
  have hS : va_S A s.heap s.heap [] := va_S.rf
  have hX := hI.1
  have hR := im_r hI
  have hG : ag τ [60, 102] y y := ag.rf
  have hGg : agg τ g g := agg.rf
  have hl := lv_entry ([.ref (a 50), .int p0, .int p1]) (n := 5) (Nat.le_of_ble_eq_true rfl)
  rw [lg_entry_eq]
  generalize (lg_sl ([.ref (a 50), .int p0, .int p1]) ++ List.replicate (5 - (lg_sl ([.ref (a 50), .int p0, .int p1])).length) Slot.unset).toArray = ls at hl ⊢
  have hl : lv_has ls 5 [(0, .ref (a 50)), (1, .int p0), (2, .int p1)] := hl
  refine lv_iconst (v := 0) hx hb dX12_orderOf_0 (by decide) ?_
  refine lv_istore_n (lv' := [(3, .int 0), (0, .ref (a 50)), (1, .int p0), (2, .int p1)]) hx hb dX12_orderOf_1 rfl hl (by decide) rfl (fun ls hl => ?_)
  refine lv_iconst (v := 0) hx hb dX12_orderOf_2 (by decide) ?_
  refine lv_istore (lv' := [(4, .int 0), (3, .int 0), (0, .ref (a 50)), (1, .int p0), (2, .int p1)]) hx hb dX12_orderOf_3 hl (by decide) rfl (fun ls hl => ?_)
  have loop_5 : ∀ (n : Nat) (w3 : Int32) (i4 : Int32) (y_L5 : Nat → Nat → Int32) (g_L5 : Nat → Nat → Option Nat) (H : Heap) (locs : List Loc) (ls : Array Slot), (u 2 - i4.toInt).toNat < n → ag τ [60, 102] y y_L5 → IM a u τ y_L5 → agg τ g g_L5 → IW (u 1) (u 2) (u 9) (y_L5 (a 89)) → 0 ≤ i4.toInt → i4.toInt ≤ u 2 → tw (dC, dI) a k τ ln y_L5 g_L5 H → va_S A s.heap H locs → lv_has ls 5 [(0, .ref (a 50)), (1, .int p0), (2, .int p1), (3, .int w3), (4, .int i4)] → W p l e (headSpec wm_m_orderOf ({ frames := 385, cells := 0, slots := 0, locals := 25220 })).room s m ([.ref (a 50), .int p0, .int p1] : List Value).toArray below meth c H locs 0 0 (MQ below (va_Qi (fun (r u : Int32) => u = r) (fun (r : Int32) (t : State) => (∃ (y' : Nat → Nat → Int32) (g' : Nat → Nat → Option Nat), ag τ [60, 102] y y' ∧ agg τ g g' ∧ IM a u τ y' ∧ tw (dC, dI) a k τ ln y' g' t.heap)) A) ([.ref (a 50), .int p0, .int p1] : List Value).toArray s 0 0 A) (F0 m 5 ls []) := by
    intro n
    induction n with
    | zero => intro w3 i4 y_L5 g_L5 H locs ls hlt; exact absurd hlt (Nat.not_lt_zero _)
    | succ n ih_5 =>
      intro w3 i4 y_L5 g_L5 H locs ls hlt hG hI hGg hW hi5_0 hi5_1 hT hS hl
      refine lv_iload hx hb dX12_orderOf_5 (lv_at hl 4 rfl) ?_
      refine lv_aload_n hx hb dX12_orderOf_7 rfl (lv_at hl 0 rfl) ?_
      refine tw_get (D := (dC, dI)) (v := .int (y_L5 (a 50) 19)) (C := RX12) (T := TX12) (N := 58) hx hb hts (fun _ hh => (List.mem_cons_of_mem _ (List.mem_append_right _ (List.mem_append_left _ hh)))) hown hK hT (fx_50 hX) (by decide) cl_e60 rfl 19 (by decide) (hts (.fieldLink RX12 149 "TypingPoolModel" "pieces" "I") (List.mem_cons_of_mem _ (List.mem_append_left _ (List.mem_of_getElem? (i := 0) rfl)))) (fun _ h9 => h9) rfl dX12_orderOf_8 ?_
      have hc_1 := im_2 hI
      refine lv_icmp_ge (tgt := 48) hx hb dX12_orderOf_11 (by decide) (fun c_2 => ?_) (fun c_2 => ?_)
      · have nc_2 := z_le hc_1 rfl c_2
        refine lv_aload_n hx hb dX12_orderOf_48 rfl (lv_at hl 0 rfl) ?_
        refine tw_get (D := (dC, dI)) (v := .ref (a 92)) (C := RX12) (T := TX12) (N := 58) hx hb hts (fun _ hh => (List.mem_cons_of_mem _ (List.mem_append_right _ (List.mem_append_left _ hh)))) hown hK hT (fx_50 hX) (by decide) cl_e60 rfl 41 (by decide) (hts (.fieldLink RX12 116 "TypingPoolModel" "values" "[I") (List.mem_cons_of_mem _ (List.mem_append_left _ (List.mem_of_getElem? (i := 1) rfl)))) (fun _ h9 => h9) rfl dX12_orderOf_49 ?_
        refine lv_iconst (v := 0) hx hb dX12_orderOf_52 (by decide) ?_
        refine lv_aload_n hx hb dX12_orderOf_53 rfl (lv_at hl 0 rfl) ?_
        refine tw_get (D := (dC, dI)) (v := .ref (a 65)) (C := RX12) (T := TX12) (N := 58) hx hb hts (fun _ hh => (List.mem_cons_of_mem _ (List.mem_append_right _ (List.mem_append_left _ hh)))) hown hK hT (fx_50 hX) (by decide) cl_e60 rfl 14 (by decide) (hts (.fieldLink RX12 43 "TypingPoolModel" "claim" "[I") (List.mem_cons_of_mem _ (List.mem_append_left _ (List.mem_of_getElem? (i := 2) rfl)))) (fun _ h9 => h9) rfl dX12_orderOf_54 ?_
        refine lv_iload_n hx hb dX12_orderOf_57 rfl (lv_at hl 2 rfl) ?_
        refine tw_iald hx hb hK hT 0 (fx_65 hX) (by decide) cl_e75 rfl (z_in rfl (by omega) (by omega)) dX12_orderOf_58 ?_
        refine tw_iast hx hb hK hT hF hS 0 (fx_92 hX) (by decide) (fun _ => cl_e102) rfl (z_in (zk (x := 0) 0 rfl) (by omega) (by omega)) dX12_orderOf_59 (fun H locs hT hS => ?_)
        obtain ⟨y_3, hy_3, hT⟩ : ∃ z : Nat → Nat → Int32, z = up2 y_L5 (a 92) ((0 : Int32).toNatClampNeg) (y_L5 (a 65) p1.toNatClampNeg) ∧ tw (dC, dI) a k τ ln z g_L5 H := ⟨_, rfl, hT⟩
        have hG : ag τ [60, 102] y y_3 := by rw [hy_3]; exact hG.up (fx_92 hX) (by decide)
        have hW : IW (u 1) (u 2) (u 9) (y_3 (a 89)) := by rw [hy_3, up2_o (kd_ne (fx_89 hX) (fx_92 hX) (by decide))]; exact hW
        have hI := hI.ag (S := [102]) (y' := y_3) (by rw [hy_3]; exact ag.one (fx_92 hX)) (by decide)
        clear hc_1
        refine lv_aload_n hx hb dX12_orderOf_60 rfl (lv_at hl 0 rfl) ?_
        refine tw_get (D := (dC, dI)) (v := .ref (a 92)) (C := RX12) (T := TX12) (N := 58) hx hb hts (fun _ hh => (List.mem_cons_of_mem _ (List.mem_append_right _ (List.mem_append_left _ hh)))) hown hK hT (fx_50 hX) (by decide) cl_e60 rfl 41 (by decide) (hts (.fieldLink RX12 116 "TypingPoolModel" "values" "[I") (List.mem_cons_of_mem _ (List.mem_append_left _ (List.mem_of_getElem? (i := 1) rfl)))) (fun _ h9 => h9) rfl dX12_orderOf_61 ?_
        refine lv_iconst (v := 1) hx hb dX12_orderOf_64 (by decide) ?_
        refine lv_aload_n hx hb dX12_orderOf_65 rfl (lv_at hl 0 rfl) ?_
        have hFc := tw_free hF hS hA
        refine va_calli (va_runV (As := []) (rest := [.int 1, .ref (a 92)]) ⟨hx, hb, hml, hown, hts⟩ (m_now l dC dI ad av H.size a k τ ln y_3 g_L5 u  hI hW) (cwV 0 hts (gi_4 (List.mem_cons_of_mem _ (List.mem_append_left _ (List.mem_of_getElem? (i := 3) rfl))) (List.mem_cons_of_mem _ (List.mem_append_left _ (List.mem_of_getElem? (i := 4) rfl))) (List.mem_cons_of_mem _ (List.mem_append_left _ (List.mem_of_getElem? (i := 5) rfl))) (List.mem_cons_of_mem _ (List.mem_append_left _ (List.mem_of_getElem? (i := 6) rfl))) (fun _ hh => (List.mem_cons_of_mem _ (List.mem_append_right _ (List.mem_append_right _ (List.mem_append_left _ hh))))) gd_m_now) rfl rfl rfl (by decide +kernel) ⟨Nat.le_of_ble_eq_true rfl, Nat.le_of_ble_eq_true rfl⟩) ⟨pw_blind, tw_recv hK hT (fx_50 hX) (by decide) cl_e60 rfl, pw_use hT hK hFc hS hM⟩ rfl rfl hl.1 rfl (lv_room (Nat.le_of_ble_eq_true rfl)) dX12_orderOf_66 ⟨Nat.le_of_ble_eq_true rfl, Nat.le_of_ble_eq_true rfl⟩) hS (fun q _ h => hFc q h) hFc (fun r0 r_4 t H locs ht hvm hw hB hz1 hk1 hS => ?_)
        refine W.widen (k := 0) (n := 0) (Nat.le_of_ble_eq_true rfl) (Nat.le_of_ble_eq_true rfl) ?_
        clear hvm hz1 hk1
        subst hw
        obtain ⟨hf_5, hT⟩ := hB
        rw [ht] at hT
        refine lv_aload_n hx hb dX12_orderOf_69 rfl (lv_at hl 0 rfl) ?_
        refine tw_get (D := (dC, dI)) (v := .ref (a 66)) (C := RX12) (T := TX12) (N := 58) hx hb hts (fun _ hh => (List.mem_cons_of_mem _ (List.mem_append_right _ (List.mem_append_left _ hh)))) hown hK hT (fx_50 hX) (by decide) cl_e60 rfl 15 (by decide) (hts (.fieldLink RX12 46 "TypingPoolModel" "comes" "[I") (List.mem_cons_of_mem _ (List.mem_append_left _ (List.mem_of_getElem? (i := 7) rfl)))) (fun _ h9 => h9) rfl dX12_orderOf_70 ?_
        refine lv_iload_n hx hb dX12_orderOf_73 rfl (lv_at hl 2 rfl) ?_
        refine tw_iald hx hb hK hT 0 (fx_66 hX) (by decide) cl_e76 rfl (z_in rfl (by omega) (by omega)) dX12_orderOf_74 ?_
        refine lv_isub hx hb dX12_orderOf_75 ?_
        refine lv_topi (fun x_6 ex_6 => ?_)
        refine tw_iast hx hb hK hT hF hS 0 (fx_92 hX) (by decide) (fun _ => cl_e102) rfl (z_in (zk (x := 1) 1 rfl) (by omega) (by omega)) dX12_orderOf_76 (fun H locs hT hS => ?_)
        obtain ⟨y_7, hy_7, hT⟩ : ∃ z : Nat → Nat → Int32, z = up2 y_3 (a 92) ((1 : Int32).toNatClampNeg) x_6 ∧ tw (dC, dI) a k τ ln z g_L5 H := ⟨_, rfl, hT⟩
        have hG : ag τ [60, 102] y y_7 := by rw [hy_7]; exact hG.up (fx_92 hX) (by decide)
        have hW : IW (u 1) (u 2) (u 9) (y_7 (a 89)) := by rw [hy_7, up2_o (kd_ne (fx_89 hX) (fx_92 hX) (by decide))]; exact hW
        have hI := hI.ag (S := [102]) (y' := y_7) (by rw [hy_7]; exact ag.one (fx_92 hX)) (by decide)
        refine lv_aload_n hx hb dX12_orderOf_77 rfl (lv_at hl 0 rfl) ?_
        refine tw_get (D := (dC, dI)) (v := .ref (a 92)) (C := RX12) (T := TX12) (N := 58) hx hb hts (fun _ hh => (List.mem_cons_of_mem _ (List.mem_append_right _ (List.mem_append_left _ hh)))) hown hK hT (fx_50 hX) (by decide) cl_e60 rfl 41 (by decide) (hts (.fieldLink RX12 116 "TypingPoolModel" "values" "[I") (List.mem_cons_of_mem _ (List.mem_append_left _ (List.mem_of_getElem? (i := 1) rfl)))) (fun _ h9 => h9) rfl dX12_orderOf_78 ?_
        refine lv_iconst (v := 2) hx hb dX12_orderOf_81 (by decide) ?_
        refine lv_aload_n hx hb dX12_orderOf_82 rfl (lv_at hl 0 rfl) ?_
        refine tw_get (D := (dC, dI)) (v := .ref (a 63)) (C := RX12) (T := TX12) (N := 58) hx hb hts (fun _ hh => (List.mem_cons_of_mem _ (List.mem_append_right _ (List.mem_append_left _ hh)))) hown hK hT (fx_50 hX) (by decide) cl_e60 rfl 12 (by decide) (hts (.fieldLink RX12 37 "TypingPoolModel" "lines" "[I") (List.mem_cons_of_mem _ (List.mem_append_left _ (List.mem_of_getElem? (i := 8) rfl)))) (fun _ h9 => h9) rfl dX12_orderOf_83 ?_
        refine lv_iload_n hx hb dX12_orderOf_86 rfl (lv_at hl 2 rfl) ?_
        refine tw_iald hx hb hK hT 0 (fx_63 hX) (by decide) cl_e73 rfl (z_in rfl (by omega) (by omega)) dX12_orderOf_87 ?_
        have hv_8 := vb_at (im_a63 hI) (x := p1) rfl (by omega) (by omega)
        refine tw_iast hx hb hK hT hF hS 0 (fx_92 hX) (by decide) (fun _ => cl_e102) rfl (z_in (zk (x := 2) 2 rfl) (by omega) (by omega)) dX12_orderOf_88 (fun H locs hT hS => ?_)
        obtain ⟨y_9, hy_9, hT⟩ : ∃ z : Nat → Nat → Int32, z = up2 y_7 (a 92) ((2 : Int32).toNatClampNeg) (y_7 (a 63) p1.toNatClampNeg) ∧ tw (dC, dI) a k τ ln z g_L5 H := ⟨_, rfl, hT⟩
        have hG : ag τ [60, 102] y y_9 := by rw [hy_9]; exact hG.up (fx_92 hX) (by decide)
        have hW : IW (u 1) (u 2) (u 9) (y_9 (a 89)) := by rw [hy_9, up2_o (kd_ne (fx_89 hX) (fx_92 hX) (by decide))]; exact hW
        have hI := hI.ag (S := [102]) (y' := y_9) (by rw [hy_9]; exact ag.one (fx_92 hX)) (by decide)
        refine lv_aload_n hx hb dX12_orderOf_89 rfl (lv_at hl 0 rfl) ?_
        refine tw_get (D := (dC, dI)) (v := .ref (a 92)) (C := RX12) (T := TX12) (N := 58) hx hb hts (fun _ hh => (List.mem_cons_of_mem _ (List.mem_append_right _ (List.mem_append_left _ hh)))) hown hK hT (fx_50 hX) (by decide) cl_e60 rfl 41 (by decide) (hts (.fieldLink RX12 116 "TypingPoolModel" "values" "[I") (List.mem_cons_of_mem _ (List.mem_append_left _ (List.mem_of_getElem? (i := 1) rfl)))) (fun _ h9 => h9) rfl dX12_orderOf_90 ?_
        refine lv_iconst (v := 3) hx hb dX12_orderOf_93 (by decide) ?_
        refine lv_aload_n hx hb dX12_orderOf_94 rfl (lv_at hl 0 rfl) ?_
        refine tw_get (D := (dC, dI)) (v := .ref (a 67)) (C := RX12) (T := TX12) (N := 58) hx hb hts (fun _ hh => (List.mem_cons_of_mem _ (List.mem_append_right _ (List.mem_append_left _ hh)))) hown hK hT (fx_50 hX) (by decide) cl_e60 rfl 16 (by decide) (hts (.fieldLink RX12 49 "TypingPoolModel" "due" "[I") (List.mem_cons_of_mem _ (List.mem_append_left _ (List.mem_of_getElem? (i := 9) rfl)))) (fun _ h9 => h9) rfl dX12_orderOf_95 ?_
        refine lv_iload_n hx hb dX12_orderOf_98 rfl (lv_at hl 2 rfl) ?_
        refine tw_iald hx hb hK hT 0 (fx_67 hX) (by decide) cl_e77 rfl (z_in rfl (by omega) (by omega)) dX12_orderOf_99 ?_
        refine lv_aload_n hx hb dX12_orderOf_100 rfl (lv_at hl 0 rfl) ?_
        have hFc := tw_free hF hS hA
        refine va_calli (va_runV (As := []) (rest := [.int (y_9 (a 67) p1.toNatClampNeg), .int 3, .ref (a 92)]) ⟨hx, hb, hml, hown, hts⟩ (m_now l dC dI ad av H.size a k τ ln y_9 g_L5 u  hI hW) (cwV 0 hts (gi_4 (List.mem_cons_of_mem _ (List.mem_append_left _ (List.mem_of_getElem? (i := 3) rfl))) (List.mem_cons_of_mem _ (List.mem_append_left _ (List.mem_of_getElem? (i := 4) rfl))) (List.mem_cons_of_mem _ (List.mem_append_left _ (List.mem_of_getElem? (i := 5) rfl))) (List.mem_cons_of_mem _ (List.mem_append_left _ (List.mem_of_getElem? (i := 6) rfl))) (fun _ hh => (List.mem_cons_of_mem _ (List.mem_append_right _ (List.mem_append_right _ (List.mem_append_left _ hh))))) gd_m_now) rfl rfl rfl (by decide +kernel) ⟨Nat.le_of_ble_eq_true rfl, Nat.le_of_ble_eq_true rfl⟩) ⟨pw_blind, tw_recv hK hT (fx_50 hX) (by decide) cl_e60 rfl, pw_use hT hK hFc hS hM⟩ rfl rfl hl.1 rfl (lv_room (Nat.le_of_ble_eq_true rfl)) dX12_orderOf_101 ⟨Nat.le_of_ble_eq_true rfl, Nat.le_of_ble_eq_true rfl⟩) hS (fun q _ h => hFc q h) hFc (fun r0 r_10 t H locs ht hvm hw hB hz1 hk1 hS => ?_)
        refine W.widen (k := 0) (n := 0) (Nat.le_of_ble_eq_true rfl) (Nat.le_of_ble_eq_true rfl) ?_
        clear hvm hz1 hk1
        subst hw
        obtain ⟨hf_11, hT⟩ := hB
        rw [ht] at hT
        refine lv_isub hx hb dX12_orderOf_104 ?_
        refine lv_topi (fun x_12 ex_12 => ?_)
        refine tw_iast hx hb hK hT hF hS 0 (fx_92 hX) (by decide) (fun _ => cl_e102) rfl (z_in (zk (x := 3) 3 rfl) (by omega) (by omega)) dX12_orderOf_105 (fun H locs hT hS => ?_)
        obtain ⟨y_13, hy_13, hT⟩ : ∃ z : Nat → Nat → Int32, z = up2 y_9 (a 92) ((3 : Int32).toNatClampNeg) x_12 ∧ tw (dC, dI) a k τ ln z g_L5 H := ⟨_, rfl, hT⟩
        have hG : ag τ [60, 102] y y_13 := by rw [hy_13]; exact hG.up (fx_92 hX) (by decide)
        have hW : IW (u 1) (u 2) (u 9) (y_13 (a 89)) := by rw [hy_13, up2_o (kd_ne (fx_89 hX) (fx_92 hX) (by decide))]; exact hW
        have hI := hI.ag (S := [102]) (y' := y_13) (by rw [hy_13]; exact ag.one (fx_92 hX)) (by decide)
        refine lv_aload_n hx hb dX12_orderOf_106 rfl (lv_at hl 0 rfl) ?_
        refine tw_get (D := (dC, dI)) (v := .ref (a 92)) (C := RX12) (T := TX12) (N := 58) hx hb hts (fun _ hh => (List.mem_cons_of_mem _ (List.mem_append_right _ (List.mem_append_left _ hh)))) hown hK hT (fx_50 hX) (by decide) cl_e60 rfl 41 (by decide) (hts (.fieldLink RX12 116 "TypingPoolModel" "values" "[I") (List.mem_cons_of_mem _ (List.mem_append_left _ (List.mem_of_getElem? (i := 1) rfl)))) (fun _ h9 => h9) rfl dX12_orderOf_107 ?_
        refine lv_iconst (v := 4) hx hb dX12_orderOf_110 (by decide) ?_
        refine lv_aload_n hx hb dX12_orderOf_111 rfl (lv_at hl 0 rfl) ?_
        refine tw_get (D := (dC, dI)) (v := .ref (a 64)) (C := RX12) (T := TX12) (N := 58) hx hb hts (fun _ hh => (List.mem_cons_of_mem _ (List.mem_append_right _ (List.mem_append_left _ hh)))) hown hK hT (fx_50 hX) (by decide) cl_e60 rfl 13 (by decide) (hts (.fieldLink RX12 40 "TypingPoolModel" "secret" "[I") (List.mem_cons_of_mem _ (List.mem_append_left _ (List.mem_of_getElem? (i := 10) rfl)))) (fun _ h9 => h9) rfl dX12_orderOf_112 ?_
        refine lv_iload_n hx hb dX12_orderOf_115 rfl (lv_at hl 2 rfl) ?_
        refine tw_iald hx hb hK hT 0 (fx_64 hX) (by decide) cl_e74 rfl (z_in rfl (by omega) (by omega)) dX12_orderOf_116 ?_
        refine tw_iast hx hb hK hT hF hS 0 (fx_92 hX) (by decide) (fun _ => cl_e102) rfl (z_in (zk (x := 4) 4 rfl) (by omega) (by omega)) dX12_orderOf_117 (fun H locs hT hS => ?_)
        obtain ⟨y_14, hy_14, hT⟩ : ∃ z : Nat → Nat → Int32, z = up2 y_13 (a 92) ((4 : Int32).toNatClampNeg) (y_13 (a 64) p1.toNatClampNeg) ∧ tw (dC, dI) a k τ ln z g_L5 H := ⟨_, rfl, hT⟩
        have hG : ag τ [60, 102] y y_14 := by rw [hy_14]; exact hG.up (fx_92 hX) (by decide)
        have hW : IW (u 1) (u 2) (u 9) (y_14 (a 89)) := by rw [hy_14, up2_o (kd_ne (fx_89 hX) (fx_92 hX) (by decide))]; exact hW
        have hI := hI.ag (S := [102]) (y' := y_14) (by rw [hy_14]; exact ag.one (fx_92 hX)) (by decide)
        refine lv_aload_n hx hb dX12_orderOf_118 rfl (lv_at hl 0 rfl) ?_
        refine tw_get (D := (dC, dI)) (v := .ref (a 92)) (C := RX12) (T := TX12) (N := 58) hx hb hts (fun _ hh => (List.mem_cons_of_mem _ (List.mem_append_right _ (List.mem_append_left _ hh)))) hown hK hT (fx_50 hX) (by decide) cl_e60 rfl 41 (by decide) (hts (.fieldLink RX12 116 "TypingPoolModel" "values" "[I") (List.mem_cons_of_mem _ (List.mem_append_left _ (List.mem_of_getElem? (i := 1) rfl)))) (fun _ h9 => h9) rfl dX12_orderOf_119 ?_
        refine lv_iconst (v := 5) hx hb dX12_orderOf_122 (by decide) ?_
        refine lv_aload_n hx hb dX12_orderOf_123 rfl (lv_at hl 0 rfl) ?_
        refine tw_get (D := (dC, dI)) (v := .ref (a 61)) (C := RX12) (T := TX12) (N := 58) hx hb hts (fun _ hh => (List.mem_cons_of_mem _ (List.mem_append_right _ (List.mem_append_left _ hh)))) hown hK hT (fx_50 hX) (by decide) cl_e60 rfl 10 (by decide) (hts (.fieldLink RX12 31 "TypingPoolModel" "department" "[I") (List.mem_cons_of_mem _ (List.mem_append_left _ (List.mem_of_getElem? (i := 11) rfl)))) (fun _ h9 => h9) rfl dX12_orderOf_124 ?_
        refine lv_iload_n hx hb dX12_orderOf_127 rfl (lv_at hl 2 rfl) ?_
        refine tw_iald hx hb hK hT 0 (fx_61 hX) (by decide) cl_e71 rfl (z_in rfl (by omega) (by omega)) dX12_orderOf_128 ?_
        refine tw_iast hx hb hK hT hF hS 0 (fx_92 hX) (by decide) (fun _ => cl_e102) rfl (z_in (zk (x := 5) 5 rfl) (by omega) (by omega)) dX12_orderOf_129 (fun H locs hT hS => ?_)
        obtain ⟨y_15, hy_15, hT⟩ : ∃ z : Nat → Nat → Int32, z = up2 y_14 (a 92) ((5 : Int32).toNatClampNeg) (y_14 (a 61) p1.toNatClampNeg) ∧ tw (dC, dI) a k τ ln z g_L5 H := ⟨_, rfl, hT⟩
        have hG : ag τ [60, 102] y y_15 := by rw [hy_15]; exact hG.up (fx_92 hX) (by decide)
        have hW : IW (u 1) (u 2) (u 9) (y_15 (a 89)) := by rw [hy_15, up2_o (kd_ne (fx_89 hX) (fx_92 hX) (by decide))]; exact hW
        have hI := hI.ag (S := [102]) (y' := y_15) (by rw [hy_15]; exact ag.one (fx_92 hX)) (by decide)
        refine lv_aload_n hx hb dX12_orderOf_130 rfl (lv_at hl 0 rfl) ?_
        refine tw_get (D := (dC, dI)) (v := .ref (a 92)) (C := RX12) (T := TX12) (N := 58) hx hb hts (fun _ hh => (List.mem_cons_of_mem _ (List.mem_append_right _ (List.mem_append_left _ hh)))) hown hK hT (fx_50 hX) (by decide) cl_e60 rfl 41 (by decide) (hts (.fieldLink RX12 116 "TypingPoolModel" "values" "[I") (List.mem_cons_of_mem _ (List.mem_append_left _ (List.mem_of_getElem? (i := 1) rfl)))) (fun _ h9 => h9) rfl dX12_orderOf_131 ?_
        refine lv_bipush (v := 6) hx hb dX12_orderOf_134 (by decide) ?_
        refine lv_aload_n hx hb dX12_orderOf_136 rfl (lv_at hl 0 rfl) ?_
        refine tw_get (D := (dC, dI)) (v := .ref (a 68)) (C := RX12) (T := TX12) (N := 58) hx hb hts (fun _ hh => (List.mem_cons_of_mem _ (List.mem_append_right _ (List.mem_append_left _ hh)))) hown hK hT (fx_50 hX) (by decide) cl_e60 rfl 17 (by decide) (hts (.fieldLink RX12 52 "TypingPoolModel" "words" "[I") (List.mem_cons_of_mem _ (List.mem_append_left _ (List.mem_of_getElem? (i := 12) rfl)))) (fun _ h9 => h9) rfl dX12_orderOf_137 ?_
        refine lv_iload_n hx hb dX12_orderOf_140 rfl (lv_at hl 2 rfl) ?_
        refine tw_iald hx hb hK hT 0 (fx_68 hX) (by decide) cl_e78 rfl (z_in rfl (by omega) (by omega)) dX12_orderOf_141 ?_
        refine lv_aload_n hx hb dX12_orderOf_142 rfl (lv_at hl 0 rfl) ?_
        refine lv_iload_n hx hb dX12_orderOf_143 rfl (lv_at hl 1 rfl) ?_
        refine lv_iconst (v := 2) hx hb dX12_orderOf_144 (by decide) ?_
        have hFc := tw_free hF hS hA
        have hp_16 : (2 : Int32).toInt = 2 := (zk (x := 2) 2 rfl)
        refine va_calli (va_runV (As := [.int p0, .int 2]) (rest := [.int (y_15 (a 68) p1.toNatClampNeg), .int 6, .ref (a 92)]) ⟨hx, hb, hml, hown, hts⟩ (m_get l dC dI ad av H.size a k τ ln y_15 g_L5 u p0 (2 : Int32) hI (by omega) (by omega) (by decide) (by decide) hW) (cwV 2 hts (gi_4 (List.mem_cons_of_mem _ (List.mem_append_left _ (List.mem_of_getElem? (i := 13) rfl))) (List.mem_cons_of_mem _ (List.mem_append_left _ (List.mem_of_getElem? (i := 14) rfl))) (List.mem_cons_of_mem _ (List.mem_append_left _ (List.mem_of_getElem? (i := 15) rfl))) (List.mem_cons_of_mem _ (List.mem_append_left _ (List.mem_of_getElem? (i := 6) rfl))) (fun _ hh => (List.mem_cons_of_mem _ (List.mem_append_right _ (List.mem_append_right _ (List.mem_append_right _ (List.mem_append_left _ hh)))))) gd_m_get) rfl rfl rfl (by decide +kernel) ⟨Nat.le_of_ble_eq_true rfl, Nat.le_of_ble_eq_true rfl⟩) ⟨pw_blind, tw_recv hK hT (fx_50 hX) (by decide) cl_e60 rfl, pw_use hT hK hFc hS hM⟩ rfl rfl hl.1 rfl (lv_room (Nat.le_of_ble_eq_true rfl)) dX12_orderOf_145 ⟨Nat.le_of_ble_eq_true rfl, Nat.le_of_ble_eq_true rfl⟩) hS (fun q _ h => hFc q h) hFc (fun r0 r_17 t H locs ht hvm hw hB hz1 hk1 hS => ?_)
        refine W.widen (k := 0) (n := 0) (Nat.le_of_ble_eq_true rfl) (Nat.le_of_ble_eq_true rfl) ?_
        clear hvm hz1 hk1
        subst hw
        obtain ⟨hf_18, hT⟩ := hB
        rw [ht] at hT
        try simp only [hp_16] at hf_18
        clear hp_16
        refine lv_iconst (v := (-1)) hx hb dX12_orderOf_148 (by decide) ?_
        refine lv_ixor hx hb dX12_orderOf_149 ?_
        refine lv_topi (fun x_19 ex_19 => ?_)
        refine lv_iand hx hb dX12_orderOf_150 ?_
        refine lv_topi (fun x_20 ex_20 => ?_)
        have hFc := tw_free hF hS hA
        refine va_calli (va_runS (As := [.int x_20]) (rest := [.int 6, .ref (a 92)]) ⟨hx, hb, hml, hown, hts⟩ (m_bits l dC dI ad av H.size a k τ ln y_15 g_L5 u x_20  ) (va_cwS 1 hts (gi_3 (List.mem_cons_of_mem _ (List.mem_append_left _ (List.mem_of_getElem? (i := 16) rfl))) (List.mem_cons_of_mem _ (List.mem_append_left _ (List.mem_of_getElem? (i := 17) rfl))) (List.mem_cons_of_mem _ (List.mem_append_left _ (List.mem_of_getElem? (i := 6) rfl))) (fun _ hh => (List.mem_cons_of_mem _ (List.mem_append_right _ (List.mem_append_right _ (List.mem_append_right _ (List.mem_append_right _ (List.mem_append_left _ hh))))))) gd_m_bits) rfl rfl rfl (by decide +kernel) ⟨Nat.le_of_ble_eq_true rfl, Nat.le_of_ble_eq_true rfl⟩) ⟨pw_blind, pw_use hT hK hFc hS hM⟩ rfl rfl hl.1 rfl (lv_room (Nat.le_of_ble_eq_true rfl)) dX12_orderOf_151 ⟨Nat.le_of_ble_eq_true rfl, Nat.le_of_ble_eq_true rfl⟩) hS (fun q _ h => hFc q h) hFc (fun r0 r_21 t H locs ht hvm hw hB hz1 hk1 hS => ?_)
        refine W.widen (k := 0) (n := 0) (Nat.le_of_ble_eq_true rfl) (Nat.le_of_ble_eq_true rfl) ?_
        clear hvm hz1 hk1
        subst hw
        obtain ⟨hf_22, hf_23, hT⟩ := hB
        rw [ht] at hT
        refine tw_iast hx hb hK hT hF hS 0 (fx_92 hX) (by decide) (fun _ => cl_e102) rfl (z_in (zk (x := 6) 6 rfl) (by omega) (by omega)) dX12_orderOf_154 (fun H locs hT hS => ?_)
        obtain ⟨y_24, hy_24, hT⟩ : ∃ z : Nat → Nat → Int32, z = up2 y_15 (a 92) ((6 : Int32).toNatClampNeg) r_21 ∧ tw (dC, dI) a k τ ln z g_L5 H := ⟨_, rfl, hT⟩
        have hG : ag τ [60, 102] y y_24 := by rw [hy_24]; exact hG.up (fx_92 hX) (by decide)
        have hW : IW (u 1) (u 2) (u 9) (y_24 (a 89)) := by rw [hy_24, up2_o (kd_ne (fx_89 hX) (fx_92 hX) (by decide))]; exact hW
        have hI := hI.ag (S := [102]) (y' := y_24) (by rw [hy_24]; exact ag.one (fx_92 hX)) (by decide)
        refine lv_aload_n hx hb dX12_orderOf_155 rfl (lv_at hl 0 rfl) ?_
        refine tw_get (D := (dC, dI)) (v := .ref (a 92)) (C := RX12) (T := TX12) (N := 58) hx hb hts (fun _ hh => (List.mem_cons_of_mem _ (List.mem_append_right _ (List.mem_append_left _ hh)))) hown hK hT (fx_50 hX) (by decide) cl_e60 rfl 41 (by decide) (hts (.fieldLink RX12 116 "TypingPoolModel" "values" "[I") (List.mem_cons_of_mem _ (List.mem_append_left _ (List.mem_of_getElem? (i := 1) rfl)))) (fun _ h9 => h9) rfl dX12_orderOf_156 ?_
        refine lv_bipush (v := 7) hx hb dX12_orderOf_159 (by decide) ?_
        refine lv_iload_n hx hb dX12_orderOf_161 rfl (lv_at hl 3 rfl) ?_
        refine tw_iast hx hb hK hT hF hS 0 (fx_92 hX) (by decide) (fun _ => cl_e102) rfl (z_in (zk (x := 7) 7 rfl) (by omega) (by omega)) dX12_orderOf_162 (fun H locs hT hS => ?_)
        obtain ⟨y_25, hy_25, hT⟩ : ∃ z : Nat → Nat → Int32, z = up2 y_24 (a 92) ((7 : Int32).toNatClampNeg) w3 ∧ tw (dC, dI) a k τ ln z g_L5 H := ⟨_, rfl, hT⟩
        have hG : ag τ [60, 102] y y_25 := by rw [hy_25]; exact hG.up (fx_92 hX) (by decide)
        have hW : IW (u 1) (u 2) (u 9) (y_25 (a 89)) := by rw [hy_25, up2_o (kd_ne (fx_89 hX) (fx_92 hX) (by decide))]; exact hW
        have hI := hI.ag (S := [102]) (y' := y_25) (by rw [hy_25]; exact ag.one (fx_92 hX)) (by decide)
        refine lv_aload_n hx hb dX12_orderOf_163 rfl (lv_at hl 0 rfl) ?_
        refine lv_iconst (v := 0) hx hb dX12_orderOf_164 (by decide) ?_
        refine lv_aload_n hx hb dX12_orderOf_165 rfl (lv_at hl 0 rfl) ?_
        have hFc := tw_free hF hS hA
        refine va_calli (va_runV (As := []) (rest := [.int 0, .ref (a 50)]) ⟨hx, hb, hml, hown, hts⟩ (m_now l dC dI ad av H.size a k τ ln y_25 g_L5 u  hI hW) (cwV 0 hts (gi_4 (List.mem_cons_of_mem _ (List.mem_append_left _ (List.mem_of_getElem? (i := 3) rfl))) (List.mem_cons_of_mem _ (List.mem_append_left _ (List.mem_of_getElem? (i := 4) rfl))) (List.mem_cons_of_mem _ (List.mem_append_left _ (List.mem_of_getElem? (i := 5) rfl))) (List.mem_cons_of_mem _ (List.mem_append_left _ (List.mem_of_getElem? (i := 6) rfl))) (fun _ hh => (List.mem_cons_of_mem _ (List.mem_append_right _ (List.mem_append_right _ (List.mem_append_left _ hh))))) gd_m_now) rfl rfl rfl (by decide +kernel) ⟨Nat.le_of_ble_eq_true rfl, Nat.le_of_ble_eq_true rfl⟩) ⟨pw_blind, tw_recv hK hT (fx_50 hX) (by decide) cl_e60 rfl, pw_use hT hK hFc hS hM⟩ rfl rfl hl.1 rfl (lv_room (Nat.le_of_ble_eq_true rfl)) dX12_orderOf_166 ⟨Nat.le_of_ble_eq_true rfl, Nat.le_of_ble_eq_true rfl⟩) hS (fun q _ h => hFc q h) hFc (fun r0 r_26 t H locs ht hvm hw hB hz1 hk1 hS => ?_)
        refine W.widen (k := 0) (n := 0) (Nat.le_of_ble_eq_true rfl) (Nat.le_of_ble_eq_true rfl) ?_
        clear hvm hz1 hk1
        subst hw
        obtain ⟨hf_27, hT⟩ := hB
        rw [ht] at hT
        refine lv_sipush (v := 480) hx hb dX12_orderOf_169 (by decide) ?_
        refine lv_idiv hx hb dX12_orderOf_172 (by decide) ?_
        refine lv_topi (fun x_28 ex_28 => ?_)
        have hFc := tw_free hF hS hA
        have hp_29 : (0 : Int32).toInt = 0 := (zk (x := 0) 0 rfl)
        refine va_calli (va_runV (As := [.int 0, .int x_28]) (rest := []) ⟨hx, hb, hml, hown, hts⟩ (m_asks l dC dI ad av H.size a k τ ln y_25 g_L5 u (0 : Int32) x_28 hI (by decide) (by decide) hW) (cwV 2 hts (gi_4 (List.mem_cons_of_mem _ (List.mem_append_left _ (List.mem_of_getElem? (i := 18) rfl))) (List.mem_cons_of_mem _ (List.mem_append_left _ (List.mem_of_getElem? (i := 19) rfl))) (List.mem_cons_of_mem _ (List.mem_append_left _ (List.mem_of_getElem? (i := 20) rfl))) (List.mem_cons_of_mem _ (List.mem_append_left _ (List.mem_of_getElem? (i := 6) rfl))) (fun _ hh => (List.mem_cons_of_mem _ (List.mem_append_right _ (List.mem_append_right _ (List.mem_append_right _ (List.mem_append_right _ (List.mem_append_right _ (List.mem_append_left _ hh)))))))) gd_m_asks) rfl rfl rfl (by decide +kernel) ⟨Nat.le_of_ble_eq_true rfl, Nat.le_of_ble_eq_true rfl⟩) ⟨pw_blind, tw_recv hK hT (fx_50 hX) (by decide) cl_e60 rfl, pw_use hT hK hFc hS hM⟩ rfl rfl hl.1 rfl (lv_room (Nat.le_of_ble_eq_true rfl)) dX12_orderOf_173 ⟨Nat.le_of_ble_eq_true rfl, Nat.le_of_ble_eq_true rfl⟩) hS (fun q _ h => hFc q h) hFc (fun r0 r_30 t H locs ht hvm hw hB hz1 hk1 hS => ?_)
        refine W.widen (k := 0) (n := 0) (Nat.le_of_ble_eq_true rfl) (Nat.le_of_ble_eq_true rfl) ?_
        clear hvm hz1 hk1
        subst hw
        obtain ⟨y_31, g_32, hgy_31, hggg_32, hI, hf_33, hT⟩ := hB
        rw [ht] at hT
        have hG := hG.tr hgy_31 (by decide)
        have hGg := hGg.tr hggg_32
        have hW : IW (u 1) (u 2) (u 9) (y_31 (a 89)) := by rw [hgy_31.at (fx_89 hX) (by decide)]; exact hW
        try simp only [hp_29] at hf_33
        clear hp_29
        exact W.iret (v := r_30) hx hb hr (fun t ht hW9 => ⟨⟨r_30, r_30, rfl, rfl, ⟨y_31, g_32, hG, hGg, hI, tw_at ht hT⟩⟩, hS.F ht⟩) hS.2.2 dX12_orderOf_176
      · have nc_2 := z_nle hc_1 rfl c_2
        refine lv_aload_n hx hb dX12_orderOf_14 rfl (lv_at hl 0 rfl) ?_
        refine tw_get (D := (dC, dI)) (v := .ref (a 61)) (C := RX12) (T := TX12) (N := 58) hx hb hts (fun _ hh => (List.mem_cons_of_mem _ (List.mem_append_right _ (List.mem_append_left _ hh)))) hown hK hT (fx_50 hX) (by decide) cl_e60 rfl 10 (by decide) (hts (.fieldLink RX12 31 "TypingPoolModel" "department" "[I") (List.mem_cons_of_mem _ (List.mem_append_left _ (List.mem_of_getElem? (i := 11) rfl)))) (fun _ h9 => h9) rfl dX12_orderOf_15 ?_
        refine lv_iload hx hb dX12_orderOf_18 (lv_at hl 4 rfl) ?_
        refine tw_iald hx hb hK hT 0 (fx_61 hX) (by decide) cl_e71 rfl (z_in rfl (by omega) (by omega)) dX12_orderOf_20 ?_
        refine lv_aload_n hx hb dX12_orderOf_21 rfl (lv_at hl 0 rfl) ?_
        refine tw_get (D := (dC, dI)) (v := .ref (a 61)) (C := RX12) (T := TX12) (N := 58) hx hb hts (fun _ hh => (List.mem_cons_of_mem _ (List.mem_append_right _ (List.mem_append_left _ hh)))) hown hK hT (fx_50 hX) (by decide) cl_e60 rfl 10 (by decide) (hts (.fieldLink RX12 31 "TypingPoolModel" "department" "[I") (List.mem_cons_of_mem _ (List.mem_append_left _ (List.mem_of_getElem? (i := 11) rfl)))) (fun _ h9 => h9) rfl dX12_orderOf_22 ?_
        refine lv_iload_n hx hb dX12_orderOf_25 rfl (lv_at hl 2 rfl) ?_
        refine tw_iald hx hb hK hT 0 (fx_61 hX) (by decide) cl_e71 rfl (z_in rfl (by omega) (by omega)) dX12_orderOf_26 ?_
        refine lv_icmp_ne (tgt := 42) hx hb dX12_orderOf_27 (by decide) (fun c_34 => ?_) (fun c_34 => ?_)
        · have nc_34 := z_ne rfl rfl c_34
          obtain ⟨x_35, ex_35⟩ : ∃ y : Int32, y = i4 + Int32.ofInt 1 := ⟨_, rfl⟩
          have hx_35 := z_add ex_35 rfl (zk (x := Int32.ofInt 1) 1 rfl) (by omega) (by omega)
          refine lv_iinc (v := x_35) (lv' := [(4, .int x_35), (0, .ref (a 50)), (1, .int p0), (2, .int p1), (3, .int w3)]) hx hb dX12_orderOf_42 hl (k := 4) rfl ex_35.symm (by decide) rfl (fun ls hl => ?_)
          refine lv_goto (tgt := 5) hx hb dX12_orderOf_45 (by decide) ?_
          exact ih_5  w3 x_35 y_L5 g_L5 H _ ls (by omega) hG hI hGg hW (by omega) (by omega) hT hS (lv_sub hl [1, 2, 3, 4, 0] rfl)
        · have nc_34 := z_eq rfl rfl c_34
          refine lv_aload_n hx hb dX12_orderOf_30 rfl (lv_at hl 0 rfl) ?_
          refine lv_iload hx hb dX12_orderOf_31 (lv_at hl 4 rfl) ?_
          have hFc := tw_free hF hS hA
          refine va_calli (va_runV (As := [.int i4]) (rest := []) ⟨hx, hb, hml, hown, hts⟩ (m_waits l dC dI ad av H.size a k τ ln y_L5 g_L5 u i4 hI (by omega) (by omega) hW) (cwV 1 hts (gi_4 (List.mem_cons_of_mem _ (List.mem_append_left _ (List.mem_of_getElem? (i := 21) rfl))) (List.mem_cons_of_mem _ (List.mem_append_left _ (List.mem_of_getElem? (i := 22) rfl))) (List.mem_cons_of_mem _ (List.mem_append_left _ (List.mem_of_getElem? (i := 23) rfl))) (List.mem_cons_of_mem _ (List.mem_append_left _ (List.mem_of_getElem? (i := 6) rfl))) (fun _ hh => (List.mem_cons_of_mem _ (List.mem_append_right _ (List.mem_append_right _ (List.mem_append_right _ (List.mem_append_right _ (List.mem_append_right _ (List.mem_append_right _ (List.mem_append_left _ hh))))))))) gd_m_waits) rfl rfl rfl (by decide +kernel) ⟨Nat.le_of_ble_eq_true rfl, Nat.le_of_ble_eq_true rfl⟩) ⟨pw_blind, tw_recv hK hT (fx_50 hX) (by decide) cl_e60 rfl, pw_use hT hK hFc hS hM⟩ rfl rfl hl.1 rfl (lv_room (Nat.le_of_ble_eq_true rfl)) dX12_orderOf_33 ⟨Nat.le_of_ble_eq_true rfl, Nat.le_of_ble_eq_true rfl⟩) hS (fun q _ h => hFc q h) hFc (fun r0 r_36 t H locs ht hvm hw hB hz1 hk1 hS => ?_)
          refine W.widen (k := 0) (n := 0) (Nat.le_of_ble_eq_true rfl) (Nat.le_of_ble_eq_true rfl) ?_
          clear hvm hz1 hk1
          subst hw
          rcases hB with ⟨hre, hT⟩ | ⟨hre, hT⟩
          · refine lq_top (v := 1) hre ?_
            rw [ht] at hT
            refine lv_if_eq (tgt := 42) hx hb dX12_orderOf_36 (by decide) (fun c_37 => absurd c_37 (by decide)) (fun c_37 => ?_)
            obtain ⟨x_38, ex_38⟩ : ∃ y : Int32, y = w3 + Int32.ofInt 1 := ⟨_, rfl⟩
            refine lv_iinc (v := x_38) (lv' := [(3, .int x_38), (0, .ref (a 50)), (1, .int p0), (2, .int p1), (4, .int i4)]) hx hb dX12_orderOf_39 hl (k := 3) rfl ex_38.symm (by decide) rfl (fun ls hl => ?_)
            obtain ⟨x_39, ex_39⟩ : ∃ y : Int32, y = i4 + Int32.ofInt 1 := ⟨_, rfl⟩
            have hx_39 := z_add ex_39 rfl (zk (x := Int32.ofInt 1) 1 rfl) (by omega) (by omega)
            refine lv_iinc (v := x_39) (lv' := [(4, .int x_39), (3, .int x_38), (0, .ref (a 50)), (1, .int p0), (2, .int p1)]) hx hb dX12_orderOf_42 hl (k := 4) rfl ex_39.symm (by decide) rfl (fun ls hl => ?_)
            refine lv_goto (tgt := 5) hx hb dX12_orderOf_45 (by decide) ?_
            exact ih_5  x_38 x_39 y_L5 g_L5 H _ ls (by omega) hG hI hGg hW (by omega) (by omega) hT hS (lv_sub hl [2, 3, 4, 1, 0] rfl)
          · refine lq_top (v := 0) hre ?_
            rw [ht] at hT
            refine lv_if_eq (tgt := 42) hx hb dX12_orderOf_36 (by decide) (fun c_40 => ?_) (fun c_40 => absurd c_40 (by decide))
            obtain ⟨x_41, ex_41⟩ : ∃ y : Int32, y = i4 + Int32.ofInt 1 := ⟨_, rfl⟩
            have hx_41 := z_add ex_41 rfl (zk (x := Int32.ofInt 1) 1 rfl) (by omega) (by omega)
            refine lv_iinc (v := x_41) (lv' := [(4, .int x_41), (0, .ref (a 50)), (1, .int p0), (2, .int p1), (3, .int w3)]) hx hb dX12_orderOf_42 hl (k := 4) rfl ex_41.symm (by decide) rfl (fun ls hl => ?_)
            refine lv_goto (tgt := 5) hx hb dX12_orderOf_45 (by decide) ?_
            exact ih_5  w3 x_41 y_L5 g_L5 H _ ls (by omega) hG hI hGg hW (by omega) (by omega) hT hS (lv_sub hl [1, 2, 3, 4, 0] rfl)
  have hp_42 : (0 : Int32).toInt = 0 := (zk (x := 0) 0 rfl)
  have hp_43 : (0 : Int32).toInt = 0 := (zk (x := 0) 0 rfl)
  exact loop_5 _ (0 : Int32) (0 : Int32) y g s.heap _ ls (Nat.lt_succ_self _) hG hI hGg hW (by omega) (by omega) hT hS (lv_sub hl [2, 3, 4, 1, 0] rfl)
def wo_m_mayDo : List Cond := [.fieldLink RX12 16 "TypingPoolModel" "styles" "[I", .fieldLink RX12 34 "TypingPoolModel" "style" "[I", .fieldLink RX12 116 "TypingPoolModel" "values" "[I", .fieldLink RX12 40 "TypingPoolModel" "secret" "[I", .fieldLink RX12 19 "TypingPoolModel" "leave" "[I", .fieldLink RX12 31 "TypingPoolModel" "department" "[I", .methodLink RX12 164 yX12_now, .instanceMethod yX12_now, .selects RX12 yX12_now yX12_now, .initialized RX12, .methodLink RX12 278 yX12_asks, .instanceMethod yX12_asks, .selects RX12 yX12_asks yX12_asks]
def wm_m_mayDo : List Cond := .code yX12_mayDo cX12_mayDo 3 (some .boolean) :: (wo_m_mayDo ++ (wsX120 ++ (wm_m_now ++ (wm_m_asks ++ ([] : List Cond)))))
theorem gd_m_mayDo : ∀ w ∈ wm_m_mayDo, goodWord w = true := gd_c rfl (gd_a (by decide) (gd_a gd_wsX120 (gd_a gd_m_now (gd_a gd_m_asks gd_nil))))
set_option maxRecDepth 20000 in
theorem im_m_mayDo : ∀ w ∈ wm_m_mayDo, w ∈ lw_tbl := im_c (in_r [.code yX12_mayDo cX12_mayDo 3 (some .boolean)] [1563] (by decide +kernel)) (in_app (in_r wo_m_mayDo [1244, 1252, 1282, 1254, 1245, 1251, 1440, 1442, 28, 86, 1564, 1566, 52] (by decide +kernel)) (in_app im_wsX120 (in_app im_m_now (in_app im_m_asks im_nil))))
set_option maxHeartbeats 4000000 in
set_option maxRecDepth 100000 in
theorem m_mayDo (l : Launch) (dC : Nat → ClassId) (dI : Nat → Nat → Nat) (ad av : Nat → Nat) (sz : Nat) (a : Nat → Nat) (k : Nat → ClassId) (τ ln : Nat → Nat) (y : Nat → Nat → Int32) (g : Nat → Nat → Option Nat) (u : Nat → Int) (p0 : Int32) (p1 : Int32) (hI : IM a u τ y) (hlp0 : 0 ≤ p0.toInt) (hup0 : p0.toInt < u 1) (hlp1 : 0 ≤ p1.toInt) (hup1 : p1.toInt < u 2) (hW : IW (u 1) (u 2) (u 9) (y (a 89))) : Met l yX12_mayDo wm_m_mayDo ({ frames := 385, cells := 0, slots := 0, locals := 25220 }) (pw_ ad av (dC, dI) sz [.ref (a 50), .int p0, .int p1] a k τ ln y g) (va_Qi (fun (r u : Int32) => u = r) (fun (r : Int32) (t : State) => (∃ (y' : Nat → Nat → Int32) (g' : Nat → Nat → Option Nat), r = 1 ∧ ag τ [60, 102] y y' ∧ agg τ g g' ∧ IM a u τ y' ∧ pk a y y' ∧ tw (dC, dI) a k τ ln y' g' t.heap) ∨ (∃ (y' : Nat → Nat → Int32) (g' : Nat → Nat → Option Nat), r = 0 ∧ ag τ [60, 102] y y' ∧ agg τ g g' ∧ IM a u τ y' ∧ pk a y y' ∧ tw (dC, dI) a k τ ln y' g' t.heap)) (fr τ sz)) 0 0 (fr τ sz) := by
  refine Met.ofW (cc := cX12_mayDo) (maxL := 3) (ret := (some .boolean)) (by decide) rfl ?_
  intro p e s m args below meth c s₁ B hml hv
  obtain ⟨rfl, hsz, hT, hK, hM⟩ := hv
  have hx := B.exec
  have hb := B.bytes
  have hr := B.returns
  have hts := atoms_spec (ws := wm_m_mayDo) B.pre
  have hown : s.vm.findClass RX12 = some m.cls := findClass_of_methodNamed B.named
  have hlocks := B.notSynchronized
  subst hsz
  generalize hAe : fr τ s.heap.size = A at hM ⊢
  have hA : ∀ q : Nat, s.heap.size ≤ q → A q := fun q h => by rw [← hAe]; exact Or.inr h
  have hF : ∀ q, τ q ≠ 0 → A q := fun q h => by rw [← hAe]; exact Or.inl h
  have hS : va_S A s.heap s.heap [] := va_S.rf
  have hX := hI.1
  have hR := im_r hI
  have hG : ag τ [60, 102] y y := ag.rf
  have hGg : agg τ g g := agg.rf
  have hl := lv_entry ([.ref (a 50), .int p0, .int p1]) (n := 3) (Nat.le_of_ble_eq_true rfl)
  rw [lg_entry_eq]
  generalize (lg_sl ([.ref (a 50), .int p0, .int p1]) ++ List.replicate (3 - (lg_sl ([.ref (a 50), .int p0, .int p1])).length) Slot.unset).toArray = ls at hl ⊢
  have hl : lv_has ls 3 [(0, .ref (a 50)), (1, .int p0), (2, .int p1)] := hl
  have hPK : pk a y y := pk_rf
  refine lv_aload_n hx hb dX12_mayDo_0 rfl (lv_at hl 0 rfl) ?_
  refine tw_get (D := (dC, dI)) (v := .ref (a 54)) (C := RX12) (T := TX12) (N := 58) hx hb hts (fun _ hh => (List.mem_cons_of_mem _ (List.mem_append_right _ (List.mem_append_left _ hh)))) hown hK hT (fx_50 hX) (by decide) cl_e60 rfl 3 (by decide) (hts (.fieldLink RX12 16 "TypingPoolModel" "styles" "[I") (List.mem_cons_of_mem _ (List.mem_append_left _ (List.mem_of_getElem? (i := 0) rfl)))) (fun _ h9 => h9) rfl dX12_mayDo_1 ?_
  refine lv_iload_n hx hb dX12_mayDo_4 rfl (lv_at hl 1 rfl) ?_
  refine tw_iald hx hb hK hT 0 (fx_54 hX) (by decide) cl_e64 rfl (z_in rfl (by omega) (by omega)) dX12_mayDo_5 ?_
  refine lv_aload_n hx hb dX12_mayDo_6 rfl (lv_at hl 0 rfl) ?_
  refine tw_get (D := (dC, dI)) (v := .ref (a 62)) (C := RX12) (T := TX12) (N := 58) hx hb hts (fun _ hh => (List.mem_cons_of_mem _ (List.mem_append_right _ (List.mem_append_left _ hh)))) hown hK hT (fx_50 hX) (by decide) cl_e60 rfl 11 (by decide) (hts (.fieldLink RX12 34 "TypingPoolModel" "style" "[I") (List.mem_cons_of_mem _ (List.mem_append_left _ (List.mem_of_getElem? (i := 1) rfl)))) (fun _ h9 => h9) rfl dX12_mayDo_7 ?_
  refine lv_iload_n hx hb dX12_mayDo_10 rfl (lv_at hl 2 rfl) ?_
  refine tw_iald hx hb hK hT 0 (fx_62 hX) (by decide) cl_e72 rfl (z_in rfl (by omega) (by omega)) dX12_mayDo_11 ?_
  refine lv_ishr hx hb dX12_mayDo_12 ?_
  refine lv_topi (fun x_1 ex_1 => ?_)
  refine lv_iconst (v := 1) hx hb dX12_mayDo_13 (by decide) ?_
  refine lv_iand hx hb dX12_mayDo_14 ?_
  refine lv_topi (fun x_2 ex_2 => ?_)
  have hx_2 := z_and (x := x_1) (zk (x := 1) 1 rfl) (by omega)
  rw [← ex_2] at hx_2
  refine lv_if_ne (tgt := 20) hx hb dX12_mayDo_15 (by decide) (fun c_3 => ?_) (fun c_3 => ?_)
  · have nc_3 := z_ne rfl (zk (x := 0) 0 rfl) c_3
    refine lv_aload_n hx hb dX12_mayDo_20 rfl (lv_at hl 0 rfl) ?_
    refine tw_get (D := (dC, dI)) (v := .ref (a 92)) (C := RX12) (T := TX12) (N := 58) hx hb hts (fun _ hh => (List.mem_cons_of_mem _ (List.mem_append_right _ (List.mem_append_left _ hh)))) hown hK hT (fx_50 hX) (by decide) cl_e60 rfl 41 (by decide) (hts (.fieldLink RX12 116 "TypingPoolModel" "values" "[I") (List.mem_cons_of_mem _ (List.mem_append_left _ (List.mem_of_getElem? (i := 2) rfl)))) (fun _ h9 => h9) rfl dX12_mayDo_21 ?_
    refine lv_iconst (v := 0) hx hb dX12_mayDo_24 (by decide) ?_
    refine lv_aload_n hx hb dX12_mayDo_25 rfl (lv_at hl 0 rfl) ?_
    refine tw_get (D := (dC, dI)) (v := .ref (a 64)) (C := RX12) (T := TX12) (N := 58) hx hb hts (fun _ hh => (List.mem_cons_of_mem _ (List.mem_append_right _ (List.mem_append_left _ hh)))) hown hK hT (fx_50 hX) (by decide) cl_e60 rfl 13 (by decide) (hts (.fieldLink RX12 40 "TypingPoolModel" "secret" "[I") (List.mem_cons_of_mem _ (List.mem_append_left _ (List.mem_of_getElem? (i := 3) rfl)))) (fun _ h9 => h9) rfl dX12_mayDo_26 ?_
    refine lv_iload_n hx hb dX12_mayDo_29 rfl (lv_at hl 2 rfl) ?_
    refine tw_iald hx hb hK hT 0 (fx_64 hX) (by decide) cl_e74 rfl (z_in rfl (by omega) (by omega)) dX12_mayDo_30 ?_
    refine tw_iast hx hb hK hT hF hS 0 (fx_92 hX) (by decide) (fun _ => cl_e102) rfl (z_in (zk (x := 0) 0 rfl) (by omega) (by omega)) dX12_mayDo_31 (fun H locs hT hS => ?_)
    obtain ⟨y_4, hy_4, hT⟩ : ∃ z : Nat → Nat → Int32, z = up2 y (a 92) ((0 : Int32).toNatClampNeg) (y (a 64) p1.toNatClampNeg) ∧ tw (dC, dI) a k τ ln z g H := ⟨_, rfl, hT⟩
    have hG : ag τ [60, 102] y y_4 := by rw [hy_4]; exact hG.up (fx_92 hX) (by decide)
    have hPK : pk a y y_4 := by rw [hy_4]; exact hPK.o (kd_ne (fx_50 hX) (fx_92 hX) (by decide))
    have hW : IW (u 1) (u 2) (u 9) (y_4 (a 89)) := by rw [hy_4, up2_o (kd_ne (fx_89 hX) (fx_92 hX) (by decide))]; exact hW
    have hI := hI.ag (S := [102]) (y' := y_4) (by rw [hy_4]; exact ag.one (fx_92 hX)) (by decide)
    refine lv_aload_n hx hb dX12_mayDo_32 rfl (lv_at hl 0 rfl) ?_
    refine tw_get (D := (dC, dI)) (v := .ref (a 92)) (C := RX12) (T := TX12) (N := 58) hx hb hts (fun _ hh => (List.mem_cons_of_mem _ (List.mem_append_right _ (List.mem_append_left _ hh)))) hown hK hT (fx_50 hX) (by decide) cl_e60 rfl 41 (by decide) (hts (.fieldLink RX12 116 "TypingPoolModel" "values" "[I") (List.mem_cons_of_mem _ (List.mem_append_left _ (List.mem_of_getElem? (i := 2) rfl)))) (fun _ h9 => h9) rfl dX12_mayDo_33 ?_
    refine lv_iconst (v := 1) hx hb dX12_mayDo_36 (by decide) ?_
    refine lv_aload_n hx hb dX12_mayDo_37 rfl (lv_at hl 0 rfl) ?_
    refine tw_get (D := (dC, dI)) (v := .ref (a 55)) (C := RX12) (T := TX12) (N := 58) hx hb hts (fun _ hh => (List.mem_cons_of_mem _ (List.mem_append_right _ (List.mem_append_left _ hh)))) hown hK hT (fx_50 hX) (by decide) cl_e60 rfl 4 (by decide) (hts (.fieldLink RX12 19 "TypingPoolModel" "leave" "[I") (List.mem_cons_of_mem _ (List.mem_append_left _ (List.mem_of_getElem? (i := 4) rfl)))) (fun _ h9 => h9) rfl dX12_mayDo_38 ?_
    refine lv_iload_n hx hb dX12_mayDo_41 rfl (lv_at hl 1 rfl) ?_
    refine tw_iald hx hb hK hT 0 (fx_55 hX) (by decide) cl_e65 rfl (z_in rfl (by omega) (by omega)) dX12_mayDo_42 ?_
    refine tw_iast hx hb hK hT hF hS 0 (fx_92 hX) (by decide) (fun _ => cl_e102) rfl (z_in (zk (x := 1) 1 rfl) (by omega) (by omega)) dX12_mayDo_43 (fun H locs hT hS => ?_)
    obtain ⟨y_5, hy_5, hT⟩ : ∃ z : Nat → Nat → Int32, z = up2 y_4 (a 92) ((1 : Int32).toNatClampNeg) (y_4 (a 55) p0.toNatClampNeg) ∧ tw (dC, dI) a k τ ln z g H := ⟨_, rfl, hT⟩
    have hG : ag τ [60, 102] y y_5 := by rw [hy_5]; exact hG.up (fx_92 hX) (by decide)
    have hPK : pk a y y_5 := by rw [hy_5]; exact hPK.o (kd_ne (fx_50 hX) (fx_92 hX) (by decide))
    have hW : IW (u 1) (u 2) (u 9) (y_5 (a 89)) := by rw [hy_5, up2_o (kd_ne (fx_89 hX) (fx_92 hX) (by decide))]; exact hW
    have hI := hI.ag (S := [102]) (y' := y_5) (by rw [hy_5]; exact ag.one (fx_92 hX)) (by decide)
    refine lv_aload_n hx hb dX12_mayDo_44 rfl (lv_at hl 0 rfl) ?_
    refine tw_get (D := (dC, dI)) (v := .ref (a 92)) (C := RX12) (T := TX12) (N := 58) hx hb hts (fun _ hh => (List.mem_cons_of_mem _ (List.mem_append_right _ (List.mem_append_left _ hh)))) hown hK hT (fx_50 hX) (by decide) cl_e60 rfl 41 (by decide) (hts (.fieldLink RX12 116 "TypingPoolModel" "values" "[I") (List.mem_cons_of_mem _ (List.mem_append_left _ (List.mem_of_getElem? (i := 2) rfl)))) (fun _ h9 => h9) rfl dX12_mayDo_45 ?_
    refine lv_iconst (v := 2) hx hb dX12_mayDo_48 (by decide) ?_
    refine lv_aload_n hx hb dX12_mayDo_49 rfl (lv_at hl 0 rfl) ?_
    refine tw_get (D := (dC, dI)) (v := .ref (a 61)) (C := RX12) (T := TX12) (N := 58) hx hb hts (fun _ hh => (List.mem_cons_of_mem _ (List.mem_append_right _ (List.mem_append_left _ hh)))) hown hK hT (fx_50 hX) (by decide) cl_e60 rfl 10 (by decide) (hts (.fieldLink RX12 31 "TypingPoolModel" "department" "[I") (List.mem_cons_of_mem _ (List.mem_append_left _ (List.mem_of_getElem? (i := 5) rfl)))) (fun _ h9 => h9) rfl dX12_mayDo_50 ?_
    refine lv_iload_n hx hb dX12_mayDo_53 rfl (lv_at hl 2 rfl) ?_
    refine tw_iald hx hb hK hT 0 (fx_61 hX) (by decide) cl_e71 rfl (z_in rfl (by omega) (by omega)) dX12_mayDo_54 ?_
    refine tw_iast hx hb hK hT hF hS 0 (fx_92 hX) (by decide) (fun _ => cl_e102) rfl (z_in (zk (x := 2) 2 rfl) (by omega) (by omega)) dX12_mayDo_55 (fun H locs hT hS => ?_)
    obtain ⟨y_6, hy_6, hT⟩ : ∃ z : Nat → Nat → Int32, z = up2 y_5 (a 92) ((2 : Int32).toNatClampNeg) (y_5 (a 61) p1.toNatClampNeg) ∧ tw (dC, dI) a k τ ln z g H := ⟨_, rfl, hT⟩
    have hG : ag τ [60, 102] y y_6 := by rw [hy_6]; exact hG.up (fx_92 hX) (by decide)
    have hPK : pk a y y_6 := by rw [hy_6]; exact hPK.o (kd_ne (fx_50 hX) (fx_92 hX) (by decide))
    have hW : IW (u 1) (u 2) (u 9) (y_6 (a 89)) := by rw [hy_6, up2_o (kd_ne (fx_89 hX) (fx_92 hX) (by decide))]; exact hW
    have hI := hI.ag (S := [102]) (y' := y_6) (by rw [hy_6]; exact ag.one (fx_92 hX)) (by decide)
    refine lv_aload_n hx hb dX12_mayDo_56 rfl (lv_at hl 0 rfl) ?_
    refine tw_get (D := (dC, dI)) (v := .ref (a 92)) (C := RX12) (T := TX12) (N := 58) hx hb hts (fun _ hh => (List.mem_cons_of_mem _ (List.mem_append_right _ (List.mem_append_left _ hh)))) hown hK hT (fx_50 hX) (by decide) cl_e60 rfl 41 (by decide) (hts (.fieldLink RX12 116 "TypingPoolModel" "values" "[I") (List.mem_cons_of_mem _ (List.mem_append_left _ (List.mem_of_getElem? (i := 2) rfl)))) (fun _ h9 => h9) rfl dX12_mayDo_57 ?_
    refine lv_iconst (v := 3) hx hb dX12_mayDo_60 (by decide) ?_
    refine lv_iload_n hx hb dX12_mayDo_61 rfl (lv_at hl 1 rfl) ?_
    refine tw_iast hx hb hK hT hF hS 0 (fx_92 hX) (by decide) (fun _ => cl_e102) rfl (z_in (zk (x := 3) 3 rfl) (by omega) (by omega)) dX12_mayDo_62 (fun H locs hT hS => ?_)
    obtain ⟨y_7, hy_7, hT⟩ : ∃ z : Nat → Nat → Int32, z = up2 y_6 (a 92) ((3 : Int32).toNatClampNeg) p0 ∧ tw (dC, dI) a k τ ln z g H := ⟨_, rfl, hT⟩
    have hG : ag τ [60, 102] y y_7 := by rw [hy_7]; exact hG.up (fx_92 hX) (by decide)
    have hPK : pk a y y_7 := by rw [hy_7]; exact hPK.o (kd_ne (fx_50 hX) (fx_92 hX) (by decide))
    have hW : IW (u 1) (u 2) (u 9) (y_7 (a 89)) := by rw [hy_7, up2_o (kd_ne (fx_89 hX) (fx_92 hX) (by decide))]; exact hW
    have hI := hI.ag (S := [102]) (y' := y_7) (by rw [hy_7]; exact ag.one (fx_92 hX)) (by decide)
    refine lv_aload_n hx hb dX12_mayDo_63 rfl (lv_at hl 0 rfl) ?_
    refine lv_iconst (v := 1) hx hb dX12_mayDo_64 (by decide) ?_
    refine lv_aload_n hx hb dX12_mayDo_65 rfl (lv_at hl 0 rfl) ?_
    have hFc := tw_free hF hS hA
    refine va_calli (va_runV (As := []) (rest := [.int 1, .ref (a 50)]) ⟨hx, hb, hml, hown, hts⟩ (m_now l dC dI ad av H.size a k τ ln y_7 g u  hI hW) (cwV 0 hts (gi_4 (List.mem_cons_of_mem _ (List.mem_append_left _ (List.mem_of_getElem? (i := 6) rfl))) (List.mem_cons_of_mem _ (List.mem_append_left _ (List.mem_of_getElem? (i := 7) rfl))) (List.mem_cons_of_mem _ (List.mem_append_left _ (List.mem_of_getElem? (i := 8) rfl))) (List.mem_cons_of_mem _ (List.mem_append_left _ (List.mem_of_getElem? (i := 9) rfl))) (fun _ hh => (List.mem_cons_of_mem _ (List.mem_append_right _ (List.mem_append_right _ (List.mem_append_left _ hh))))) gd_m_now) rfl rfl rfl (by decide +kernel) ⟨Nat.le_of_ble_eq_true rfl, Nat.le_of_ble_eq_true rfl⟩) ⟨pw_blind, tw_recv hK hT (fx_50 hX) (by decide) cl_e60 rfl, pw_use hT hK hFc hS hM⟩ rfl rfl hl.1 rfl (lv_room (Nat.le_of_ble_eq_true rfl)) dX12_mayDo_66 ⟨Nat.le_of_ble_eq_true rfl, Nat.le_of_ble_eq_true rfl⟩) hS (fun q _ h => hFc q h) hFc (fun r0 r_8 t H locs ht hvm hw hB hz1 hk1 hS => ?_)
    refine W.widen (k := 0) (n := 0) (Nat.le_of_ble_eq_true rfl) (Nat.le_of_ble_eq_true rfl) ?_
    clear hvm hz1 hk1
    subst hw
    obtain ⟨hf_9, hT⟩ := hB
    rw [ht] at hT
    refine lv_sipush (v := 480) hx hb dX12_mayDo_69 (by decide) ?_
    refine lv_idiv hx hb dX12_mayDo_72 (by decide) ?_
    refine lv_topi (fun x_10 ex_10 => ?_)
    have hFc := tw_free hF hS hA
    have hp_11 : (1 : Int32).toInt = 1 := (zk (x := 1) 1 rfl)
    refine va_calli (va_runV (As := [.int 1, .int x_10]) (rest := []) ⟨hx, hb, hml, hown, hts⟩ (m_asks l dC dI ad av H.size a k τ ln y_7 g u (1 : Int32) x_10 hI (by decide) (by decide) hW) (cwV 2 hts (gi_4 (List.mem_cons_of_mem _ (List.mem_append_left _ (List.mem_of_getElem? (i := 10) rfl))) (List.mem_cons_of_mem _ (List.mem_append_left _ (List.mem_of_getElem? (i := 11) rfl))) (List.mem_cons_of_mem _ (List.mem_append_left _ (List.mem_of_getElem? (i := 12) rfl))) (List.mem_cons_of_mem _ (List.mem_append_left _ (List.mem_of_getElem? (i := 9) rfl))) (fun _ hh => (List.mem_cons_of_mem _ (List.mem_append_right _ (List.mem_append_right _ (List.mem_append_right _ (List.mem_append_left _ hh)))))) gd_m_asks) rfl rfl rfl (by decide +kernel) ⟨Nat.le_of_ble_eq_true rfl, Nat.le_of_ble_eq_true rfl⟩) ⟨pw_blind, tw_recv hK hT (fx_50 hX) (by decide) cl_e60 rfl, pw_use hT hK hFc hS hM⟩ rfl rfl hl.1 rfl (lv_room (Nat.le_of_ble_eq_true rfl)) dX12_mayDo_73 ⟨Nat.le_of_ble_eq_true rfl, Nat.le_of_ble_eq_true rfl⟩) hS (fun q _ h => hFc q h) hFc (fun r0 r_12 t H locs ht hvm hw hB hz1 hk1 hS => ?_)
    refine W.widen (k := 0) (n := 0) (Nat.le_of_ble_eq_true rfl) (Nat.le_of_ble_eq_true rfl) ?_
    clear hvm hz1 hk1
    subst hw
    obtain ⟨y_13, g_14, hgy_13, hggg_14, hI, hf_15, hT⟩ := hB
    rw [ht] at hT
    have hG := hG.tr hgy_13 (by decide)
    have hGg := hGg.tr hggg_14
    have hW : IW (u 1) (u 2) (u 9) (y_13 (a 89)) := by rw [hgy_13.at (fx_89 hX) (by decide)]; exact hW
    try simp only [hp_11] at hf_15
    clear hp_11
    have hPK := hPK.tr hf_15
    refine lv_if_eq (tgt := 83) hx hb dX12_mayDo_76 (by decide) (fun c_16 => ?_) (fun c_16 => ?_)
    · have nc_16 := z_eq rfl (zk (x := 0) 0 rfl) c_16
      refine lv_iconst (v := 0) hx hb dX12_mayDo_83 (by decide) ?_
      have hrv : (0 : Int32).toInt = 0 := (zk (x := 0) 0 rfl)
      exact W.zret (v := 0) hx hb hr (by decide) (fun t ht hW9 => ⟨⟨0, 0, rfl, rfl, Or.inr (⟨y_13, g_14, rfl, hG, hGg, hI, hPK, tw_at ht hT⟩)⟩, hS.F ht⟩) hS.2.2 dX12_mayDo_84
    · have nc_16 := z_ne rfl (zk (x := 0) 0 rfl) c_16
      refine lv_iconst (v := 1) hx hb dX12_mayDo_79 (by decide) ?_
      refine lv_goto (tgt := 84) hx hb dX12_mayDo_80 (by decide) ?_
      have hrv : (1 : Int32).toInt = 1 := (zk (x := 1) 1 rfl)
      exact W.zret (v := 1) hx hb hr (by decide) (fun t ht hW9 => ⟨⟨1, 1, rfl, rfl, Or.inl ⟨y_13, g_14, rfl, hG, hGg, hI, hPK, tw_at ht hT⟩⟩, hS.F ht⟩) hS.2.2 dX12_mayDo_84
  · have nc_3 := z_eq rfl (zk (x := 0) 0 rfl) c_3
    refine lv_iconst (v := 0) hx hb dX12_mayDo_18 (by decide) ?_
    have hrv : (0 : Int32).toInt = 0 := (zk (x := 0) 0 rfl)
    exact W.zret (v := 0) hx hb hr (by decide) (fun t ht hW9 => ⟨⟨0, 0, rfl, rfl, Or.inr (⟨y, g, rfl, hG, hGg, hI, hPK, tw_at ht hT⟩)⟩, hS.F ht⟩) hS.2.2 dX12_mayDo_19
def wo_m_choose : List Cond := [.fieldLink RX12 149 "TypingPoolModel" "pieces" "I", .methodLink RX12 269 yX12_waits, .instanceMethod yX12_waits, .selects RX12 yX12_waits yX12_waits, .initialized RX12, .methodLink RX12 286 yX12_mayDo, .instanceMethod yX12_mayDo, .selects RX12 yX12_mayDo yX12_mayDo, .methodLink RX12 290 yX12_orderOf, .instanceMethod yX12_orderOf, .selects RX12 yX12_orderOf yX12_orderOf]
def wm_m_choose : List Cond := .code yX12_choose cX12_choose 6 (some .int) :: (wo_m_choose ++ (wsX120 ++ (wm_m_waits ++ (wm_m_mayDo ++ (wm_m_orderOf ++ ([] : List Cond))))))
theorem gd_m_choose : ∀ w ∈ wm_m_choose, goodWord w = true := gd_c rfl (gd_a (by decide) (gd_a gd_wsX120 (gd_a gd_m_waits (gd_a gd_m_mayDo (gd_a gd_m_orderOf gd_nil)))))
set_option maxRecDepth 20000 in
theorem im_m_choose : ∀ w ∈ wm_m_choose, w ∈ lw_tbl := im_c (in_r [.code yX12_choose cX12_choose 6 (some .int)] [1551] (by decide +kernel)) (in_app (in_r wo_m_choose [1260, 1552, 1554, 49, 86, 1560, 1562, 51, 1572, 1574, 53] (by decide +kernel)) (in_app im_wsX120 (in_app im_m_waits (in_app im_m_mayDo (in_app im_m_orderOf im_nil)))))
set_option maxHeartbeats 4000000 in
set_option maxRecDepth 100000 in
theorem m_choose (l : Launch) (dC : Nat → ClassId) (dI : Nat → Nat → Nat) (ad av : Nat → Nat) (sz : Nat) (a : Nat → Nat) (k : Nat → ClassId) (τ ln : Nat → Nat) (y : Nat → Nat → Int32) (g : Nat → Nat → Option Nat) (u : Nat → Int) (p0 : Int32) (hI : IM a u τ y) (hlp0 : 0 ≤ p0.toInt) (hup0 : p0.toInt < u 1) (hW : IW (u 1) (u 2) (u 9) (y (a 89))) : Met l yX12_choose wm_m_choose ({ frames := 386, cells := 0, slots := 0, locals := 25280 }) (pw_ ad av (dC, dI) sz [.ref (a 50), .int p0] a k τ ln y g) (va_Qi (fun (r u : Int32) => u = r) (fun (r : Int32) (t : State) => (∃ (y' : Nat → Nat → Int32) (g' : Nat → Nat → Option Nat), ag τ [60, 102] y y' ∧ agg τ g g' ∧ IM a u τ y' ∧ (r.toInt = -1 ∨ (0 ≤ r.toInt ∧ r.toInt < u 2)) ∧ tw (dC, dI) a k τ ln y' g' t.heap)) (fr τ sz)) 0 0 (fr τ sz) := by
  refine Met.ofW (cc := cX12_choose) (maxL := 6) (ret := (some .int)) (by decide) rfl ?_
  intro p e s m args below meth c s₁ B hml hv
  obtain ⟨rfl, hsz, hT, hK, hM⟩ := hv
  have hx := B.exec
  have hb := B.bytes
  have hr := B.returns
  have hts := atoms_spec (ws := wm_m_choose) B.pre
  have hown : s.vm.findClass RX12 = some m.cls := findClass_of_methodNamed B.named
  have hlocks := B.notSynchronized
  subst hsz
  generalize hAe : fr τ s.heap.size = A at hM ⊢
  have hA : ∀ q : Nat, s.heap.size ≤ q → A q := fun q h => by rw [← hAe]; exact Or.inr h
  have hF : ∀ q, τ q ≠ 0 → A q := fun q h => by rw [← hAe]; exact Or.inl h
  have hS : va_S A s.heap s.heap [] := va_S.rf
  have hX := hI.1
  have hR := im_r hI
  have hG : ag τ [60, 102] y y := ag.rf
  have hGg : agg τ g g := agg.rf
  have hl := lv_entry ([.ref (a 50), .int p0]) (n := 6) (Nat.le_of_ble_eq_true rfl)
  rw [lg_entry_eq]
  generalize (lg_sl ([.ref (a 50), .int p0]) ++ List.replicate (6 - (lg_sl ([.ref (a 50), .int p0])).length) Slot.unset).toArray = ls at hl ⊢
  have hl : lv_has ls 6 [(0, .ref (a 50)), (1, .int p0)] := hl
  refine lv_iconst (v := (-1)) hx hb dX12_choose_0 (by decide) ?_
  refine lv_istore_n (lv' := [(2, .int (-1)), (0, .ref (a 50)), (1, .int p0)]) hx hb dX12_choose_1 rfl hl (by decide) rfl (fun ls hl => ?_)
  refine lv_iconst (v := 0) hx hb dX12_choose_2 (by decide) ?_
  refine lv_istore_n (lv' := [(3, .int 0), (2, .int (-1)), (0, .ref (a 50)), (1, .int p0)]) hx hb dX12_choose_3 rfl hl (by decide) rfl (fun ls hl => ?_)
  refine lv_iconst (v := 0) hx hb dX12_choose_4 (by decide) ?_
  refine lv_istore (lv' := [(4, .int 0), (3, .int 0), (2, .int (-1)), (0, .ref (a 50)), (1, .int p0)]) hx hb dX12_choose_5 hl (by decide) rfl (fun ls hl => ?_)
  have loop_7 : ∀ (n : Nat) (i2 : Int32) (w3 : Int32) (i4 : Int32) (y_L7 : Nat → Nat → Int32) (g_L7 : Nat → Nat → Option Nat) (H : Heap) (locs : List Loc) (ls : Array Slot), (u 2 - i4.toInt).toNat < n → ag τ [60, 102] y y_L7 → IM a u τ y_L7 → agg τ g g_L7 → IW (u 1) (u 2) (u 9) (y_L7 (a 89)) → 0 ≤ i4.toInt → i4.toInt ≤ u 2 → i2.toInt = -1 ∨ (0 ≤ i2.toInt ∧ i2.toInt < u 2) → tw (dC, dI) a k τ ln y_L7 g_L7 H → va_S A s.heap H locs → lv_has ls 6 [(0, .ref (a 50)), (1, .int p0), (2, .int i2), (3, .int w3), (4, .int i4)] → W p l e (headSpec wm_m_choose ({ frames := 386, cells := 0, slots := 0, locals := 25280 })).room s m ([.ref (a 50), .int p0] : List Value).toArray below meth c H locs 0 0 (MQ below (va_Qi (fun (r u : Int32) => u = r) (fun (r : Int32) (t : State) => (∃ (y' : Nat → Nat → Int32) (g' : Nat → Nat → Option Nat), ag τ [60, 102] y y' ∧ agg τ g g' ∧ IM a u τ y' ∧ (r.toInt = -1 ∨ (0 ≤ r.toInt ∧ r.toInt < u 2)) ∧ tw (dC, dI) a k τ ln y' g' t.heap)) A) ([.ref (a 50), .int p0] : List Value).toArray s 0 0 A) (F0 m 7 ls []) := by
    intro n
    induction n with
    | zero => intro i2 w3 i4 y_L7 g_L7 H locs ls hlt; exact absurd hlt (Nat.not_lt_zero _)
    | succ n ih_7 =>
      intro i2 w3 i4 y_L7 g_L7 H locs ls hlt hG hI hGg hW hi7_0 hi7_1 hi7_2 hT hS hl
      refine lv_iload hx hb dX12_choose_7 (lv_at hl 4 rfl) ?_
      refine lv_aload_n hx hb dX12_choose_9 rfl (lv_at hl 0 rfl) ?_
      refine tw_get (D := (dC, dI)) (v := .int (y_L7 (a 50) 19)) (C := RX12) (T := TX12) (N := 58) hx hb hts (fun _ hh => (List.mem_cons_of_mem _ (List.mem_append_right _ (List.mem_append_left _ hh)))) hown hK hT (fx_50 hX) (by decide) cl_e60 rfl 19 (by decide) (hts (.fieldLink RX12 149 "TypingPoolModel" "pieces" "I") (List.mem_cons_of_mem _ (List.mem_append_left _ (List.mem_of_getElem? (i := 0) rfl)))) (fun _ h9 => h9) rfl dX12_choose_10 ?_
      have hc_1 := im_2 hI
      refine lv_icmp_ge (tgt := 73) hx hb dX12_choose_13 (by decide) (fun c_2 => ?_) (fun c_2 => ?_)
      · have nc_2 := z_le hc_1 rfl c_2
        refine lv_iload_n hx hb dX12_choose_73 rfl (lv_at hl 2 rfl) ?_
        have hrv : i2.toInt = i2.toInt := rfl
        exact W.iret (v := i2) hx hb hr (fun t ht hW9 => ⟨⟨i2, i2, rfl, rfl, ⟨y_L7, g_L7, hG, hGg, hI, by omega, tw_at ht hT⟩⟩, hS.F ht⟩) hS.2.2 dX12_choose_74
      · have nc_2 := z_nle hc_1 rfl c_2
        refine lv_aload_n hx hb dX12_choose_16 rfl (lv_at hl 0 rfl) ?_
        refine lv_iload hx hb dX12_choose_17 (lv_at hl 4 rfl) ?_
        have hFc := tw_free hF hS hA
        refine va_calli (va_runV (As := [.int i4]) (rest := []) ⟨hx, hb, hml, hown, hts⟩ (m_waits l dC dI ad av H.size a k τ ln y_L7 g_L7 u i4 hI (by omega) (by omega) hW) (cwV 1 hts (gi_4 (List.mem_cons_of_mem _ (List.mem_append_left _ (List.mem_of_getElem? (i := 1) rfl))) (List.mem_cons_of_mem _ (List.mem_append_left _ (List.mem_of_getElem? (i := 2) rfl))) (List.mem_cons_of_mem _ (List.mem_append_left _ (List.mem_of_getElem? (i := 3) rfl))) (List.mem_cons_of_mem _ (List.mem_append_left _ (List.mem_of_getElem? (i := 4) rfl))) (fun _ hh => (List.mem_cons_of_mem _ (List.mem_append_right _ (List.mem_append_right _ (List.mem_append_left _ hh))))) gd_m_waits) rfl rfl rfl (by decide +kernel) ⟨Nat.le_of_ble_eq_true rfl, Nat.le_of_ble_eq_true rfl⟩) ⟨pw_blind, tw_recv hK hT (fx_50 hX) (by decide) cl_e60 rfl, pw_use hT hK hFc hS hM⟩ rfl rfl hl.1 rfl (lv_room (Nat.le_of_ble_eq_true rfl)) dX12_choose_19 ⟨Nat.le_of_ble_eq_true rfl, Nat.le_of_ble_eq_true rfl⟩) hS (fun q _ h => hFc q h) hFc (fun r0 r_3 t H locs ht hvm hw hB hz1 hk1 hS => ?_)
        refine W.widen (k := 0) (n := 0) (Nat.le_of_ble_eq_true rfl) (Nat.le_of_ble_eq_true rfl) ?_
        clear hvm hz1 hk1
        subst hw
        rcases hB with ⟨hre, hT⟩ | ⟨hre, hT⟩
        · refine lq_top (v := 1) hre ?_
          rw [ht] at hT
          refine lv_if_eq (tgt := 67) hx hb dX12_choose_22 (by decide) (fun c_4 => absurd c_4 (by decide)) (fun c_4 => ?_)
          refine lv_aload_n hx hb dX12_choose_25 rfl (lv_at hl 0 rfl) ?_
          refine lv_iload_n hx hb dX12_choose_26 rfl (lv_at hl 1 rfl) ?_
          refine lv_iload hx hb dX12_choose_27 (lv_at hl 4 rfl) ?_
          have hFc := tw_free hF hS hA
          refine va_calli (va_runV (As := [.int p0, .int i4]) (rest := []) ⟨hx, hb, hml, hown, hts⟩ (m_mayDo l dC dI ad av H.size a k τ ln y_L7 g_L7 u p0 i4 hI (by omega) (by omega) (by omega) (by omega) hW) (cwV 2 hts (gi_4 (List.mem_cons_of_mem _ (List.mem_append_left _ (List.mem_of_getElem? (i := 5) rfl))) (List.mem_cons_of_mem _ (List.mem_append_left _ (List.mem_of_getElem? (i := 6) rfl))) (List.mem_cons_of_mem _ (List.mem_append_left _ (List.mem_of_getElem? (i := 7) rfl))) (List.mem_cons_of_mem _ (List.mem_append_left _ (List.mem_of_getElem? (i := 4) rfl))) (fun _ hh => (List.mem_cons_of_mem _ (List.mem_append_right _ (List.mem_append_right _ (List.mem_append_right _ (List.mem_append_left _ hh)))))) gd_m_mayDo) rfl rfl rfl (by decide +kernel) ⟨Nat.le_of_ble_eq_true rfl, Nat.le_of_ble_eq_true rfl⟩) ⟨pw_blind, tw_recv hK hT (fx_50 hX) (by decide) cl_e60 rfl, pw_use hT hK hFc hS hM⟩ rfl rfl hl.1 rfl (lv_room (Nat.le_of_ble_eq_true rfl)) dX12_choose_29 ⟨Nat.le_of_ble_eq_true rfl, Nat.le_of_ble_eq_true rfl⟩) hS (fun q _ h => hFc q h) hFc (fun r0 r_5 t H locs ht hvm hw hB hz1 hk1 hS => ?_)
          refine W.widen (k := 0) (n := 0) (Nat.le_of_ble_eq_true rfl) (Nat.le_of_ble_eq_true rfl) ?_
          clear hvm hz1 hk1
          subst hw
          rcases hB with ⟨y_6, g_7, hre, hgy_6, hggg_7, hI, hf_8, hT⟩ | ⟨y_9, g_10, hre, hgy_9, hggg_10, hI, hf_11, hT⟩
          · refine lq_top (v := 1) hre ?_
            rw [ht] at hT
            have hG := hG.tr hgy_6 (by decide)
            have hGg := hGg.tr hggg_7
            have hW : IW (u 1) (u 2) (u 9) (y_6 (a 89)) := by rw [hgy_6.at (fx_89 hX) (by decide)]; exact hW
            clear hc_1
            refine lv_if_ne (tgt := 38) hx hb dX12_choose_32 (by decide) (fun c_12 => ?_) (fun c_12 => absurd c_12 (by decide))
            refine lv_aload_n hx hb dX12_choose_38 rfl (lv_at hl 0 rfl) ?_
            refine lv_iload_n hx hb dX12_choose_39 rfl (lv_at hl 1 rfl) ?_
            refine lv_iload hx hb dX12_choose_40 (lv_at hl 4 rfl) ?_
            have hFc := tw_free hF hS hA
            refine va_calli (va_runV (As := [.int p0, .int i4]) (rest := []) ⟨hx, hb, hml, hown, hts⟩ (m_orderOf l dC dI ad av H.size a k τ ln y_6 g_7 u p0 i4 hI (by omega) (by omega) (by omega) (by omega) hW) (cwV 2 hts (gi_4 (List.mem_cons_of_mem _ (List.mem_append_left _ (List.mem_of_getElem? (i := 8) rfl))) (List.mem_cons_of_mem _ (List.mem_append_left _ (List.mem_of_getElem? (i := 9) rfl))) (List.mem_cons_of_mem _ (List.mem_append_left _ (List.mem_of_getElem? (i := 10) rfl))) (List.mem_cons_of_mem _ (List.mem_append_left _ (List.mem_of_getElem? (i := 4) rfl))) (fun _ hh => (List.mem_cons_of_mem _ (List.mem_append_right _ (List.mem_append_right _ (List.mem_append_right _ (List.mem_append_right _ (List.mem_append_left _ hh))))))) gd_m_orderOf) rfl rfl rfl (by decide +kernel) ⟨Nat.le_of_ble_eq_true rfl, Nat.le_of_ble_eq_true rfl⟩) ⟨pw_blind, tw_recv hK hT (fx_50 hX) (by decide) cl_e60 rfl, pw_use hT hK hFc hS hM⟩ rfl rfl hl.1 rfl (lv_room (Nat.le_of_ble_eq_true rfl)) dX12_choose_42 ⟨Nat.le_of_ble_eq_true rfl, Nat.le_of_ble_eq_true rfl⟩) hS (fun q _ h => hFc q h) hFc (fun r0 r_13 t H locs ht hvm hw hB hz1 hk1 hS => ?_)
            refine W.widen (k := 0) (n := 0) (Nat.le_of_ble_eq_true rfl) (Nat.le_of_ble_eq_true rfl) ?_
            clear hvm hz1 hk1
            subst hw
            obtain ⟨y_14, g_15, hgy_14, hggg_15, hI, hT⟩ := hB
            rw [ht] at hT
            have hG := hG.tr hgy_14 (by decide)
            have hGg := hGg.tr hggg_15
            have hW : IW (u 1) (u 2) (u 9) (y_14 (a 89)) := by rw [hgy_14.at (fx_89 hX) (by decide)]; exact hW
            refine lv_istore (lv' := [(5, .int r_13), (0, .ref (a 50)), (1, .int p0), (2, .int i2), (3, .int w3), (4, .int i4)]) hx hb dX12_choose_45 hl (by decide) rfl (fun ls hl => ?_)
            refine lv_iload_n hx hb dX12_choose_47 rfl (lv_at hl 3 rfl) ?_
            refine lv_iconst (v := (-1)) hx hb dX12_choose_48 (by decide) ?_
            refine lv_icmp_eq (tgt := 61) hx hb dX12_choose_49 (by decide) (fun c_16 => ?_) (fun c_16 => ?_)
            · have nc_16 := z_eq rfl (zk (x := (-1)) (-1) rfl) c_16
              refine lv_iload hx hb dX12_choose_61 (lv_at hl 5 rfl) ?_
              refine lv_istore_n (lv' := [(2, .int i4), (5, .int r_13), (0, .ref (a 50)), (1, .int p0), (3, .int w3), (4, .int i4)]) hx hb dX12_choose_63 rfl hl (by decide) rfl (fun ls hl => ?_)
              refine lv_iload hx hb dX12_choose_64 (lv_at hl 1 rfl) ?_
              refine lv_istore_n (lv' := [(3, .int r_13), (2, .int i4), (5, .int r_13), (0, .ref (a 50)), (1, .int p0), (4, .int i4)]) hx hb dX12_choose_66 rfl hl (by decide) rfl (fun ls hl => ?_)
              obtain ⟨x_17, ex_17⟩ : ∃ y : Int32, y = i4 + Int32.ofInt 1 := ⟨_, rfl⟩
              have hx_17 := z_add ex_17 rfl (zk (x := Int32.ofInt 1) 1 rfl) (by omega) (by omega)
              refine lv_iinc (v := x_17) (lv' := [(4, .int x_17), (3, .int r_13), (2, .int i4), (5, .int r_13), (0, .ref (a 50)), (1, .int p0)]) hx hb dX12_choose_67 hl (k := 5) rfl ex_17.symm (by decide) rfl (fun ls hl => ?_)
              refine lv_goto (tgt := 7) hx hb dX12_choose_70 (by decide) ?_
              exact ih_7  i4 r_13 x_17 y_14 g_15 H _ ls (by omega) hG hI hGg hW (by omega) (by omega) (by omega) hT hS (lv_sub hl [4, 5, 2, 1, 0] rfl)
            · have nc_16 := z_ne rfl (zk (x := (-1)) (-1) rfl) c_16
              refine lv_iload hx hb dX12_choose_52 (lv_at hl 0 rfl) ?_
              refine lv_iload_n hx hb dX12_choose_54 rfl (lv_at hl 4 rfl) ?_
              refine lv_icmp_lt (tgt := 61) hx hb dX12_choose_55 (by decide) (fun c_18 => ?_) (fun c_18 => ?_)
              · have nc_18 := z_lt rfl rfl c_18
                refine lv_iload hx hb dX12_choose_61 (lv_at hl 5 rfl) ?_
                refine lv_istore_n (lv' := [(2, .int i4), (5, .int r_13), (0, .ref (a 50)), (1, .int p0), (3, .int w3), (4, .int i4)]) hx hb dX12_choose_63 rfl hl (by decide) rfl (fun ls hl => ?_)
                refine lv_iload hx hb dX12_choose_64 (lv_at hl 1 rfl) ?_
                refine lv_istore_n (lv' := [(3, .int r_13), (2, .int i4), (5, .int r_13), (0, .ref (a 50)), (1, .int p0), (4, .int i4)]) hx hb dX12_choose_66 rfl hl (by decide) rfl (fun ls hl => ?_)
                obtain ⟨x_19, ex_19⟩ : ∃ y : Int32, y = i4 + Int32.ofInt 1 := ⟨_, rfl⟩
                have hx_19 := z_add ex_19 rfl (zk (x := Int32.ofInt 1) 1 rfl) (by omega) (by omega)
                refine lv_iinc (v := x_19) (lv' := [(4, .int x_19), (3, .int r_13), (2, .int i4), (5, .int r_13), (0, .ref (a 50)), (1, .int p0)]) hx hb dX12_choose_67 hl (k := 5) rfl ex_19.symm (by decide) rfl (fun ls hl => ?_)
                refine lv_goto (tgt := 7) hx hb dX12_choose_70 (by decide) ?_
                exact ih_7  i4 r_13 x_19 y_14 g_15 H _ ls (by omega) hG hI hGg hW (by omega) (by omega) (by omega) hT hS (lv_sub hl [4, 5, 2, 1, 0] rfl)
              · have nc_18 := z_nlt rfl rfl c_18
                refine lv_goto (tgt := 67) hx hb dX12_choose_58 (by decide) ?_
                obtain ⟨x_20, ex_20⟩ : ∃ y : Int32, y = i4 + Int32.ofInt 1 := ⟨_, rfl⟩
                have hx_20 := z_add ex_20 rfl (zk (x := Int32.ofInt 1) 1 rfl) (by omega) (by omega)
                refine lv_iinc (v := x_20) (lv' := [(4, .int x_20), (5, .int r_13), (0, .ref (a 50)), (1, .int p0), (2, .int i2), (3, .int w3)]) hx hb dX12_choose_67 hl (k := 5) rfl ex_20.symm (by decide) rfl (fun ls hl => ?_)
                refine lv_goto (tgt := 7) hx hb dX12_choose_70 (by decide) ?_
                exact ih_7  i2 w3 x_20 y_14 g_15 H _ ls (by omega) hG hI hGg hW (by omega) (by omega) (by omega) hT hS (lv_sub hl [2, 3, 4, 5, 0] rfl)
          · refine lq_top (v := 0) hre ?_
            rw [ht] at hT
            have hG := hG.tr hgy_9 (by decide)
            have hGg := hGg.tr hggg_10
            have hW : IW (u 1) (u 2) (u 9) (y_9 (a 89)) := by rw [hgy_9.at (fx_89 hX) (by decide)]; exact hW
            clear hc_1
            refine lv_if_ne (tgt := 38) hx hb dX12_choose_32 (by decide) (fun c_21 => absurd c_21 (by decide)) (fun c_21 => ?_)
            refine lv_goto (tgt := 67) hx hb dX12_choose_35 (by decide) ?_
            obtain ⟨x_22, ex_22⟩ : ∃ y : Int32, y = i4 + Int32.ofInt 1 := ⟨_, rfl⟩
            have hx_22 := z_add ex_22 rfl (zk (x := Int32.ofInt 1) 1 rfl) (by omega) (by omega)
            refine lv_iinc (v := x_22) (lv' := [(4, .int x_22), (0, .ref (a 50)), (1, .int p0), (2, .int i2), (3, .int w3)]) hx hb dX12_choose_67 hl (k := 4) rfl ex_22.symm (by decide) rfl (fun ls hl => ?_)
            refine lv_goto (tgt := 7) hx hb dX12_choose_70 (by decide) ?_
            exact ih_7  i2 w3 x_22 y_9 g_10 H _ ls (by omega) hG hI hGg hW (by omega) (by omega) (by omega) hT hS (lv_sub hl [1, 2, 3, 4, 0] rfl)
        · refine lq_top (v := 0) hre ?_
          rw [ht] at hT
          refine lv_if_eq (tgt := 67) hx hb dX12_choose_22 (by decide) (fun c_23 => ?_) (fun c_23 => absurd c_23 (by decide))
          obtain ⟨x_24, ex_24⟩ : ∃ y : Int32, y = i4 + Int32.ofInt 1 := ⟨_, rfl⟩
          have hx_24 := z_add ex_24 rfl (zk (x := Int32.ofInt 1) 1 rfl) (by omega) (by omega)
          refine lv_iinc (v := x_24) (lv' := [(4, .int x_24), (0, .ref (a 50)), (1, .int p0), (2, .int i2), (3, .int w3)]) hx hb dX12_choose_67 hl (k := 4) rfl ex_24.symm (by decide) rfl (fun ls hl => ?_)
          refine lv_goto (tgt := 7) hx hb dX12_choose_70 (by decide) ?_
          exact ih_7  i2 w3 x_24 y_L7 g_L7 H _ ls (by omega) hG hI hGg hW (by omega) (by omega) (by omega) hT hS (lv_sub hl [1, 2, 3, 4, 0] rfl)
  have hp_25 : (-1 : Int32).toInt = (-1) := (zk (x := (-1)) (-1) rfl)
  have hp_26 : (0 : Int32).toInt = 0 := (zk (x := 0) 0 rfl)
  have hp_27 : (0 : Int32).toInt = 0 := (zk (x := 0) 0 rfl)
  exact loop_7 _ (-1 : Int32) (0 : Int32) (0 : Int32) y g s.heap _ ls (Nat.lt_succ_self _) hG hI hGg hW (by omega) (by omega) (by omega) hT hS (lv_sub hl [3, 4, 2, 1, 0] rfl)
def wo_m_canGo : List Cond := [.methodLink RX12 145 yX12_in, .static yX12_in, .initialized RX12, .methodLink RX12 164 yX12_now, .instanceMethod yX12_now, .selects RX12 yX12_now yX12_now]
def wm_m_canGo : List Cond := .code yX12_canGo cX12_canGo 3 (some .boolean) :: (wo_m_canGo ++ (wm_m_in ++ (wm_m_now ++ ([] : List Cond))))
theorem gd_m_canGo : ∀ w ∈ wm_m_canGo, goodWord w = true := gd_c rfl (gd_a (by decide) (gd_a gd_m_in (gd_a gd_m_now gd_nil)))
set_option maxRecDepth 20000 in
theorem im_m_canGo : ∀ w ∈ wm_m_canGo, w ∈ lw_tbl := im_c (in_r [.code yX12_canGo cX12_canGo 3 (some .boolean)] [1531] (by decide +kernel)) (in_app (in_r wo_m_canGo [1420, 1421, 86, 1440, 1442, 28] (by decide +kernel)) (in_app im_m_in (in_app im_m_now im_nil)))
set_option maxHeartbeats 4000000 in
set_option maxRecDepth 100000 in
theorem m_canGo (l : Launch) (dC : Nat → ClassId) (dI : Nat → Nat → Nat) (ad av : Nat → Nat) (sz : Nat) (a : Nat → Nat) (k : Nat → ClassId) (τ ln : Nat → Nat) (y : Nat → Nat → Int32) (g : Nat → Nat → Option Nat) (u : Nat → Int) (p0 : Int32) (p1 : Int32) (hI : IM a u τ y) (hl1 : 0 ≤ p1.toInt) (hW : IW (u 1) (u 2) (u 9) (y (a 89))) : Met l yX12_canGo wm_m_canGo ({ frames := 1, cells := 0, slots := 0, locals := 60 }) (pw_ ad av (dC, dI) sz [.ref (a 50), .int p0, .int p1] a k τ ln y g) (va_Qi (fun (r u : Int32) => u = r) (fun (r : Int32) (t : State) => (r = 1 ∧ p1.toInt ≤ p0.toInt ∧ p0.toInt ≤ 960 ∧ u 9 + p0.toInt ≤ 4800 ∧ tw (dC, dI) a k τ ln y g t.heap) ∨ (r = 0 ∧ tw (dC, dI) a k τ ln y g t.heap)) (fr τ sz)) 0 0 (fr τ sz) := by
  refine Met.ofW (cc := cX12_canGo) (maxL := 3) (ret := (some .boolean)) (by decide) rfl ?_
  intro p e s m args below meth c s₁ B hml hv
  obtain ⟨rfl, hsz, hT, hK, hM⟩ := hv
  have hx := B.exec
  have hb := B.bytes
  have hr := B.returns
  have hts := atoms_spec (ws := wm_m_canGo) B.pre
  have hown : s.vm.findClass RX12 = some m.cls := findClass_of_methodNamed B.named
  have hlocks := B.notSynchronized
  subst hsz
  generalize hAe : fr τ s.heap.size = A at hM ⊢
  have hA : ∀ q : Nat, s.heap.size ≤ q → A q := fun q h => by rw [← hAe]; exact Or.inr h
  have hF : ∀ q, τ q ≠ 0 → A q := fun q h => by rw [← hAe]; exact Or.inl h
  have hS : va_S A s.heap s.heap [] := va_S.rf
  have hX := hI.1
  have hR := im_r hI
  have hl := lv_entry ([.ref (a 50), .int p0, .int p1]) (n := 3) (Nat.le_of_ble_eq_true rfl)
  rw [lg_entry_eq]
  generalize (lg_sl ([.ref (a 50), .int p0, .int p1]) ++ List.replicate (3 - (lg_sl ([.ref (a 50), .int p0, .int p1])).length) Slot.unset).toArray = ls at hl ⊢
  have hl : lv_has ls 3 [(0, .ref (a 50)), (1, .int p0), (2, .int p1)] := hl
  refine lv_iload_n hx hb dX12_canGo_0 rfl (lv_at hl 1 rfl) ?_
  refine lv_iload_n hx hb dX12_canGo_1 rfl (lv_at hl 2 rfl) ?_
  refine lv_sipush (v := 960) hx hb dX12_canGo_2 (by decide) ?_
  have hFc := tw_free hF hS hA
  have hp_1 : (960 : Int32).toInt = 960 := (zk (x := 960) 960 rfl)
  refine va_calli (va_runS (As := [.int p0, .int p1, .int 960]) (rest := []) ⟨hx, hb, hml, hown, hts⟩ (m_in l dC dI ad av s.heap.size a k τ ln y g u p0 p1 (960 : Int32)  ) (va_cwS 3 hts (gi_3 (List.mem_cons_of_mem _ (List.mem_append_left _ (List.mem_of_getElem? (i := 0) rfl))) (List.mem_cons_of_mem _ (List.mem_append_left _ (List.mem_of_getElem? (i := 1) rfl))) (List.mem_cons_of_mem _ (List.mem_append_left _ (List.mem_of_getElem? (i := 2) rfl))) (fun _ hh => (List.mem_cons_of_mem _ (List.mem_append_right _ (List.mem_append_left _ hh)))) gd_m_in) rfl rfl rfl (by decide +kernel) ⟨Nat.le_of_ble_eq_true rfl, Nat.le_of_ble_eq_true rfl⟩) ⟨pw_blind, pw_use hT hK hFc hS hM⟩ rfl rfl hl.1 rfl (lv_room (Nat.le_of_ble_eq_true rfl)) dX12_canGo_5 ⟨Nat.le_of_ble_eq_true rfl, Nat.le_of_ble_eq_true rfl⟩) hS (fun q _ h => hFc q h) hFc (fun r0 r_2 t H locs ht hvm hw hB hz1 hk1 hS => ?_)
  refine W.widen (k := 0) (n := 0) (Nat.le_of_ble_eq_true rfl) (Nat.le_of_ble_eq_true rfl) ?_
  clear hvm hz1 hk1
  subst hw
  rcases hB with ⟨hre, hf_3, hf_4, hT⟩ | ⟨hre, hf_5, hT⟩
  · refine lq_top (v := 1) hre ?_
    rw [ht] at hT
    try simp only [hp_1] at hf_3 hf_4
    clear hp_1
    refine lv_if_eq (tgt := 27) hx hb dX12_canGo_8 (by decide) (fun c_6 => absurd c_6 (by decide)) (fun c_6 => ?_)
    refine lv_aload_n hx hb dX12_canGo_11 rfl (lv_at hl 0 rfl) ?_
    have hFc := tw_free hF hS hA
    refine va_calli (va_runV (As := []) (rest := []) ⟨hx, hb, hml, hown, hts⟩ (m_now l dC dI ad av H.size a k τ ln y g u  hI hW) (cwV 0 hts (gi_4 (List.mem_cons_of_mem _ (List.mem_append_left _ (List.mem_of_getElem? (i := 3) rfl))) (List.mem_cons_of_mem _ (List.mem_append_left _ (List.mem_of_getElem? (i := 4) rfl))) (List.mem_cons_of_mem _ (List.mem_append_left _ (List.mem_of_getElem? (i := 5) rfl))) (List.mem_cons_of_mem _ (List.mem_append_left _ (List.mem_of_getElem? (i := 2) rfl))) (fun _ hh => (List.mem_cons_of_mem _ (List.mem_append_right _ (List.mem_append_right _ (List.mem_append_left _ hh))))) gd_m_now) rfl rfl rfl (by decide +kernel) ⟨Nat.le_of_ble_eq_true rfl, Nat.le_of_ble_eq_true rfl⟩) ⟨pw_blind, tw_recv hK hT (fx_50 hX) (by decide) cl_e60 rfl, pw_use hT hK hFc hS hM⟩ rfl rfl hl.1 rfl (lv_room (Nat.le_of_ble_eq_true rfl)) dX12_canGo_12 ⟨Nat.le_of_ble_eq_true rfl, Nat.le_of_ble_eq_true rfl⟩) hS (fun q _ h => hFc q h) hFc (fun r0 r_7 t H locs ht hvm hw hB hz1 hk1 hS => ?_)
    refine W.widen (k := 0) (n := 0) (Nat.le_of_ble_eq_true rfl) (Nat.le_of_ble_eq_true rfl) ?_
    clear hvm hz1 hk1
    subst hw
    obtain ⟨hf_8, hT⟩ := hB
    rw [ht] at hT
    refine lv_iload_n hx hb dX12_canGo_15 rfl (lv_at hl 1 rfl) ?_
    refine lv_iadd hx hb dX12_canGo_16 ?_
    refine lv_topi (fun x_9 ex_9 => ?_)
    have hx_9 := z_add ex_9 rfl rfl (by omega) (by omega)
    refine lv_sipush (v := 4800) hx hb dX12_canGo_17 (by decide) ?_
    refine lv_icmp_gt (tgt := 27) hx hb dX12_canGo_20 (by decide) (fun c_10 => ?_) (fun c_10 => ?_)
    · have nc_10 := z_lt (zk (x := 4800) 4800 rfl) rfl c_10
      refine lv_iconst (v := 0) hx hb dX12_canGo_27 (by decide) ?_
      exact W.zret (v := 0) hx hb hr (by decide) (fun t ht hW9 => ⟨⟨0, 0, rfl, rfl, Or.inr (⟨rfl, tw_at ht hT⟩)⟩, hS.F ht⟩) hS.2.2 dX12_canGo_28
    · have nc_10 := z_nlt (zk (x := 4800) 4800 rfl) rfl c_10
      refine lv_iconst (v := 1) hx hb dX12_canGo_23 (by decide) ?_
      refine lv_goto (tgt := 28) hx hb dX12_canGo_24 (by decide) ?_
      have hrv : (1 : Int32).toInt = 1 := (zk (x := 1) 1 rfl)
      exact W.zret (v := 1) hx hb hr (by decide) (fun t ht hW9 => ⟨⟨1, 1, rfl, rfl, Or.inl ⟨rfl, by omega, by omega, by omega, tw_at ht hT⟩⟩, hS.F ht⟩) hS.2.2 dX12_canGo_28
  · refine lq_top (v := 0) hre ?_
    rw [ht] at hT
    try simp only [hp_1] at hf_5
    clear hp_1
    refine lv_if_eq (tgt := 27) hx hb dX12_canGo_8 (by decide) (fun c_11 => ?_) (fun c_11 => absurd c_11 (by decide))
    refine lv_iconst (v := 0) hx hb dX12_canGo_27 (by decide) ?_
    exact W.zret (v := 0) hx hb hr (by decide) (fun t ht hW9 => ⟨⟨0, 0, rfl, rfl, Or.inr (⟨rfl, tw_at ht hT⟩)⟩, hS.F ht⟩) hS.2.2 dX12_canGo_28
def wo_m_late : List Cond := [.methodLink RX12 261 yX12_piece, .instanceMethod yX12_piece, .selects RX12 yX12_piece yX12_piece, .initialized RX12, .fieldLink RX12 49 "TypingPoolModel" "due" "[I", .methodLink RX12 281 Lib.Math.max.name, .static Lib.Math.max.name, .initialized "java/lang/Math", .code Lib.Math.max.name Lib.Math.max.code 2 (some .int), .methodLink RX12 164 yX12_now, .instanceMethod yX12_now, .selects RX12 yX12_now yX12_now]
def wm_m_late : List Cond := .code yX12_late cX12_late 2 (some .int) :: (wo_m_late ++ (wm_m_pieceG ++ (wsX120 ++ (wm_m_now ++ ([] : List Cond)))))
theorem gd_m_late : ∀ w ∈ wm_m_late, goodWord w = true := gd_c rfl (gd_a (by decide) (gd_a gd_m_pieceG (gd_a gd_wsX120 (gd_a gd_m_now gd_nil))))
set_option maxRecDepth 20000 in
theorem im_m_late : ∀ w ∈ wm_m_late, w ∈ lw_tbl := im_c (in_r [.code yX12_late cX12_late 2 (some .int)] [1603] (by decide +kernel)) (in_app (in_r wo_m_late [1556, 1558, 50, 86, 1257, 1583, 289, 78, 290, 1440, 1442, 28] (by decide +kernel)) (in_app im_m_pieceG (in_app im_wsX120 (in_app im_m_now im_nil))))
set_option maxHeartbeats 4000000 in
set_option maxRecDepth 100000 in
theorem m_late (l : Launch) (dC : Nat → ClassId) (dI : Nat → Nat → Nat) (ad av : Nat → Nat) (sz : Nat) (a : Nat → Nat) (k : Nat → ClassId) (τ ln : Nat → Nat) (y : Nat → Nat → Int32) (g : Nat → Nat → Option Nat) (u : Nat → Int) (p0 : Int32) (hI : IM a u τ y) (hlp0 : 0 ≤ p0.toInt) (hup0 : p0.toInt < u 2) (hW : IW (u 1) (u 2) (u 9) (y (a 89))) : Met l yX12_late wm_m_late ({ frames := 2, cells := 0, slots := 0, locals := 80 }) (pw_ ad av (dC, dI) sz [.ref (a 50), .int p0] a k τ ln y g) (va_Qi (fun (r u : Int32) => u = r) (fun (r : Int32) (t : State) => (tw (dC, dI) a k τ ln y g t.heap)) (fr τ sz)) 0 0 (fr τ sz) := by
  refine Met.ofW (cc := cX12_late) (maxL := 2) (ret := (some .int)) (by decide) rfl ?_
  intro p e s m args below meth c s₁ B hml hv
  obtain ⟨rfl, hsz, hT, hK, hM⟩ := hv
  have hx := B.exec
  have hb := B.bytes
  have hr := B.returns
  have hts := atoms_spec (ws := wm_m_late) B.pre
  have hown : s.vm.findClass RX12 = some m.cls := findClass_of_methodNamed B.named
  have hlocks := B.notSynchronized
  subst hsz
  generalize hAe : fr τ s.heap.size = A at hM ⊢
  have hA : ∀ q : Nat, s.heap.size ≤ q → A q := fun q h => by rw [← hAe]; exact Or.inr h
  have hF : ∀ q, τ q ≠ 0 → A q := fun q h => by rw [← hAe]; exact Or.inl h
  have hS : va_S A s.heap s.heap [] := va_S.rf
  have hX := hI.1
  have hR := im_r hI
  have hl := lv_entry ([.ref (a 50), .int p0]) (n := 2) (Nat.le_of_ble_eq_true rfl)
  rw [lg_entry_eq]
  generalize (lg_sl ([.ref (a 50), .int p0]) ++ List.replicate (2 - (lg_sl ([.ref (a 50), .int p0])).length) Slot.unset).toArray = ls at hl ⊢
  have hl : lv_has ls 2 [(0, .ref (a 50)), (1, .int p0)] := hl
  refine lv_iconst (v := 0) hx hb dX12_late_0 (by decide) ?_
  refine lv_aload_n hx hb dX12_late_1 rfl (lv_at hl 0 rfl) ?_
  refine lv_iload_n hx hb dX12_late_2 rfl (lv_at hl 1 rfl) ?_
  refine lv_iconst (v := 2) hx hb dX12_late_3 (by decide) ?_
  have hFc := tw_free hF hS hA
  have hp_1 : (2 : Int32).toInt = 2 := (zk (x := 2) 2 rfl)
  refine va_calli (va_runV (As := [.int p0, .int 2]) (rest := [.int 0]) ⟨hx, hb, hml, hown, hts⟩ (m_pieceG l dC dI ad av s.heap.size a k τ ln y g u p0 (2 : Int32) hI (by omega) (by omega) (by decide) (by decide) hW) (cwV 2 hts (gi_4 (List.mem_cons_of_mem _ (List.mem_append_left _ (List.mem_of_getElem? (i := 0) rfl))) (List.mem_cons_of_mem _ (List.mem_append_left _ (List.mem_of_getElem? (i := 1) rfl))) (List.mem_cons_of_mem _ (List.mem_append_left _ (List.mem_of_getElem? (i := 2) rfl))) (List.mem_cons_of_mem _ (List.mem_append_left _ (List.mem_of_getElem? (i := 3) rfl))) (fun _ hh => (List.mem_cons_of_mem _ (List.mem_append_right _ (List.mem_append_left _ hh)))) gd_m_pieceG) rfl rfl rfl (by decide +kernel) ⟨Nat.le_of_ble_eq_true rfl, Nat.le_of_ble_eq_true rfl⟩) ⟨pw_blind, tw_recv hK hT (fx_50 hX) (by decide) cl_e60 rfl, pw_use hT hK hFc hS hM⟩ rfl rfl hl.1 rfl (lv_room (Nat.le_of_ble_eq_true rfl)) dX12_late_4 ⟨Nat.le_of_ble_eq_true rfl, Nat.le_of_ble_eq_true rfl⟩) hS (fun q _ h => hFc q h) hFc (fun r0 r_2 t H locs ht hvm hw hB hz1 hk1 hS => ?_)
  refine W.widen (k := 0) (n := 0) (Nat.le_of_ble_eq_true rfl) (Nat.le_of_ble_eq_true rfl) ?_
  clear hvm hz1 hk1
  subst hw
  obtain ⟨hf_3, hT⟩ := hB
  rw [ht] at hT
  try simp only [hp_1] at hf_3
  clear hp_1
  refine lv_iconst (v := (-1)) hx hb dX12_late_7 (by decide) ?_
  refine lv_icmp_ne (tgt := 18) hx hb dX12_late_8 (by decide) (fun c_4 => ?_) (fun c_4 => ?_)
  · have nc_4 := z_ne rfl (zk (x := (-1)) (-1) rfl) c_4
    refine lv_aload_n hx hb dX12_late_18 rfl (lv_at hl 0 rfl) ?_
    refine lv_iload_n hx hb dX12_late_19 rfl (lv_at hl 1 rfl) ?_
    refine lv_iconst (v := 2) hx hb dX12_late_20 (by decide) ?_
    have hFc := tw_free hF hS hA
    have hp_5 : (2 : Int32).toInt = 2 := (zk (x := 2) 2 rfl)
    refine va_calli (va_runV (As := [.int p0, .int 2]) (rest := [.int 0]) ⟨hx, hb, hml, hown, hts⟩ (m_pieceG l dC dI ad av H.size a k τ ln y g u p0 (2 : Int32) hI (by omega) (by omega) (by decide) (by decide) hW) (cwV 2 hts (gi_4 (List.mem_cons_of_mem _ (List.mem_append_left _ (List.mem_of_getElem? (i := 0) rfl))) (List.mem_cons_of_mem _ (List.mem_append_left _ (List.mem_of_getElem? (i := 1) rfl))) (List.mem_cons_of_mem _ (List.mem_append_left _ (List.mem_of_getElem? (i := 2) rfl))) (List.mem_cons_of_mem _ (List.mem_append_left _ (List.mem_of_getElem? (i := 3) rfl))) (fun _ hh => (List.mem_cons_of_mem _ (List.mem_append_right _ (List.mem_append_left _ hh)))) gd_m_pieceG) rfl rfl rfl (by decide +kernel) ⟨Nat.le_of_ble_eq_true rfl, Nat.le_of_ble_eq_true rfl⟩) ⟨pw_blind, tw_recv hK hT (fx_50 hX) (by decide) cl_e60 rfl, pw_use hT hK hFc hS hM⟩ rfl rfl hl.1 rfl (lv_room (Nat.le_of_ble_eq_true rfl)) dX12_late_21 ⟨Nat.le_of_ble_eq_true rfl, Nat.le_of_ble_eq_true rfl⟩) hS (fun q _ h => hFc q h) hFc (fun r0 r_6 t H locs ht hvm hw hB hz1 hk1 hS => ?_)
    refine W.widen (k := 0) (n := 0) (Nat.le_of_ble_eq_true rfl) (Nat.le_of_ble_eq_true rfl) ?_
    clear hvm hz1 hk1
    subst hw
    obtain ⟨hf_7, hT⟩ := hB
    rw [ht] at hT
    try simp only [hp_5] at hf_7
    clear hp_5
    refine lv_aload_n hx hb dX12_late_24 rfl (lv_at hl 0 rfl) ?_
    refine tw_get (D := (dC, dI)) (v := .ref (a 67)) (C := RX12) (T := TX12) (N := 58) hx hb hts (fun _ hh => (List.mem_cons_of_mem _ (List.mem_append_right _ (List.mem_append_right _ (List.mem_append_left _ hh))))) hown hK hT (fx_50 hX) (by decide) cl_e60 rfl 16 (by decide) (hts (.fieldLink RX12 49 "TypingPoolModel" "due" "[I") (List.mem_cons_of_mem _ (List.mem_append_left _ (List.mem_of_getElem? (i := 4) rfl)))) (fun _ h9 => h9) rfl dX12_late_25 ?_
    refine lv_iload_n hx hb dX12_late_28 rfl (lv_at hl 1 rfl) ?_
    refine tw_iald hx hb hK hT 0 (fx_67 hX) (by decide) cl_e77 rfl (z_in rfl (by omega) (by omega)) dX12_late_29 ?_
    refine lv_isub hx hb dX12_late_30 ?_
    refine lv_topi (fun x_8 ex_8 => ?_)
    refine va_mmax hx hb (by rw [hml]; exact hl.1.symm) hown (hts (.methodLink RX12 281 Lib.Math.max.name) (List.mem_cons_of_mem _ (List.mem_append_left _ (List.mem_of_getElem? (i := 5) rfl)))) (hts (.static Lib.Math.max.name) (List.mem_cons_of_mem _ (List.mem_append_left _ (List.mem_of_getElem? (i := 6) rfl)))) (hts (.initialized "java/lang/Math") (List.mem_cons_of_mem _ (List.mem_append_left _ (List.mem_of_getElem? (i := 7) rfl)))) (hts (.code Lib.Math.max.name Lib.Math.max.code 2 (some .int)) (List.mem_cons_of_mem _ (List.mem_append_left _ (List.mem_of_getElem? (i := 8) rfl)))) (Nat.le_of_ble_eq_true rfl) (Nat.le_of_ble_eq_true rfl) (Nat.le_of_ble_eq_true rfl) (Nat.le_of_ble_eq_true rfl) dX12_late_31 ?_
    refine lv_topi (fun x_9 ex_9 => ?_)
    have hx_9 := z_max ex_9 (zk (x := 0) 0 rfl) rfl
    exact W.iret (v := x_9) hx hb hr (fun t ht hW9 => ⟨⟨x_9, x_9, rfl, rfl, (tw_at ht hT)⟩, hS.F ht⟩) hS.2.2 dX12_late_34
  · have nc_4 := z_eq rfl (zk (x := (-1)) (-1) rfl) c_4
    refine lv_aload_n hx hb dX12_late_11 rfl (lv_at hl 0 rfl) ?_
    have hFc := tw_free hF hS hA
    refine va_calli (va_runV (As := []) (rest := [.int 0]) ⟨hx, hb, hml, hown, hts⟩ (m_now l dC dI ad av H.size a k τ ln y g u  hI hW) (cwV 0 hts (gi_4 (List.mem_cons_of_mem _ (List.mem_append_left _ (List.mem_of_getElem? (i := 9) rfl))) (List.mem_cons_of_mem _ (List.mem_append_left _ (List.mem_of_getElem? (i := 10) rfl))) (List.mem_cons_of_mem _ (List.mem_append_left _ (List.mem_of_getElem? (i := 11) rfl))) (List.mem_cons_of_mem _ (List.mem_append_left _ (List.mem_of_getElem? (i := 3) rfl))) (fun _ hh => (List.mem_cons_of_mem _ (List.mem_append_right _ (List.mem_append_right _ (List.mem_append_right _ (List.mem_append_left _ hh)))))) gd_m_now) rfl rfl rfl (by decide +kernel) ⟨Nat.le_of_ble_eq_true rfl, Nat.le_of_ble_eq_true rfl⟩) ⟨pw_blind, tw_recv hK hT (fx_50 hX) (by decide) cl_e60 rfl, pw_use hT hK hFc hS hM⟩ rfl rfl hl.1 rfl (lv_room (Nat.le_of_ble_eq_true rfl)) dX12_late_12 ⟨Nat.le_of_ble_eq_true rfl, Nat.le_of_ble_eq_true rfl⟩) hS (fun q _ h => hFc q h) hFc (fun r0 r_10 t H locs ht hvm hw hB hz1 hk1 hS => ?_)
    refine W.widen (k := 0) (n := 0) (Nat.le_of_ble_eq_true rfl) (Nat.le_of_ble_eq_true rfl) ?_
    clear hvm hz1 hk1
    subst hw
    obtain ⟨hf_11, hT⟩ := hB
    rw [ht] at hT
    refine lv_goto (tgt := 24) hx hb dX12_late_15 (by decide) ?_
    refine lv_aload_n hx hb dX12_late_24 rfl (lv_at hl 0 rfl) ?_
    refine tw_get (D := (dC, dI)) (v := .ref (a 67)) (C := RX12) (T := TX12) (N := 58) hx hb hts (fun _ hh => (List.mem_cons_of_mem _ (List.mem_append_right _ (List.mem_append_right _ (List.mem_append_left _ hh))))) hown hK hT (fx_50 hX) (by decide) cl_e60 rfl 16 (by decide) (hts (.fieldLink RX12 49 "TypingPoolModel" "due" "[I") (List.mem_cons_of_mem _ (List.mem_append_left _ (List.mem_of_getElem? (i := 4) rfl)))) (fun _ h9 => h9) rfl dX12_late_25 ?_
    refine lv_iload_n hx hb dX12_late_28 rfl (lv_at hl 1 rfl) ?_
    refine tw_iald hx hb hK hT 0 (fx_67 hX) (by decide) cl_e77 rfl (z_in rfl (by omega) (by omega)) dX12_late_29 ?_
    refine lv_isub hx hb dX12_late_30 ?_
    refine lv_topi (fun x_12 ex_12 => ?_)
    refine va_mmax hx hb (by rw [hml]; exact hl.1.symm) hown (hts (.methodLink RX12 281 Lib.Math.max.name) (List.mem_cons_of_mem _ (List.mem_append_left _ (List.mem_of_getElem? (i := 5) rfl)))) (hts (.static Lib.Math.max.name) (List.mem_cons_of_mem _ (List.mem_append_left _ (List.mem_of_getElem? (i := 6) rfl)))) (hts (.initialized "java/lang/Math") (List.mem_cons_of_mem _ (List.mem_append_left _ (List.mem_of_getElem? (i := 7) rfl)))) (hts (.code Lib.Math.max.name Lib.Math.max.code 2 (some .int)) (List.mem_cons_of_mem _ (List.mem_append_left _ (List.mem_of_getElem? (i := 8) rfl)))) (Nat.le_of_ble_eq_true rfl) (Nat.le_of_ble_eq_true rfl) (Nat.le_of_ble_eq_true rfl) (Nat.le_of_ble_eq_true rfl) dX12_late_31 ?_
    refine lv_topi (fun x_13 ex_13 => ?_)
    have hx_13 := z_max ex_13 (zk (x := 0) 0 rfl) rfl
    exact W.iret (v := x_13) hx hb hr (fun t ht hW9 => ⟨⟨x_13, x_13, rfl, rfl, (tw_at ht hT)⟩, hS.F ht⟩) hS.2.2 dX12_late_34
def wo_m_lates : List Cond := [.fieldLink RX12 149 "TypingPoolModel" "pieces" "I", .methodLink RX12 318 yX12_late, .instanceMethod yX12_late, .selects RX12 yX12_late yX12_late, .initialized RX12]
def wm_m_lates : List Cond := .code yX12_lates cX12_lates 3 (some .int) :: (wo_m_lates ++ (wsX120 ++ (wm_m_late ++ ([] : List Cond))))
theorem gd_m_lates : ∀ w ∈ wm_m_lates, goodWord w = true := gd_c rfl (gd_a (by decide) (gd_a gd_wsX120 (gd_a gd_m_late gd_nil)))
set_option maxRecDepth 20000 in
theorem im_m_lates : ∀ w ∈ wm_m_lates, w ∈ lw_tbl := im_c (in_r [.code yX12_lates cX12_lates 3 (some .int)] [1623] (by decide +kernel)) (in_app (in_r wo_m_lates [1260, 1600, 1602, 56, 86] (by decide +kernel)) (in_app im_wsX120 (in_app im_m_late im_nil)))
set_option maxHeartbeats 4000000 in
set_option maxRecDepth 100000 in
theorem m_lates (l : Launch) (dC : Nat → ClassId) (dI : Nat → Nat → Nat) (ad av : Nat → Nat) (sz : Nat) (a : Nat → Nat) (k : Nat → ClassId) (τ ln : Nat → Nat) (y : Nat → Nat → Int32) (g : Nat → Nat → Option Nat) (u : Nat → Int) (hI : IM a u τ y) (hW : IW (u 1) (u 2) (u 9) (y (a 89))) : Met l yX12_lates wm_m_lates ({ frames := 3, cells := 0, slots := 0, locals := 140 }) (pw_ ad av (dC, dI) sz [.ref (a 50)] a k τ ln y g) (va_Qi (fun (r u : Int32) => u = r) (fun (r : Int32) (t : State) => (tw (dC, dI) a k τ ln y g t.heap)) (fr τ sz)) 0 0 (fr τ sz) := by
  refine Met.ofW (cc := cX12_lates) (maxL := 3) (ret := (some .int)) (by decide) rfl ?_
  intro p e s m args below meth c s₁ B hml hv
  obtain ⟨rfl, hsz, hT, hK, hM⟩ := hv
  have hx := B.exec
  have hb := B.bytes
  have hr := B.returns
  have hts := atoms_spec (ws := wm_m_lates) B.pre
  have hown : s.vm.findClass RX12 = some m.cls := findClass_of_methodNamed B.named
  have hlocks := B.notSynchronized
  subst hsz
  generalize hAe : fr τ s.heap.size = A at hM ⊢
  have hA : ∀ q : Nat, s.heap.size ≤ q → A q := fun q h => by rw [← hAe]; exact Or.inr h
  have hF : ∀ q, τ q ≠ 0 → A q := fun q h => by rw [← hAe]; exact Or.inl h
  have hS : va_S A s.heap s.heap [] := va_S.rf
  have hX := hI.1
  have hR := im_r hI
  have hl := lv_entry ([.ref (a 50)]) (n := 3) (Nat.le_of_ble_eq_true rfl)
  rw [lg_entry_eq]
  generalize (lg_sl ([.ref (a 50)]) ++ List.replicate (3 - (lg_sl ([.ref (a 50)])).length) Slot.unset).toArray = ls at hl ⊢
  have hl : lv_has ls 3 [(0, .ref (a 50))] := hl
  refine lv_iconst (v := 0) hx hb dX12_lates_0 (by decide) ?_
  refine lv_istore_n (lv' := [(1, .int 0), (0, .ref (a 50))]) hx hb dX12_lates_1 rfl hl (by decide) rfl (fun ls hl => ?_)
  refine lv_iconst (v := 0) hx hb dX12_lates_2 (by decide) ?_
  refine lv_istore_n (lv' := [(2, .int 0), (1, .int 0), (0, .ref (a 50))]) hx hb dX12_lates_3 rfl hl (by decide) rfl (fun ls hl => ?_)
  have loop_4 : ∀ (n : Nat) (w1 : Int32) (i2 : Int32) (H : Heap) (locs : List Loc) (ls : Array Slot), (u 2 - i2.toInt).toNat < n → 0 ≤ i2.toInt → i2.toInt ≤ u 2 → tw (dC, dI) a k τ ln y g H → va_S A s.heap H locs → lv_has ls 3 [(0, .ref (a 50)), (1, .int w1), (2, .int i2)] → W p l e (headSpec wm_m_lates ({ frames := 3, cells := 0, slots := 0, locals := 140 })).room s m ([.ref (a 50)] : List Value).toArray below meth c H locs 0 0 (MQ below (va_Qi (fun (r u : Int32) => u = r) (fun (r : Int32) (t : State) => (tw (dC, dI) a k τ ln y g t.heap)) A) ([.ref (a 50)] : List Value).toArray s 0 0 A) (F0 m 4 ls []) := by
    intro n
    induction n with
    | zero => intro w1 i2 H locs ls hlt; exact absurd hlt (Nat.not_lt_zero _)
    | succ n ih_4 =>
      intro w1 i2 H locs ls hlt hi4_0 hi4_1 hT hS hl
      refine lv_iload_n hx hb dX12_lates_4 rfl (lv_at hl 2 rfl) ?_
      refine lv_aload_n hx hb dX12_lates_5 rfl (lv_at hl 0 rfl) ?_
      refine tw_get (D := (dC, dI)) (v := .int (y (a 50) 19)) (C := RX12) (T := TX12) (N := 58) hx hb hts (fun _ hh => (List.mem_cons_of_mem _ (List.mem_append_right _ (List.mem_append_left _ hh)))) hown hK hT (fx_50 hX) (by decide) cl_e60 rfl 19 (by decide) (hts (.fieldLink RX12 149 "TypingPoolModel" "pieces" "I") (List.mem_cons_of_mem _ (List.mem_append_left _ (List.mem_of_getElem? (i := 0) rfl)))) (fun _ h9 => h9) rfl dX12_lates_6 ?_
      have hc_1 := im_2 hI
      refine lv_icmp_ge (tgt := 29) hx hb dX12_lates_9 (by decide) (fun c_2 => ?_) (fun c_2 => ?_)
      · have nc_2 := z_le hc_1 rfl c_2
        refine lv_iload_n hx hb dX12_lates_29 rfl (lv_at hl 1 rfl) ?_
        exact W.iret (v := w1) hx hb hr (fun t ht hW9 => ⟨⟨w1, w1, rfl, rfl, (tw_at ht hT)⟩, hS.F ht⟩) hS.2.2 dX12_lates_30
      · have nc_2 := z_nle hc_1 rfl c_2
        refine lv_aload_n hx hb dX12_lates_12 rfl (lv_at hl 0 rfl) ?_
        refine lv_iload_n hx hb dX12_lates_13 rfl (lv_at hl 2 rfl) ?_
        have hFc := tw_free hF hS hA
        refine va_calli (va_runV (As := [.int i2]) (rest := []) ⟨hx, hb, hml, hown, hts⟩ (m_late l dC dI ad av H.size a k τ ln y g u i2 hI (by omega) (by omega) hW) (cwV 1 hts (gi_4 (List.mem_cons_of_mem _ (List.mem_append_left _ (List.mem_of_getElem? (i := 1) rfl))) (List.mem_cons_of_mem _ (List.mem_append_left _ (List.mem_of_getElem? (i := 2) rfl))) (List.mem_cons_of_mem _ (List.mem_append_left _ (List.mem_of_getElem? (i := 3) rfl))) (List.mem_cons_of_mem _ (List.mem_append_left _ (List.mem_of_getElem? (i := 4) rfl))) (fun _ hh => (List.mem_cons_of_mem _ (List.mem_append_right _ (List.mem_append_right _ (List.mem_append_left _ hh))))) gd_m_late) rfl rfl rfl (by decide +kernel) ⟨Nat.le_of_ble_eq_true rfl, Nat.le_of_ble_eq_true rfl⟩) ⟨pw_blind, tw_recv hK hT (fx_50 hX) (by decide) cl_e60 rfl, pw_use hT hK hFc hS hM⟩ rfl rfl hl.1 rfl (lv_room (Nat.le_of_ble_eq_true rfl)) dX12_lates_14 ⟨Nat.le_of_ble_eq_true rfl, Nat.le_of_ble_eq_true rfl⟩) hS (fun q _ h => hFc q h) hFc (fun r0 r_3 t H locs ht hvm hw hB hz1 hk1 hS => ?_)
        refine W.widen (k := 0) (n := 0) (Nat.le_of_ble_eq_true rfl) (Nat.le_of_ble_eq_true rfl) ?_
        clear hvm hz1 hk1
        subst hw
        have hT := hB
        rw [ht] at hT
        refine lv_if_le (tgt := 23) hx hb dX12_lates_17 (by decide) (fun c_4 => ?_) (fun c_4 => ?_)
        · have nc_4 := z_le rfl (zk (x := 0) 0 rfl) c_4
          obtain ⟨x_5, ex_5⟩ : ∃ y : Int32, y = i2 + Int32.ofInt 1 := ⟨_, rfl⟩
          have hx_5 := z_add ex_5 rfl (zk (x := Int32.ofInt 1) 1 rfl) (by omega) (by omega)
          refine lv_iinc (v := x_5) (lv' := [(2, .int x_5), (0, .ref (a 50)), (1, .int w1)]) hx hb dX12_lates_23 hl (k := 2) rfl ex_5.symm (by decide) rfl (fun ls hl => ?_)
          refine lv_goto (tgt := 4) hx hb dX12_lates_26 (by decide) ?_
          exact ih_4  w1 x_5 H _ ls (by omega) (by omega) (by omega) hT hS (lv_sub hl [1, 2, 0] rfl)
        · have nc_4 := z_nle rfl (zk (x := 0) 0 rfl) c_4
          obtain ⟨x_6, ex_6⟩ : ∃ y : Int32, y = w1 + Int32.ofInt 1 := ⟨_, rfl⟩
          refine lv_iinc (v := x_6) (lv' := [(1, .int x_6), (0, .ref (a 50)), (2, .int i2)]) hx hb dX12_lates_20 hl (k := 1) rfl ex_6.symm (by decide) rfl (fun ls hl => ?_)
          obtain ⟨x_7, ex_7⟩ : ∃ y : Int32, y = i2 + Int32.ofInt 1 := ⟨_, rfl⟩
          have hx_7 := z_add ex_7 rfl (zk (x := Int32.ofInt 1) 1 rfl) (by omega) (by omega)
          refine lv_iinc (v := x_7) (lv' := [(2, .int x_7), (1, .int x_6), (0, .ref (a 50))]) hx hb dX12_lates_23 hl (k := 2) rfl ex_7.symm (by decide) rfl (fun ls hl => ?_)
          refine lv_goto (tgt := 4) hx hb dX12_lates_26 (by decide) ?_
          exact ih_4  x_6 x_7 H _ ls (by omega) (by omega) (by omega) hT hS (lv_sub hl [2, 1, 0] rfl)
  have hp_8 : (0 : Int32).toInt = 0 := (zk (x := 0) 0 rfl)
  have hp_9 : (0 : Int32).toInt = 0 := (zk (x := 0) 0 rfl)
  exact loop_4 _ (0 : Int32) (0 : Int32) s.heap _ ls (Nat.lt_succ_self _) (by omega) (by omega) hT hS (lv_sub hl [2, 1, 0] rfl)
def wo_m_waited : List Cond := [.fieldLink RX12 149 "TypingPoolModel" "pieces" "I", .fieldLink RX12 31 "TypingPoolModel" "department" "[I", .methodLink RX12 261 yX12_piece, .instanceMethod yX12_piece, .selects RX12 yX12_piece yX12_piece, .initialized RX12, .fieldLink RX12 46 "TypingPoolModel" "comes" "[I"]
def wm_m_waited : List Cond := .code yX12_waited cX12_waited 4 (some .int) :: (wo_m_waited ++ (wsX120 ++ (wm_m_pieceG ++ ([] : List Cond))))
theorem gd_m_waited : ∀ w ∈ wm_m_waited, goodWord w = true := gd_c rfl (gd_a (by decide) (gd_a gd_wsX120 (gd_a gd_m_pieceG gd_nil)))
set_option maxRecDepth 20000 in
theorem im_m_waited : ∀ w ∈ wm_m_waited, w ∈ lw_tbl := im_c (in_r [.code yX12_waited cX12_waited 4 (some .int)] [1683] (by decide +kernel)) (in_app (in_r wo_m_waited [1260, 1251, 1556, 1558, 50, 86, 1256] (by decide +kernel)) (in_app im_wsX120 (in_app im_m_pieceG im_nil)))
set_option maxHeartbeats 4000000 in
set_option maxRecDepth 100000 in
theorem m_waited (l : Launch) (dC : Nat → ClassId) (dI : Nat → Nat → Nat) (ad av : Nat → Nat) (sz : Nat) (a : Nat → Nat) (k : Nat → ClassId) (τ ln : Nat → Nat) (y : Nat → Nat → Int32) (g : Nat → Nat → Option Nat) (u : Nat → Int) (p0 : Int32) (hI : IM a u τ y) (hW : IW (u 1) (u 2) (u 9) (y (a 89))) : Met l yX12_waited wm_m_waited ({ frames := 1, cells := 0, slots := 0, locals := 60 }) (pw_ ad av (dC, dI) sz [.ref (a 50), .int p0] a k τ ln y g) (va_Qi (fun (r u : Int32) => u = r) (fun (r : Int32) (t : State) => (tw (dC, dI) a k τ ln y g t.heap)) (fr τ sz)) 0 0 (fr τ sz) := by
  refine Met.ofW (cc := cX12_waited) (maxL := 4) (ret := (some .int)) (by decide) rfl ?_
  intro p e s m args below meth c s₁ B hml hv
  obtain ⟨rfl, hsz, hT, hK, hM⟩ := hv
  have hx := B.exec
  have hb := B.bytes
  have hr := B.returns
  have hts := atoms_spec (ws := wm_m_waited) B.pre
  have hown : s.vm.findClass RX12 = some m.cls := findClass_of_methodNamed B.named
  have hlocks := B.notSynchronized
  subst hsz
  generalize hAe : fr τ s.heap.size = A at hM ⊢
  have hA : ∀ q : Nat, s.heap.size ≤ q → A q := fun q h => by rw [← hAe]; exact Or.inr h
  have hF : ∀ q, τ q ≠ 0 → A q := fun q h => by rw [← hAe]; exact Or.inl h
  have hS : va_S A s.heap s.heap [] := va_S.rf
  have hX := hI.1
  have hR := im_r hI
  have hl := lv_entry ([.ref (a 50), .int p0]) (n := 4) (Nat.le_of_ble_eq_true rfl)
  rw [lg_entry_eq]
  generalize (lg_sl ([.ref (a 50), .int p0]) ++ List.replicate (4 - (lg_sl ([.ref (a 50), .int p0])).length) Slot.unset).toArray = ls at hl ⊢
  have hl : lv_has ls 4 [(0, .ref (a 50)), (1, .int p0)] := hl
  refine lv_iconst (v := 0) hx hb dX12_waited_0 (by decide) ?_
  refine lv_istore_n (lv' := [(2, .int 0), (0, .ref (a 50)), (1, .int p0)]) hx hb dX12_waited_1 rfl hl (by decide) rfl (fun ls hl => ?_)
  refine lv_iconst (v := 0) hx hb dX12_waited_2 (by decide) ?_
  refine lv_istore_n (lv' := [(3, .int 0), (2, .int 0), (0, .ref (a 50)), (1, .int p0)]) hx hb dX12_waited_3 rfl hl (by decide) rfl (fun ls hl => ?_)
  have loop_4 : ∀ (n : Nat) (w2 : Int32) (i3 : Int32) (H : Heap) (locs : List Loc) (ls : Array Slot), (u 2 - i3.toInt).toNat < n → 0 ≤ i3.toInt → i3.toInt ≤ u 2 → tw (dC, dI) a k τ ln y g H → va_S A s.heap H locs → lv_has ls 4 [(0, .ref (a 50)), (1, .int p0), (2, .int w2), (3, .int i3)] → W p l e (headSpec wm_m_waited ({ frames := 1, cells := 0, slots := 0, locals := 60 })).room s m ([.ref (a 50), .int p0] : List Value).toArray below meth c H locs 0 0 (MQ below (va_Qi (fun (r u : Int32) => u = r) (fun (r : Int32) (t : State) => (tw (dC, dI) a k τ ln y g t.heap)) A) ([.ref (a 50), .int p0] : List Value).toArray s 0 0 A) (F0 m 4 ls []) := by
    intro n
    induction n with
    | zero => intro w2 i3 H locs ls hlt; exact absurd hlt (Nat.not_lt_zero _)
    | succ n ih_4 =>
      intro w2 i3 H locs ls hlt hi4_0 hi4_1 hT hS hl
      refine lv_iload_n hx hb dX12_waited_4 rfl (lv_at hl 3 rfl) ?_
      refine lv_aload_n hx hb dX12_waited_5 rfl (lv_at hl 0 rfl) ?_
      refine tw_get (D := (dC, dI)) (v := .int (y (a 50) 19)) (C := RX12) (T := TX12) (N := 58) hx hb hts (fun _ hh => (List.mem_cons_of_mem _ (List.mem_append_right _ (List.mem_append_left _ hh)))) hown hK hT (fx_50 hX) (by decide) cl_e60 rfl 19 (by decide) (hts (.fieldLink RX12 149 "TypingPoolModel" "pieces" "I") (List.mem_cons_of_mem _ (List.mem_append_left _ (List.mem_of_getElem? (i := 0) rfl)))) (fun _ h9 => h9) rfl dX12_waited_6 ?_
      have hc_1 := im_2 hI
      refine lv_icmp_ge (tgt := 54) hx hb dX12_waited_9 (by decide) (fun c_2 => ?_) (fun c_2 => ?_)
      · have nc_2 := z_le hc_1 rfl c_2
        refine lv_iload_n hx hb dX12_waited_54 rfl (lv_at hl 2 rfl) ?_
        exact W.iret (v := w2) hx hb hr (fun t ht hW9 => ⟨⟨w2, w2, rfl, rfl, (tw_at ht hT)⟩, hS.F ht⟩) hS.2.2 dX12_waited_55
      · have nc_2 := z_nle hc_1 rfl c_2
        refine lv_aload_n hx hb dX12_waited_12 rfl (lv_at hl 0 rfl) ?_
        refine tw_get (D := (dC, dI)) (v := .ref (a 61)) (C := RX12) (T := TX12) (N := 58) hx hb hts (fun _ hh => (List.mem_cons_of_mem _ (List.mem_append_right _ (List.mem_append_left _ hh)))) hown hK hT (fx_50 hX) (by decide) cl_e60 rfl 10 (by decide) (hts (.fieldLink RX12 31 "TypingPoolModel" "department" "[I") (List.mem_cons_of_mem _ (List.mem_append_left _ (List.mem_of_getElem? (i := 1) rfl)))) (fun _ h9 => h9) rfl dX12_waited_13 ?_
        refine lv_iload_n hx hb dX12_waited_16 rfl (lv_at hl 3 rfl) ?_
        refine tw_iald hx hb hK hT 0 (fx_61 hX) (by decide) cl_e71 rfl (z_in rfl (by omega) (by omega)) dX12_waited_17 ?_
        refine lv_iload_n hx hb dX12_waited_18 rfl (lv_at hl 1 rfl) ?_
        refine lv_icmp_ne (tgt := 48) hx hb dX12_waited_19 (by decide) (fun c_3 => ?_) (fun c_3 => ?_)
        · have nc_3 := z_ne rfl rfl c_3
          obtain ⟨x_4, ex_4⟩ : ∃ y : Int32, y = i3 + Int32.ofInt 1 := ⟨_, rfl⟩
          have hx_4 := z_add ex_4 rfl (zk (x := Int32.ofInt 1) 1 rfl) (by omega) (by omega)
          refine lv_iinc (v := x_4) (lv' := [(3, .int x_4), (0, .ref (a 50)), (1, .int p0), (2, .int w2)]) hx hb dX12_waited_48 hl (k := 3) rfl ex_4.symm (by decide) rfl (fun ls hl => ?_)
          refine lv_goto (tgt := 4) hx hb dX12_waited_51 (by decide) ?_
          exact ih_4  w2 x_4 H _ ls (by omega) (by omega) (by omega) hT hS (lv_sub hl [1, 2, 3, 0] rfl)
        · have nc_3 := z_eq rfl rfl c_3
          refine lv_aload_n hx hb dX12_waited_22 rfl (lv_at hl 0 rfl) ?_
          refine lv_iload_n hx hb dX12_waited_23 rfl (lv_at hl 3 rfl) ?_
          refine lv_iconst (v := 1) hx hb dX12_waited_24 (by decide) ?_
          have hFc := tw_free hF hS hA
          have hp_5 : (1 : Int32).toInt = 1 := (zk (x := 1) 1 rfl)
          refine va_calli (va_runV (As := [.int i3, .int 1]) (rest := []) ⟨hx, hb, hml, hown, hts⟩ (m_pieceG l dC dI ad av H.size a k τ ln y g u i3 (1 : Int32) hI (by omega) (by omega) (by decide) (by decide) hW) (cwV 2 hts (gi_4 (List.mem_cons_of_mem _ (List.mem_append_left _ (List.mem_of_getElem? (i := 2) rfl))) (List.mem_cons_of_mem _ (List.mem_append_left _ (List.mem_of_getElem? (i := 3) rfl))) (List.mem_cons_of_mem _ (List.mem_append_left _ (List.mem_of_getElem? (i := 4) rfl))) (List.mem_cons_of_mem _ (List.mem_append_left _ (List.mem_of_getElem? (i := 5) rfl))) (fun _ hh => (List.mem_cons_of_mem _ (List.mem_append_right _ (List.mem_append_right _ (List.mem_append_left _ hh))))) gd_m_pieceG) rfl rfl rfl (by decide +kernel) ⟨Nat.le_of_ble_eq_true rfl, Nat.le_of_ble_eq_true rfl⟩) ⟨pw_blind, tw_recv hK hT (fx_50 hX) (by decide) cl_e60 rfl, pw_use hT hK hFc hS hM⟩ rfl rfl hl.1 rfl (lv_room (Nat.le_of_ble_eq_true rfl)) dX12_waited_25 ⟨Nat.le_of_ble_eq_true rfl, Nat.le_of_ble_eq_true rfl⟩) hS (fun q _ h => hFc q h) hFc (fun r0 r_6 t H locs ht hvm hw hB hz1 hk1 hS => ?_)
          refine W.widen (k := 0) (n := 0) (Nat.le_of_ble_eq_true rfl) (Nat.le_of_ble_eq_true rfl) ?_
          clear hvm hz1 hk1
          subst hw
          obtain ⟨hf_7, hT⟩ := hB
          rw [ht] at hT
          try simp only [hp_5] at hf_7
          clear hp_5
          refine lv_iconst (v := (-1)) hx hb dX12_waited_28 (by decide) ?_
          refine lv_icmp_eq (tgt := 48) hx hb dX12_waited_29 (by decide) (fun c_8 => ?_) (fun c_8 => ?_)
          · have nc_8 := z_eq rfl (zk (x := (-1)) (-1) rfl) c_8
            obtain ⟨x_9, ex_9⟩ : ∃ y : Int32, y = i3 + Int32.ofInt 1 := ⟨_, rfl⟩
            have hx_9 := z_add ex_9 rfl (zk (x := Int32.ofInt 1) 1 rfl) (by omega) (by omega)
            refine lv_iinc (v := x_9) (lv' := [(3, .int x_9), (0, .ref (a 50)), (1, .int p0), (2, .int w2)]) hx hb dX12_waited_48 hl (k := 3) rfl ex_9.symm (by decide) rfl (fun ls hl => ?_)
            refine lv_goto (tgt := 4) hx hb dX12_waited_51 (by decide) ?_
            exact ih_4  w2 x_9 H _ ls (by omega) (by omega) (by omega) hT hS (lv_sub hl [1, 2, 3, 0] rfl)
          · have nc_8 := z_ne rfl (zk (x := (-1)) (-1) rfl) c_8
            refine lv_iload_n hx hb dX12_waited_32 rfl (lv_at hl 2 rfl) ?_
            refine lv_aload_n hx hb dX12_waited_33 rfl (lv_at hl 0 rfl) ?_
            refine lv_iload_n hx hb dX12_waited_34 rfl (lv_at hl 3 rfl) ?_
            refine lv_iconst (v := 1) hx hb dX12_waited_35 (by decide) ?_
            have hFc := tw_free hF hS hA
            have hp_10 : (1 : Int32).toInt = 1 := (zk (x := 1) 1 rfl)
            refine va_calli (va_runV (As := [.int i3, .int 1]) (rest := [.int w2]) ⟨hx, hb, hml, hown, hts⟩ (m_pieceG l dC dI ad av H.size a k τ ln y g u i3 (1 : Int32) hI (by omega) (by omega) (by decide) (by decide) hW) (cwV 2 hts (gi_4 (List.mem_cons_of_mem _ (List.mem_append_left _ (List.mem_of_getElem? (i := 2) rfl))) (List.mem_cons_of_mem _ (List.mem_append_left _ (List.mem_of_getElem? (i := 3) rfl))) (List.mem_cons_of_mem _ (List.mem_append_left _ (List.mem_of_getElem? (i := 4) rfl))) (List.mem_cons_of_mem _ (List.mem_append_left _ (List.mem_of_getElem? (i := 5) rfl))) (fun _ hh => (List.mem_cons_of_mem _ (List.mem_append_right _ (List.mem_append_right _ (List.mem_append_left _ hh))))) gd_m_pieceG) rfl rfl rfl (by decide +kernel) ⟨Nat.le_of_ble_eq_true rfl, Nat.le_of_ble_eq_true rfl⟩) ⟨pw_blind, tw_recv hK hT (fx_50 hX) (by decide) cl_e60 rfl, pw_use hT hK hFc hS hM⟩ rfl rfl hl.1 rfl (lv_room (Nat.le_of_ble_eq_true rfl)) dX12_waited_36 ⟨Nat.le_of_ble_eq_true rfl, Nat.le_of_ble_eq_true rfl⟩) hS (fun q _ h => hFc q h) hFc (fun r0 r_11 t H locs ht hvm hw hB hz1 hk1 hS => ?_)
            refine W.widen (k := 0) (n := 0) (Nat.le_of_ble_eq_true rfl) (Nat.le_of_ble_eq_true rfl) ?_
            clear hvm hz1 hk1
            subst hw
            obtain ⟨hf_12, hT⟩ := hB
            rw [ht] at hT
            try simp only [hp_10] at hf_12
            clear hp_10
            refine lv_aload_n hx hb dX12_waited_39 rfl (lv_at hl 0 rfl) ?_
            refine tw_get (D := (dC, dI)) (v := .ref (a 66)) (C := RX12) (T := TX12) (N := 58) hx hb hts (fun _ hh => (List.mem_cons_of_mem _ (List.mem_append_right _ (List.mem_append_left _ hh)))) hown hK hT (fx_50 hX) (by decide) cl_e60 rfl 15 (by decide) (hts (.fieldLink RX12 46 "TypingPoolModel" "comes" "[I") (List.mem_cons_of_mem _ (List.mem_append_left _ (List.mem_of_getElem? (i := 6) rfl)))) (fun _ h9 => h9) rfl dX12_waited_40 ?_
            refine lv_iload_n hx hb dX12_waited_43 rfl (lv_at hl 3 rfl) ?_
            refine tw_iald hx hb hK hT 0 (fx_66 hX) (by decide) cl_e76 rfl (z_in rfl (by omega) (by omega)) dX12_waited_44 ?_
            refine lv_isub hx hb dX12_waited_45 ?_
            refine lv_topi (fun x_13 ex_13 => ?_)
            refine lv_iadd hx hb dX12_waited_46 ?_
            refine lv_topi (fun x_14 ex_14 => ?_)
            refine lv_istore_n (lv' := [(2, .int x_14), (0, .ref (a 50)), (1, .int p0), (3, .int i3)]) hx hb dX12_waited_47 rfl hl (by decide) rfl (fun ls hl => ?_)
            obtain ⟨x_15, ex_15⟩ : ∃ y : Int32, y = i3 + Int32.ofInt 1 := ⟨_, rfl⟩
            have hx_15 := z_add ex_15 rfl (zk (x := Int32.ofInt 1) 1 rfl) (by omega) (by omega)
            refine lv_iinc (v := x_15) (lv' := [(3, .int x_15), (2, .int x_14), (0, .ref (a 50)), (1, .int p0)]) hx hb dX12_waited_48 hl (k := 3) rfl ex_15.symm (by decide) rfl (fun ls hl => ?_)
            refine lv_goto (tgt := 4) hx hb dX12_waited_51 (by decide) ?_
            exact ih_4  x_14 x_15 H _ ls (by omega) (by omega) (by omega) hT hS (lv_sub hl [2, 3, 1, 0] rfl)
  have hp_16 : (0 : Int32).toInt = 0 := (zk (x := 0) 0 rfl)
  have hp_17 : (0 : Int32).toInt = 0 := (zk (x := 0) 0 rfl)
  exact loop_4 _ (0 : Int32) (0 : Int32) s.heap _ ls (Nat.lt_succ_self _) (by omega) (by omega) hT hS (lv_sub hl [2, 3, 1, 0] rfl)
def wo_m_isKnown : List Cond := [.fieldLink RX12 85 "TypingPoolModel" "correctDay" "[I", .fieldLink RX12 94 "TypingPoolModel" "as" "I", .fieldLink RX12 88 "TypingPoolModel" "undoneDay" "[I"]
def wm_m_isKnown : List Cond := .code yX12_isKnown cX12_isKnown 2 (some .boolean) :: (wo_m_isKnown ++ (wsX120 ++ ([] : List Cond)))
theorem gd_m_isKnown : ∀ w ∈ wm_m_isKnown, goodWord w = true := gd_c rfl (gd_a (by decide) (gd_a gd_wsX120 gd_nil))
set_option maxRecDepth 20000 in
theorem im_m_isKnown : ∀ w ∈ wm_m_isKnown, w ∈ lw_tbl := im_c (in_r [.code yX12_isKnown cX12_isKnown 2 (some .boolean)] [1643] (by decide +kernel)) (in_app (in_r wo_m_isKnown [1268, 1272, 1269] (by decide +kernel)) (in_app im_wsX120 im_nil))
set_option maxHeartbeats 4000000 in
set_option maxRecDepth 100000 in
theorem m_isKnown (l : Launch) (dC : Nat → ClassId) (dI : Nat → Nat → Nat) (ad av : Nat → Nat) (sz : Nat) (a : Nat → Nat) (k : Nat → ClassId) (τ ln : Nat → Nat) (y : Nat → Nat → Int32) (g : Nat → Nat → Option Nat) (u : Nat → Int) (p0 : Int32) (hI : IM a u τ y) (hlp0 : 0 ≤ p0.toInt) (hup0 : p0.toInt < u 5) (hW : IW (u 1) (u 2) (u 9) (y (a 89))) : Met l yX12_isKnown wm_m_isKnown ({ frames := 0, cells := 0, slots := 0, locals := 0 }) (pw_ ad av (dC, dI) sz [.ref (a 50), .int p0] a k τ ln y g) (va_Qi (fun (r u : Int32) => u = r) (fun (r : Int32) (t : State) => (r = 1 ∧ tw (dC, dI) a k τ ln y g t.heap) ∨ (r = 0 ∧ tw (dC, dI) a k τ ln y g t.heap)) (fr τ sz)) 0 0 (fr τ sz) := by
  refine Met.ofW (cc := cX12_isKnown) (maxL := 2) (ret := (some .boolean)) (by decide) rfl ?_
  intro p e s m args below meth c s₁ B hml hv
  obtain ⟨rfl, hsz, hT, hK, hM⟩ := hv
  have hx := B.exec
  have hb := B.bytes
  have hr := B.returns
  have hts := atoms_spec (ws := wm_m_isKnown) B.pre
  have hown : s.vm.findClass RX12 = some m.cls := findClass_of_methodNamed B.named
  have hlocks := B.notSynchronized
  subst hsz
  generalize hAe : fr τ s.heap.size = A at hM ⊢
  have hA : ∀ q : Nat, s.heap.size ≤ q → A q := fun q h => by rw [← hAe]; exact Or.inr h
  have hF : ∀ q, τ q ≠ 0 → A q := fun q h => by rw [← hAe]; exact Or.inl h
  have hS : va_S A s.heap s.heap [] := va_S.rf
  have hX := hI.1
  have hR := im_r hI
  have hl := lv_entry ([.ref (a 50), .int p0]) (n := 2) (Nat.le_of_ble_eq_true rfl)
  rw [lg_entry_eq]
  generalize (lg_sl ([.ref (a 50), .int p0]) ++ List.replicate (2 - (lg_sl ([.ref (a 50), .int p0])).length) Slot.unset).toArray = ls at hl ⊢
  have hl : lv_has ls 2 [(0, .ref (a 50)), (1, .int p0)] := hl
  refine lv_aload_n hx hb dX12_isKnown_0 rfl (lv_at hl 0 rfl) ?_
  refine tw_get (D := (dC, dI)) (v := .ref (a 78)) (C := RX12) (T := TX12) (N := 58) hx hb hts (fun _ hh => (List.mem_cons_of_mem _ (List.mem_append_right _ (List.mem_append_left _ hh)))) hown hK hT (fx_50 hX) (by decide) cl_e60 rfl 27 (by decide) (hts (.fieldLink RX12 85 "TypingPoolModel" "correctDay" "[I") (List.mem_cons_of_mem _ (List.mem_append_left _ (List.mem_of_getElem? (i := 0) rfl)))) (fun _ h9 => h9) rfl dX12_isKnown_1 ?_
  refine lv_iload_n hx hb dX12_isKnown_4 rfl (lv_at hl 1 rfl) ?_
  refine tw_iald hx hb hK hT 0 (fx_78 hX) (by decide) cl_e88 rfl (z_in rfl (by omega) (by omega)) dX12_isKnown_5 ?_
  refine lv_aload_n hx hb dX12_isKnown_6 rfl (lv_at hl 0 rfl) ?_
  refine tw_get (D := (dC, dI)) (v := .int (y (a 50) 31)) (C := RX12) (T := TX12) (N := 58) hx hb hts (fun _ hh => (List.mem_cons_of_mem _ (List.mem_append_right _ (List.mem_append_left _ hh)))) hown hK hT (fx_50 hX) (by decide) cl_e60 rfl 31 (by decide) (hts (.fieldLink RX12 94 "TypingPoolModel" "as" "I") (List.mem_cons_of_mem _ (List.mem_append_left _ (List.mem_of_getElem? (i := 1) rfl)))) (fun _ h9 => h9) rfl dX12_isKnown_7 ?_
  have hc_1 := im_8 hI
  refine lv_icmp_gt (tgt := 30) hx hb dX12_isKnown_10 (by decide) (fun c_2 => ?_) (fun c_2 => ?_)
  · have nc_2 := z_lt hc_1 rfl c_2
    refine lv_iconst (v := 0) hx hb dX12_isKnown_30 (by decide) ?_
    exact W.zret (v := 0) hx hb hr (by decide) (fun t ht hW9 => ⟨⟨0, 0, rfl, rfl, Or.inr (⟨rfl, tw_at ht hT⟩)⟩, hS.F ht⟩) hS.2.2 dX12_isKnown_31
  · have nc_2 := z_nlt hc_1 rfl c_2
    refine lv_aload_n hx hb dX12_isKnown_13 rfl (lv_at hl 0 rfl) ?_
    refine tw_get (D := (dC, dI)) (v := .ref (a 79)) (C := RX12) (T := TX12) (N := 58) hx hb hts (fun _ hh => (List.mem_cons_of_mem _ (List.mem_append_right _ (List.mem_append_left _ hh)))) hown hK hT (fx_50 hX) (by decide) cl_e60 rfl 28 (by decide) (hts (.fieldLink RX12 88 "TypingPoolModel" "undoneDay" "[I") (List.mem_cons_of_mem _ (List.mem_append_left _ (List.mem_of_getElem? (i := 2) rfl)))) (fun _ h9 => h9) rfl dX12_isKnown_14 ?_
    refine lv_iload_n hx hb dX12_isKnown_17 rfl (lv_at hl 1 rfl) ?_
    refine tw_iald hx hb hK hT 0 (fx_79 hX) (by decide) cl_e89 rfl (z_in rfl (by omega) (by omega)) dX12_isKnown_18 ?_
    refine lv_aload_n hx hb dX12_isKnown_19 rfl (lv_at hl 0 rfl) ?_
    refine tw_get (D := (dC, dI)) (v := .int (y (a 50) 31)) (C := RX12) (T := TX12) (N := 58) hx hb hts (fun _ hh => (List.mem_cons_of_mem _ (List.mem_append_right _ (List.mem_append_left _ hh)))) hown hK hT (fx_50 hX) (by decide) cl_e60 rfl 31 (by decide) (hts (.fieldLink RX12 94 "TypingPoolModel" "as" "I") (List.mem_cons_of_mem _ (List.mem_append_left _ (List.mem_of_getElem? (i := 1) rfl)))) (fun _ h9 => h9) rfl dX12_isKnown_20 ?_
    have hc_3 := im_8 hI
    refine lv_icmp_le (tgt := 30) hx hb dX12_isKnown_23 (by decide) (fun c_4 => ?_) (fun c_4 => ?_)
    · have nc_4 := z_le rfl hc_3 c_4
      refine lv_iconst (v := 0) hx hb dX12_isKnown_30 (by decide) ?_
      exact W.zret (v := 0) hx hb hr (by decide) (fun t ht hW9 => ⟨⟨0, 0, rfl, rfl, Or.inr (⟨rfl, tw_at ht hT⟩)⟩, hS.F ht⟩) hS.2.2 dX12_isKnown_31
    · have nc_4 := z_nle rfl hc_3 c_4
      refine lv_iconst (v := 1) hx hb dX12_isKnown_26 (by decide) ?_
      refine lv_goto (tgt := 31) hx hb dX12_isKnown_27 (by decide) ?_
      exact W.zret (v := 1) hx hb hr (by decide) (fun t ht hW9 => ⟨⟨1, 1, rfl, rfl, Or.inl ⟨rfl, tw_at ht hT⟩⟩, hS.F ht⟩) hS.2.2 dX12_isKnown_31
def wo_m_faultOf : List Cond := [.fieldLink RX12 116 "TypingPoolModel" "values" "[I", .fieldLink RX12 91 "TypingPoolModel" "told" "[I", .fieldLink RX12 82 "TypingPoolModel" "correctPiece" "[I", .methodLink RX12 261 yX12_piece, .instanceMethod yX12_piece, .selects RX12 yX12_piece yX12_piece, .initialized RX12, .fieldLink RX12 85 "TypingPoolModel" "correctDay" "[I", .methodLink RX12 278 yX12_asks, .instanceMethod yX12_asks, .selects RX12 yX12_asks yX12_asks]
def wm_m_faultOf : List Cond := .code yX12_faultOf cX12_faultOf 3 (some .int) :: (wo_m_faultOf ++ (wsX120 ++ (wm_m_pieceG ++ (wm_m_asks ++ ([] : List Cond)))))
theorem gd_m_faultOf : ∀ w ∈ wm_m_faultOf, goodWord w = true := gd_c rfl (gd_a (by decide) (gd_a gd_wsX120 (gd_a gd_m_pieceG (gd_a gd_m_asks gd_nil))))
set_option maxRecDepth 20000 in
theorem im_m_faultOf : ∀ w ∈ wm_m_faultOf, w ∈ lw_tbl := im_c (in_r [.code yX12_faultOf cX12_faultOf 3 (some .int)] [1647] (by decide +kernel)) (in_app (in_r wo_m_faultOf [1282, 1270, 1267, 1556, 1558, 50, 86, 1268, 1564, 1566, 52] (by decide +kernel)) (in_app im_wsX120 (in_app im_m_pieceG (in_app im_m_asks im_nil))))
set_option maxHeartbeats 4000000 in
set_option maxRecDepth 100000 in
theorem m_faultOf (l : Launch) (dC : Nat → ClassId) (dI : Nat → Nat → Nat) (ad av : Nat → Nat) (sz : Nat) (a : Nat → Nat) (k : Nat → ClassId) (τ ln : Nat → Nat) (y : Nat → Nat → Int32) (g : Nat → Nat → Option Nat) (u : Nat → Int) (p0 : Int32) (hI : IM a u τ y) (hlp0 : 0 ≤ p0.toInt) (hup0 : p0.toInt < u 5) (hW : IW (u 1) (u 2) (u 9) (y (a 89))) : Met l yX12_faultOf wm_m_faultOf ({ frames := 385, cells := 0, slots := 0, locals := 25220 }) (pw_ ad av (dC, dI) sz [.ref (a 50), .int p0] a k τ ln y g) (va_Qi (fun (r u : Int32) => u = r) (fun (r : Int32) (t : State) => (∃ (y' : Nat → Nat → Int32) (g' : Nat → Nat → Option Nat), ag τ [60, 102] y y' ∧ agg τ g g' ∧ IM a u τ y' ∧ tw (dC, dI) a k τ ln y' g' t.heap)) (fr τ sz)) 0 0 (fr τ sz) := by
  refine Met.ofW (cc := cX12_faultOf) (maxL := 3) (ret := (some .int)) (by decide) rfl ?_
  intro p e s m args below meth c s₁ B hml hv
  obtain ⟨rfl, hsz, hT, hK, hM⟩ := hv
  have hx := B.exec
  have hb := B.bytes
  have hr := B.returns
  have hts := atoms_spec (ws := wm_m_faultOf) B.pre
  have hown : s.vm.findClass RX12 = some m.cls := findClass_of_methodNamed B.named
  have hlocks := B.notSynchronized
  subst hsz
  generalize hAe : fr τ s.heap.size = A at hM ⊢
  have hA : ∀ q : Nat, s.heap.size ≤ q → A q := fun q h => by rw [← hAe]; exact Or.inr h
  have hF : ∀ q, τ q ≠ 0 → A q := fun q h => by rw [← hAe]; exact Or.inl h
  have hS : va_S A s.heap s.heap [] := va_S.rf
  have hX := hI.1
  have hR := im_r hI
  have hG : ag τ [60, 102] y y := ag.rf
  have hGg : agg τ g g := agg.rf
  have hl := lv_entry ([.ref (a 50), .int p0]) (n := 3) (Nat.le_of_ble_eq_true rfl)
  rw [lg_entry_eq]
  generalize (lg_sl ([.ref (a 50), .int p0]) ++ List.replicate (3 - (lg_sl ([.ref (a 50), .int p0])).length) Slot.unset).toArray = ls at hl ⊢
  have hl : lv_has ls 3 [(0, .ref (a 50)), (1, .int p0)] := hl
  refine lv_iconst (v := 0) hx hb dX12_faultOf_0 (by decide) ?_
  refine lv_istore_n (lv' := [(2, .int 0), (0, .ref (a 50)), (1, .int p0)]) hx hb dX12_faultOf_1 rfl hl (by decide) rfl (fun ls hl => ?_)
  refine lv_iload_n hx hb dX12_faultOf_2 rfl (lv_at hl 0 rfl) ?_
  refine lv_iconst (v := 3) hx hb dX12_faultOf_3 (by decide) ?_
  refine lv_icmp_ge (tgt := 29) hx hb dX12_faultOf_4 (by decide) (fun c_1 => absurd c_1 (by decide)) (fun c_1 => ?_)
  refine lv_aload_n hx hb dX12_faultOf_7 rfl (lv_at hl 1 rfl) ?_
  refine tw_get (D := (dC, dI)) (v := .ref (a 92)) (C := RX12) (T := TX12) (N := 58) hx hb hts (fun _ hh => (List.mem_cons_of_mem _ (List.mem_append_right _ (List.mem_append_left _ hh)))) hown hK hT (fx_50 hX) (by decide) cl_e60 rfl 41 (by decide) (hts (.fieldLink RX12 116 "TypingPoolModel" "values" "[I") (List.mem_cons_of_mem _ (List.mem_append_left _ (List.mem_of_getElem? (i := 0) rfl)))) (fun _ h9 => h9) rfl dX12_faultOf_8 ?_
  refine lv_iload_n hx hb dX12_faultOf_11 rfl (lv_at hl 0 rfl) ?_
  refine lv_aload_n hx hb dX12_faultOf_12 rfl (lv_at hl 1 rfl) ?_
  refine tw_get (D := (dC, dI)) (v := .ref (a 80)) (C := RX12) (T := TX12) (N := 58) hx hb hts (fun _ hh => (List.mem_cons_of_mem _ (List.mem_append_right _ (List.mem_append_left _ hh)))) hown hK hT (fx_50 hX) (by decide) cl_e60 rfl 29 (by decide) (hts (.fieldLink RX12 91 "TypingPoolModel" "told" "[I") (List.mem_cons_of_mem _ (List.mem_append_left _ (List.mem_of_getElem? (i := 1) rfl)))) (fun _ h9 => h9) rfl dX12_faultOf_13 ?_
  refine lv_iconst (v := 3) hx hb dX12_faultOf_16 (by decide) ?_
  refine lv_iload_n hx hb dX12_faultOf_17 rfl (lv_at hl 2 rfl) ?_
  refine lv_imul hx hb dX12_faultOf_18 ?_
  refine lv_topi (fun x_2 ex_2 => ?_)
  have hx_2 := z_mul ex_2 (zk (x := 3) 3 rfl) rfl (by omega) (by omega)
  refine lv_iload_n hx hb dX12_faultOf_19 rfl (lv_at hl 0 rfl) ?_
  refine lv_iadd hx hb dX12_faultOf_20 ?_
  refine lv_topi (fun x_3 ex_3 => ?_)
  have hx_3 := z_add ex_3 rfl (zk (x := 0) 0 rfl) (by omega) (by omega)
  refine tw_iald hx hb hK hT 0 (fx_80 hX) (by decide) cl_e90 rfl (z_in rfl (by omega) (by omega)) dX12_faultOf_21 ?_
  refine tw_iast hx hb hK hT hF hS 0 (fx_92 hX) (by decide) (fun _ => cl_e102) rfl (z_in (zk (x := 0) 0 rfl) (by omega) (by omega)) dX12_faultOf_22 (fun H locs hT hS => ?_)
  obtain ⟨y_4, hy_4, hT⟩ : ∃ z : Nat → Nat → Int32, z = up2 y (a 92) ((0 : Int32).toNatClampNeg) (y (a 80) x_3.toNatClampNeg) ∧ tw (dC, dI) a k τ ln z g H := ⟨_, rfl, hT⟩
  have hG : ag τ [60, 102] y y_4 := by rw [hy_4]; exact hG.up (fx_92 hX) (by decide)
  have hW : IW (u 1) (u 2) (u 9) (y_4 (a 89)) := by rw [hy_4, up2_o (kd_ne (fx_89 hX) (fx_92 hX) (by decide))]; exact hW
  have hI := hI.ag (S := [102]) (y' := y_4) (by rw [hy_4]; exact ag.one (fx_92 hX)) (by decide)
  refine lv_iinc (v := 1) (lv' := [(2, .int 1), (0, .ref (a 50)), (1, .int p0)]) hx hb dX12_faultOf_23 hl (k := 0) rfl (by decide) (by decide) rfl (fun ls hl => ?_)
  refine lv_goto (tgt := 2) hx hb dX12_faultOf_26 (by decide) ?_
  refine lv_iload_n hx hb dX12_faultOf_2 rfl (lv_at hl 0 rfl) ?_
  refine lv_iconst (v := 3) hx hb dX12_faultOf_3 (by decide) ?_
  refine lv_icmp_ge (tgt := 29) hx hb dX12_faultOf_4 (by decide) (fun c_5 => absurd c_5 (by decide)) (fun c_5 => ?_)
  refine lv_aload_n hx hb dX12_faultOf_7 rfl (lv_at hl 1 rfl) ?_
  refine tw_get (D := (dC, dI)) (v := .ref (a 92)) (C := RX12) (T := TX12) (N := 58) hx hb hts (fun _ hh => (List.mem_cons_of_mem _ (List.mem_append_right _ (List.mem_append_left _ hh)))) hown hK hT (fx_50 hX) (by decide) cl_e60 rfl 41 (by decide) (hts (.fieldLink RX12 116 "TypingPoolModel" "values" "[I") (List.mem_cons_of_mem _ (List.mem_append_left _ (List.mem_of_getElem? (i := 0) rfl)))) (fun _ h9 => h9) rfl dX12_faultOf_8 ?_
  refine lv_iload_n hx hb dX12_faultOf_11 rfl (lv_at hl 0 rfl) ?_
  refine lv_aload_n hx hb dX12_faultOf_12 rfl (lv_at hl 1 rfl) ?_
  refine tw_get (D := (dC, dI)) (v := .ref (a 80)) (C := RX12) (T := TX12) (N := 58) hx hb hts (fun _ hh => (List.mem_cons_of_mem _ (List.mem_append_right _ (List.mem_append_left _ hh)))) hown hK hT (fx_50 hX) (by decide) cl_e60 rfl 29 (by decide) (hts (.fieldLink RX12 91 "TypingPoolModel" "told" "[I") (List.mem_cons_of_mem _ (List.mem_append_left _ (List.mem_of_getElem? (i := 1) rfl)))) (fun _ h9 => h9) rfl dX12_faultOf_13 ?_
  refine lv_iconst (v := 3) hx hb dX12_faultOf_16 (by decide) ?_
  refine lv_iload_n hx hb dX12_faultOf_17 rfl (lv_at hl 2 rfl) ?_
  refine lv_imul hx hb dX12_faultOf_18 ?_
  refine lv_topi (fun x_6 ex_6 => ?_)
  have hx_6 := z_mul ex_6 (zk (x := 3) 3 rfl) rfl (by omega) (by omega)
  refine lv_iload_n hx hb dX12_faultOf_19 rfl (lv_at hl 0 rfl) ?_
  refine lv_iadd hx hb dX12_faultOf_20 ?_
  refine lv_topi (fun x_7 ex_7 => ?_)
  have hx_7 := z_add ex_7 rfl (zk (x := 1) 1 rfl) (by omega) (by omega)
  refine tw_iald hx hb hK hT 0 (fx_80 hX) (by decide) cl_e90 rfl (z_in rfl (by omega) (by omega)) dX12_faultOf_21 ?_
  refine tw_iast hx hb hK hT hF hS 0 (fx_92 hX) (by decide) (fun _ => cl_e102) rfl (z_in (zk (x := 1) 1 rfl) (by omega) (by omega)) dX12_faultOf_22 (fun H locs hT hS => ?_)
  obtain ⟨y_8, hy_8, hT⟩ : ∃ z : Nat → Nat → Int32, z = up2 y_4 (a 92) ((1 : Int32).toNatClampNeg) (y_4 (a 80) x_7.toNatClampNeg) ∧ tw (dC, dI) a k τ ln z g H := ⟨_, rfl, hT⟩
  have hG : ag τ [60, 102] y y_8 := by rw [hy_8]; exact hG.up (fx_92 hX) (by decide)
  have hW : IW (u 1) (u 2) (u 9) (y_8 (a 89)) := by rw [hy_8, up2_o (kd_ne (fx_89 hX) (fx_92 hX) (by decide))]; exact hW
  have hI := hI.ag (S := [102]) (y' := y_8) (by rw [hy_8]; exact ag.one (fx_92 hX)) (by decide)
  refine lv_iinc (v := 2) (lv' := [(2, .int 2), (0, .ref (a 50)), (1, .int p0)]) hx hb dX12_faultOf_23 hl (k := 0) rfl (by decide) (by decide) rfl (fun ls hl => ?_)
  refine lv_goto (tgt := 2) hx hb dX12_faultOf_26 (by decide) ?_
  refine lv_iload_n hx hb dX12_faultOf_2 rfl (lv_at hl 0 rfl) ?_
  refine lv_iconst (v := 3) hx hb dX12_faultOf_3 (by decide) ?_
  refine lv_icmp_ge (tgt := 29) hx hb dX12_faultOf_4 (by decide) (fun c_9 => absurd c_9 (by decide)) (fun c_9 => ?_)
  refine lv_aload_n hx hb dX12_faultOf_7 rfl (lv_at hl 1 rfl) ?_
  refine tw_get (D := (dC, dI)) (v := .ref (a 92)) (C := RX12) (T := TX12) (N := 58) hx hb hts (fun _ hh => (List.mem_cons_of_mem _ (List.mem_append_right _ (List.mem_append_left _ hh)))) hown hK hT (fx_50 hX) (by decide) cl_e60 rfl 41 (by decide) (hts (.fieldLink RX12 116 "TypingPoolModel" "values" "[I") (List.mem_cons_of_mem _ (List.mem_append_left _ (List.mem_of_getElem? (i := 0) rfl)))) (fun _ h9 => h9) rfl dX12_faultOf_8 ?_
  refine lv_iload_n hx hb dX12_faultOf_11 rfl (lv_at hl 0 rfl) ?_
  refine lv_aload_n hx hb dX12_faultOf_12 rfl (lv_at hl 1 rfl) ?_
  refine tw_get (D := (dC, dI)) (v := .ref (a 80)) (C := RX12) (T := TX12) (N := 58) hx hb hts (fun _ hh => (List.mem_cons_of_mem _ (List.mem_append_right _ (List.mem_append_left _ hh)))) hown hK hT (fx_50 hX) (by decide) cl_e60 rfl 29 (by decide) (hts (.fieldLink RX12 91 "TypingPoolModel" "told" "[I") (List.mem_cons_of_mem _ (List.mem_append_left _ (List.mem_of_getElem? (i := 1) rfl)))) (fun _ h9 => h9) rfl dX12_faultOf_13 ?_
  refine lv_iconst (v := 3) hx hb dX12_faultOf_16 (by decide) ?_
  refine lv_iload_n hx hb dX12_faultOf_17 rfl (lv_at hl 2 rfl) ?_
  refine lv_imul hx hb dX12_faultOf_18 ?_
  refine lv_topi (fun x_10 ex_10 => ?_)
  have hx_10 := z_mul ex_10 (zk (x := 3) 3 rfl) rfl (by omega) (by omega)
  refine lv_iload_n hx hb dX12_faultOf_19 rfl (lv_at hl 0 rfl) ?_
  refine lv_iadd hx hb dX12_faultOf_20 ?_
  refine lv_topi (fun x_11 ex_11 => ?_)
  have hx_11 := z_add ex_11 rfl (zk (x := 2) 2 rfl) (by omega) (by omega)
  refine tw_iald hx hb hK hT 0 (fx_80 hX) (by decide) cl_e90 rfl (z_in rfl (by omega) (by omega)) dX12_faultOf_21 ?_
  refine tw_iast hx hb hK hT hF hS 0 (fx_92 hX) (by decide) (fun _ => cl_e102) rfl (z_in (zk (x := 2) 2 rfl) (by omega) (by omega)) dX12_faultOf_22 (fun H locs hT hS => ?_)
  obtain ⟨y_12, hy_12, hT⟩ : ∃ z : Nat → Nat → Int32, z = up2 y_8 (a 92) ((2 : Int32).toNatClampNeg) (y_8 (a 80) x_11.toNatClampNeg) ∧ tw (dC, dI) a k τ ln z g H := ⟨_, rfl, hT⟩
  have hG : ag τ [60, 102] y y_12 := by rw [hy_12]; exact hG.up (fx_92 hX) (by decide)
  have hW : IW (u 1) (u 2) (u 9) (y_12 (a 89)) := by rw [hy_12, up2_o (kd_ne (fx_89 hX) (fx_92 hX) (by decide))]; exact hW
  have hI := hI.ag (S := [102]) (y' := y_12) (by rw [hy_12]; exact ag.one (fx_92 hX)) (by decide)
  refine lv_iinc (v := 3) (lv' := [(2, .int 3), (0, .ref (a 50)), (1, .int p0)]) hx hb dX12_faultOf_23 hl (k := 0) rfl (by decide) (by decide) rfl (fun ls hl => ?_)
  refine lv_goto (tgt := 2) hx hb dX12_faultOf_26 (by decide) ?_
  refine lv_iload_n hx hb dX12_faultOf_2 rfl (lv_at hl 0 rfl) ?_
  refine lv_iconst (v := 3) hx hb dX12_faultOf_3 (by decide) ?_
  refine lv_icmp_ge (tgt := 29) hx hb dX12_faultOf_4 (by decide) (fun c_13 => ?_) (fun c_13 => absurd c_13 (by decide))
  refine lv_aload_n hx hb dX12_faultOf_29 rfl (lv_at hl 1 rfl) ?_
  refine tw_get (D := (dC, dI)) (v := .ref (a 92)) (C := RX12) (T := TX12) (N := 58) hx hb hts (fun _ hh => (List.mem_cons_of_mem _ (List.mem_append_right _ (List.mem_append_left _ hh)))) hown hK hT (fx_50 hX) (by decide) cl_e60 rfl 41 (by decide) (hts (.fieldLink RX12 116 "TypingPoolModel" "values" "[I") (List.mem_cons_of_mem _ (List.mem_append_left _ (List.mem_of_getElem? (i := 0) rfl)))) (fun _ h9 => h9) rfl dX12_faultOf_30 ?_
  refine lv_iconst (v := 3) hx hb dX12_faultOf_33 (by decide) ?_
  refine lv_aload_n hx hb dX12_faultOf_34 rfl (lv_at hl 1 rfl) ?_
  refine lv_aload_n hx hb dX12_faultOf_35 rfl (lv_at hl 1 rfl) ?_
  refine tw_get (D := (dC, dI)) (v := .ref (a 77)) (C := RX12) (T := TX12) (N := 58) hx hb hts (fun _ hh => (List.mem_cons_of_mem _ (List.mem_append_right _ (List.mem_append_left _ hh)))) hown hK hT (fx_50 hX) (by decide) cl_e60 rfl 26 (by decide) (hts (.fieldLink RX12 82 "TypingPoolModel" "correctPiece" "[I") (List.mem_cons_of_mem _ (List.mem_append_left _ (List.mem_of_getElem? (i := 2) rfl)))) (fun _ h9 => h9) rfl dX12_faultOf_36 ?_
  refine lv_iload_n hx hb dX12_faultOf_39 rfl (lv_at hl 2 rfl) ?_
  refine tw_iald hx hb hK hT 0 (fx_77 hX) (by decide) cl_e87 rfl (z_in rfl (by omega) (by omega)) dX12_faultOf_40 ?_
  have hv_14 := vb_at (im_a77 hI) (x := p0) rfl (by omega) (by omega)
  refine lv_iconst (v := 4) hx hb dX12_faultOf_41 (by decide) ?_
  have hFc := tw_free hF hS hA
  have hp_15 : (4 : Int32).toInt = 4 := (zk (x := 4) 4 rfl)
  refine va_calli (va_runV (As := [.int (y_12 (a 77) p0.toNatClampNeg), .int 4]) (rest := [.int 3, .ref (a 92)]) ⟨hx, hb, hml, hown, hts⟩ (m_pieceG l dC dI ad av H.size a k τ ln y_12 g u (y_12 (a 77) p0.toNatClampNeg) (4 : Int32) hI (by omega) (by omega) (by decide) (by decide) hW) (cwV 2 hts (gi_4 (List.mem_cons_of_mem _ (List.mem_append_left _ (List.mem_of_getElem? (i := 3) rfl))) (List.mem_cons_of_mem _ (List.mem_append_left _ (List.mem_of_getElem? (i := 4) rfl))) (List.mem_cons_of_mem _ (List.mem_append_left _ (List.mem_of_getElem? (i := 5) rfl))) (List.mem_cons_of_mem _ (List.mem_append_left _ (List.mem_of_getElem? (i := 6) rfl))) (fun _ hh => (List.mem_cons_of_mem _ (List.mem_append_right _ (List.mem_append_right _ (List.mem_append_left _ hh))))) gd_m_pieceG) rfl rfl rfl (by decide +kernel) ⟨Nat.le_of_ble_eq_true rfl, Nat.le_of_ble_eq_true rfl⟩) ⟨pw_blind, tw_recv hK hT (fx_50 hX) (by decide) cl_e60 rfl, pw_use hT hK hFc hS hM⟩ rfl rfl hl.1 rfl (lv_room (Nat.le_of_ble_eq_true rfl)) dX12_faultOf_42 ⟨Nat.le_of_ble_eq_true rfl, Nat.le_of_ble_eq_true rfl⟩) hS (fun q _ h => hFc q h) hFc (fun r0 r_16 t H locs ht hvm hw hB hz1 hk1 hS => ?_)
  refine W.widen (k := 0) (n := 0) (Nat.le_of_ble_eq_true rfl) (Nat.le_of_ble_eq_true rfl) ?_
  clear hvm hz1 hk1
  subst hw
  obtain ⟨hf_17, hT⟩ := hB
  rw [ht] at hT
  try simp only [hp_15] at hf_17
  clear hp_15
  refine tw_iast hx hb hK hT hF hS 0 (fx_92 hX) (by decide) (fun _ => cl_e102) rfl (z_in (zk (x := 3) 3 rfl) (by omega) (by omega)) dX12_faultOf_45 (fun H locs hT hS => ?_)
  obtain ⟨y_18, hy_18, hT⟩ : ∃ z : Nat → Nat → Int32, z = up2 y_12 (a 92) ((3 : Int32).toNatClampNeg) r_16 ∧ tw (dC, dI) a k τ ln z g H := ⟨_, rfl, hT⟩
  have hG : ag τ [60, 102] y y_18 := by rw [hy_18]; exact hG.up (fx_92 hX) (by decide)
  have hW : IW (u 1) (u 2) (u 9) (y_18 (a 89)) := by rw [hy_18, up2_o (kd_ne (fx_89 hX) (fx_92 hX) (by decide))]; exact hW
  have hI := hI.ag (S := [102]) (y' := y_18) (by rw [hy_18]; exact ag.one (fx_92 hX)) (by decide)
  refine lv_aload_n hx hb dX12_faultOf_46 rfl (lv_at hl 1 rfl) ?_
  refine lv_iconst (v := 2) hx hb dX12_faultOf_47 (by decide) ?_
  refine lv_aload_n hx hb dX12_faultOf_48 rfl (lv_at hl 1 rfl) ?_
  refine tw_get (D := (dC, dI)) (v := .ref (a 78)) (C := RX12) (T := TX12) (N := 58) hx hb hts (fun _ hh => (List.mem_cons_of_mem _ (List.mem_append_right _ (List.mem_append_left _ hh)))) hown hK hT (fx_50 hX) (by decide) cl_e60 rfl 27 (by decide) (hts (.fieldLink RX12 85 "TypingPoolModel" "correctDay" "[I") (List.mem_cons_of_mem _ (List.mem_append_left _ (List.mem_of_getElem? (i := 7) rfl)))) (fun _ h9 => h9) rfl dX12_faultOf_49 ?_
  refine lv_iload_n hx hb dX12_faultOf_52 rfl (lv_at hl 2 rfl) ?_
  refine tw_iald hx hb hK hT 0 (fx_78 hX) (by decide) cl_e88 rfl (z_in rfl (by omega) (by omega)) dX12_faultOf_53 ?_
  have hFc := tw_free hF hS hA
  have hp_19 : (2 : Int32).toInt = 2 := (zk (x := 2) 2 rfl)
  refine va_calli (va_runV (As := [.int 2, .int (y_18 (a 78) p0.toNatClampNeg)]) (rest := []) ⟨hx, hb, hml, hown, hts⟩ (m_asks l dC dI ad av H.size a k τ ln y_18 g u (2 : Int32) (y_18 (a 78) p0.toNatClampNeg) hI (by decide) (by decide) hW) (cwV 2 hts (gi_4 (List.mem_cons_of_mem _ (List.mem_append_left _ (List.mem_of_getElem? (i := 8) rfl))) (List.mem_cons_of_mem _ (List.mem_append_left _ (List.mem_of_getElem? (i := 9) rfl))) (List.mem_cons_of_mem _ (List.mem_append_left _ (List.mem_of_getElem? (i := 10) rfl))) (List.mem_cons_of_mem _ (List.mem_append_left _ (List.mem_of_getElem? (i := 6) rfl))) (fun _ hh => (List.mem_cons_of_mem _ (List.mem_append_right _ (List.mem_append_right _ (List.mem_append_right _ (List.mem_append_left _ hh)))))) gd_m_asks) rfl rfl rfl (by decide +kernel) ⟨Nat.le_of_ble_eq_true rfl, Nat.le_of_ble_eq_true rfl⟩) ⟨pw_blind, tw_recv hK hT (fx_50 hX) (by decide) cl_e60 rfl, pw_use hT hK hFc hS hM⟩ rfl rfl hl.1 rfl (lv_room (Nat.le_of_ble_eq_true rfl)) dX12_faultOf_54 ⟨Nat.le_of_ble_eq_true rfl, Nat.le_of_ble_eq_true rfl⟩) hS (fun q _ h => hFc q h) hFc (fun r0 r_20 t H locs ht hvm hw hB hz1 hk1 hS => ?_)
  refine W.widen (k := 0) (n := 0) (Nat.le_of_ble_eq_true rfl) (Nat.le_of_ble_eq_true rfl) ?_
  clear hvm hz1 hk1
  subst hw
  obtain ⟨y_21, g_22, hgy_21, hggg_22, hI, hf_23, hT⟩ := hB
  rw [ht] at hT
  have hG := hG.tr hgy_21 (by decide)
  have hGg := hGg.tr hggg_22
  have hW : IW (u 1) (u 2) (u 9) (y_21 (a 89)) := by rw [hgy_21.at (fx_89 hX) (by decide)]; exact hW
  try simp only [hp_19] at hf_23
  clear hp_19
  refine lv_istore_n (lv' := [(2, .int r_20), (0, .ref (a 50)), (1, .int p0)]) hx hb dX12_faultOf_57 rfl hl (by decide) rfl (fun ls hl => ?_)
  refine lv_iload_n hx hb dX12_faultOf_58 rfl (lv_at hl 0 rfl) ?_
  refine lv_iconst (v := 1) hx hb dX12_faultOf_59 (by decide) ?_
  refine lv_icmp_eq (tgt := 68) hx hb dX12_faultOf_60 (by decide) (fun c_24 => ?_) (fun c_24 => ?_)
  · have nc_24 := z_eq rfl (zk (x := 1) 1 rfl) c_24
    refine lv_iload_n hx hb dX12_faultOf_68 rfl (lv_at hl 0 rfl) ?_
    refine lv_goto (tgt := 73) hx hb dX12_faultOf_69 (by decide) ?_
    exact W.iret (v := r_20) hx hb hr (fun t ht hW9 => ⟨⟨r_20, r_20, rfl, rfl, ⟨y_21, g_22, hG, hGg, hI, tw_at ht hT⟩⟩, hS.F ht⟩) hS.2.2 dX12_faultOf_73
  · have nc_24 := z_ne rfl (zk (x := 1) 1 rfl) c_24
    refine lv_iload_n hx hb dX12_faultOf_63 rfl (lv_at hl 0 rfl) ?_
    refine lv_iconst (v := 2) hx hb dX12_faultOf_64 (by decide) ?_
    refine lv_icmp_ne (tgt := 72) hx hb dX12_faultOf_65 (by decide) (fun c_25 => ?_) (fun c_25 => ?_)
    · have nc_25 := z_ne rfl (zk (x := 2) 2 rfl) c_25
      refine lv_iconst (v := 0) hx hb dX12_faultOf_72 (by decide) ?_
      exact W.iret (v := 0) hx hb hr (fun t ht hW9 => ⟨⟨0, 0, rfl, rfl, ⟨y_21, g_22, hG, hGg, hI, tw_at ht hT⟩⟩, hS.F ht⟩) hS.2.2 dX12_faultOf_73
    · have nc_25 := z_eq rfl (zk (x := 2) 2 rfl) c_25
      refine lv_iload_n hx hb dX12_faultOf_68 rfl (lv_at hl 0 rfl) ?_
      refine lv_goto (tgt := 73) hx hb dX12_faultOf_69 (by decide) ?_
      exact W.iret (v := r_20) hx hb hr (fun t ht hW9 => ⟨⟨r_20, r_20, rfl, rfl, ⟨y_21, g_22, hG, hGg, hI, tw_at ht hT⟩⟩, hS.F ht⟩) hS.2.2 dX12_faultOf_73
def wo_m_payOf : List Cond := [.methodLink RX12 261 yX12_piece, .instanceMethod yX12_piece, .selects RX12 yX12_piece yX12_piece, .initialized RX12, .fieldLink RX12 321 "TypingPoolModel" "corrections" "I", .fieldLink RX12 116 "TypingPoolModel" "values" "[I", .fieldLink RX12 37 "TypingPoolModel" "lines" "[I", .fieldLink RX12 55 "TypingPoolModel" "copies" "[I", .fieldLink RX12 40 "TypingPoolModel" "secret" "[I", .methodLink RX12 318 yX12_late, .instanceMethod yX12_late, .selects RX12 yX12_late yX12_late, .methodLink RX12 278 yX12_asks, .instanceMethod yX12_asks, .selects RX12 yX12_asks yX12_asks, .fieldLink RX12 82 "TypingPoolModel" "correctPiece" "[I", .methodLink RX12 330 yX12_isKnown, .instanceMethod yX12_isKnown, .selects RX12 yX12_isKnown yX12_isKnown, .methodLink RX12 333 yX12_faultOf, .instanceMethod yX12_faultOf, .selects RX12 yX12_faultOf yX12_faultOf]
def wm_m_payOf : List Cond := .code yX12_payOf cX12_payOf 4 (some .int) :: (wo_m_payOf ++ (wm_m_pieceG ++ (wsX120 ++ (wm_m_late ++ (wm_m_asks ++ (wm_m_isKnown ++ (wm_m_faultOf ++ ([] : List Cond))))))))
theorem gd_m_payOf : ∀ w ∈ wm_m_payOf, goodWord w = true := gd_c rfl (gd_a (by decide) (gd_a gd_m_pieceG (gd_a gd_wsX120 (gd_a gd_m_late (gd_a gd_m_asks (gd_a gd_m_isKnown (gd_a gd_m_faultOf gd_nil)))))))
set_option maxRecDepth 20000 in
theorem im_m_payOf : ∀ w ∈ wm_m_payOf, w ∈ lw_tbl := im_c (in_r [.code yX12_payOf cX12_payOf 4 (some .int)] [1659] (by decide +kernel)) (in_app (in_r wo_m_payOf [1556, 1558, 50, 86, 1271, 1282, 1253, 1259, 1254, 1600, 1602, 56, 1564, 1566, 52, 1267, 1640, 1642, 58, 1644, 1646, 59] (by decide +kernel)) (in_app im_m_pieceG (in_app im_wsX120 (in_app im_m_late (in_app im_m_asks (in_app im_m_isKnown (in_app im_m_faultOf im_nil)))))))
set_option maxHeartbeats 4000000 in
set_option maxRecDepth 100000 in
theorem m_payOf (l : Launch) (dC : Nat → ClassId) (dI : Nat → Nat → Nat) (ad av : Nat → Nat) (sz : Nat) (a : Nat → Nat) (k : Nat → ClassId) (τ ln : Nat → Nat) (y : Nat → Nat → Int32) (g : Nat → Nat → Option Nat) (u : Nat → Int) (p0 : Int32) (hI : IM a u τ y) (hlp0 : 0 ≤ p0.toInt) (hup0 : p0.toInt < u 2) (hW : IW (u 1) (u 2) (u 9) (y (a 89))) : Met l yX12_payOf wm_m_payOf ({ frames := 386, cells := 0, slots := 0, locals := 25280 }) (pw_ ad av (dC, dI) sz [.ref (a 50), .int p0] a k τ ln y g) (va_Qi (fun (r u : Int32) => u = r) (fun (r : Int32) (t : State) => (∃ (y' : Nat → Nat → Int32) (g' : Nat → Nat → Option Nat), ag τ [60, 102] y y' ∧ agg τ g g' ∧ IM a u τ y' ∧ tw (dC, dI) a k τ ln y' g' t.heap)) (fr τ sz)) 0 0 (fr τ sz) := by
  refine Met.ofW (cc := cX12_payOf) (maxL := 4) (ret := (some .int)) (by decide) rfl ?_
  intro p e s m args below meth c s₁ B hml hv
  obtain ⟨rfl, hsz, hT, hK, hM⟩ := hv
  have hx := B.exec
  have hb := B.bytes
  have hr := B.returns
  have hts := atoms_spec (ws := wm_m_payOf) B.pre
  have hown : s.vm.findClass RX12 = some m.cls := findClass_of_methodNamed B.named
  have hlocks := B.notSynchronized
  subst hsz
  generalize hAe : fr τ s.heap.size = A at hM ⊢
  have hA : ∀ q : Nat, s.heap.size ≤ q → A q := fun q h => by rw [← hAe]; exact Or.inr h
  have hF : ∀ q, τ q ≠ 0 → A q := fun q h => by rw [← hAe]; exact Or.inl h
  have hS : va_S A s.heap s.heap [] := va_S.rf
  have hX := hI.1
  have hR := im_r hI
  have hG : ag τ [60, 102] y y := ag.rf
  have hGg : agg τ g g := agg.rf
  have hl := lv_entry ([.ref (a 50), .int p0]) (n := 4) (Nat.le_of_ble_eq_true rfl)
  rw [lg_entry_eq]
  generalize (lg_sl ([.ref (a 50), .int p0]) ++ List.replicate (4 - (lg_sl ([.ref (a 50), .int p0])).length) Slot.unset).toArray = ls at hl ⊢
  have hl : lv_has ls 4 [(0, .ref (a 50)), (1, .int p0)] := hl
  refine lv_aload_n hx hb dX12_payOf_0 rfl (lv_at hl 0 rfl) ?_
  refine lv_iload_n hx hb dX12_payOf_1 rfl (lv_at hl 1 rfl) ?_
  refine lv_iconst (v := 2) hx hb dX12_payOf_2 (by decide) ?_
  have hFc := tw_free hF hS hA
  have hp_1 : (2 : Int32).toInt = 2 := (zk (x := 2) 2 rfl)
  refine va_calli (va_runV (As := [.int p0, .int 2]) (rest := []) ⟨hx, hb, hml, hown, hts⟩ (m_pieceG l dC dI ad av s.heap.size a k τ ln y g u p0 (2 : Int32) hI (by omega) (by omega) (by decide) (by decide) hW) (cwV 2 hts (gi_4 (List.mem_cons_of_mem _ (List.mem_append_left _ (List.mem_of_getElem? (i := 0) rfl))) (List.mem_cons_of_mem _ (List.mem_append_left _ (List.mem_of_getElem? (i := 1) rfl))) (List.mem_cons_of_mem _ (List.mem_append_left _ (List.mem_of_getElem? (i := 2) rfl))) (List.mem_cons_of_mem _ (List.mem_append_left _ (List.mem_of_getElem? (i := 3) rfl))) (fun _ hh => (List.mem_cons_of_mem _ (List.mem_append_right _ (List.mem_append_left _ hh)))) gd_m_pieceG) rfl rfl rfl (by decide +kernel) ⟨Nat.le_of_ble_eq_true rfl, Nat.le_of_ble_eq_true rfl⟩) ⟨pw_blind, tw_recv hK hT (fx_50 hX) (by decide) cl_e60 rfl, pw_use hT hK hFc hS hM⟩ rfl rfl hl.1 rfl (lv_room (Nat.le_of_ble_eq_true rfl)) dX12_payOf_3 ⟨Nat.le_of_ble_eq_true rfl, Nat.le_of_ble_eq_true rfl⟩) hS (fun q _ h => hFc q h) hFc (fun r0 r_2 t H locs ht hvm hw hB hz1 hk1 hS => ?_)
  refine W.widen (k := 0) (n := 0) (Nat.le_of_ble_eq_true rfl) (Nat.le_of_ble_eq_true rfl) ?_
  clear hvm hz1 hk1
  subst hw
  obtain ⟨hf_3, hT⟩ := hB
  rw [ht] at hT
  try simp only [hp_1] at hf_3
  clear hp_1
  refine lv_iconst (v := (-1)) hx hb dX12_payOf_6 (by decide) ?_
  refine lv_icmp_ne (tgt := 12) hx hb dX12_payOf_7 (by decide) (fun c_4 => ?_) (fun c_4 => ?_)
  · have nc_4 := z_ne rfl (zk (x := (-1)) (-1) rfl) c_4
    refine lv_iconst (v := 0) hx hb dX12_payOf_12 (by decide) ?_
    refine lv_istore_n (lv' := [(2, .int 0), (0, .ref (a 50)), (1, .int p0)]) hx hb dX12_payOf_13 rfl hl (by decide) rfl (fun ls hl => ?_)
    refine lv_iconst (v := 0) hx hb dX12_payOf_14 (by decide) ?_
    refine lv_istore_n (lv' := [(3, .int 0), (2, .int 0), (0, .ref (a 50)), (1, .int p0)]) hx hb dX12_payOf_15 rfl hl (by decide) rfl (fun ls hl => ?_)
    have loop_16 : ∀ (n : Nat) (w2 : Int32) (i3 : Int32) (y_L16 : Nat → Nat → Int32) (g_L16 : Nat → Nat → Option Nat) (H : Heap) (locs : List Loc) (ls : Array Slot), (u 5 - i3.toInt).toNat < n → ag τ [60, 102] y y_L16 → IM a u τ y_L16 → agg τ g g_L16 → IW (u 1) (u 2) (u 9) (y_L16 (a 89)) → 0 ≤ i3.toInt → i3.toInt ≤ u 5 → tw (dC, dI) a k τ ln y_L16 g_L16 H → va_S A s.heap H locs → lv_has ls 4 [(0, .ref (a 50)), (1, .int p0), (2, .int w2), (3, .int i3)] → W p l e (headSpec wm_m_payOf ({ frames := 386, cells := 0, slots := 0, locals := 25280 })).room s m ([.ref (a 50), .int p0] : List Value).toArray below meth c H locs 0 0 (MQ below (va_Qi (fun (r u : Int32) => u = r) (fun (r : Int32) (t : State) => (∃ (y' : Nat → Nat → Int32) (g' : Nat → Nat → Option Nat), ag τ [60, 102] y y' ∧ agg τ g g' ∧ IM a u τ y' ∧ tw (dC, dI) a k τ ln y' g' t.heap)) A) ([.ref (a 50), .int p0] : List Value).toArray s 0 0 A) (F0 m 16 ls []) := by
      intro n
      induction n with
      | zero => intro w2 i3 y_L16 g_L16 H locs ls hlt; exact absurd hlt (Nat.not_lt_zero _)
      | succ n ih_16 =>
        intro w2 i3 y_L16 g_L16 H locs ls hlt hG hI hGg hW hi16_0 hi16_1 hT hS hl
        refine lv_iload_n hx hb dX12_payOf_16 rfl (lv_at hl 3 rfl) ?_
        refine lv_aload_n hx hb dX12_payOf_17 rfl (lv_at hl 0 rfl) ?_
        refine tw_get (D := (dC, dI)) (v := .int (y_L16 (a 50) 30)) (C := RX12) (T := TX12) (N := 58) hx hb hts (fun _ hh => (List.mem_cons_of_mem _ (List.mem_append_right _ (List.mem_append_right _ (List.mem_append_left _ hh))))) hown hK hT (fx_50 hX) (by decide) cl_e60 rfl 30 (by decide) (hts (.fieldLink RX12 321 "TypingPoolModel" "corrections" "I") (List.mem_cons_of_mem _ (List.mem_append_left _ (List.mem_of_getElem? (i := 4) rfl)))) (fun _ h9 => h9) rfl dX12_payOf_18 ?_
        have hc_5 := im_5 hI
        refine lv_icmp_ge (tgt := 60) hx hb dX12_payOf_21 (by decide) (fun c_6 => ?_) (fun c_6 => ?_)
        · have nc_6 := z_le hc_5 rfl c_6
          refine lv_aload_n hx hb dX12_payOf_60 rfl (lv_at hl 0 rfl) ?_
          refine tw_get (D := (dC, dI)) (v := .ref (a 92)) (C := RX12) (T := TX12) (N := 58) hx hb hts (fun _ hh => (List.mem_cons_of_mem _ (List.mem_append_right _ (List.mem_append_right _ (List.mem_append_left _ hh))))) hown hK hT (fx_50 hX) (by decide) cl_e60 rfl 41 (by decide) (hts (.fieldLink RX12 116 "TypingPoolModel" "values" "[I") (List.mem_cons_of_mem _ (List.mem_append_left _ (List.mem_of_getElem? (i := 5) rfl)))) (fun _ h9 => h9) rfl dX12_payOf_61 ?_
          refine lv_iconst (v := 0) hx hb dX12_payOf_64 (by decide) ?_
          refine lv_aload_n hx hb dX12_payOf_65 rfl (lv_at hl 0 rfl) ?_
          refine tw_get (D := (dC, dI)) (v := .ref (a 63)) (C := RX12) (T := TX12) (N := 58) hx hb hts (fun _ hh => (List.mem_cons_of_mem _ (List.mem_append_right _ (List.mem_append_right _ (List.mem_append_left _ hh))))) hown hK hT (fx_50 hX) (by decide) cl_e60 rfl 12 (by decide) (hts (.fieldLink RX12 37 "TypingPoolModel" "lines" "[I") (List.mem_cons_of_mem _ (List.mem_append_left _ (List.mem_of_getElem? (i := 6) rfl)))) (fun _ h9 => h9) rfl dX12_payOf_66 ?_
          refine lv_iload_n hx hb dX12_payOf_69 rfl (lv_at hl 1 rfl) ?_
          refine tw_iald hx hb hK hT 0 (fx_63 hX) (by decide) cl_e73 rfl (z_in rfl (by omega) (by omega)) dX12_payOf_70 ?_
          have hv_7 := vb_at (im_a63 hI) (x := p0) rfl (by omega) (by omega)
          refine tw_iast hx hb hK hT hF hS 0 (fx_92 hX) (by decide) (fun _ => cl_e102) rfl (z_in (zk (x := 0) 0 rfl) (by omega) (by omega)) dX12_payOf_71 (fun H locs hT hS => ?_)
          obtain ⟨y_8, hy_8, hT⟩ : ∃ z : Nat → Nat → Int32, z = up2 y_L16 (a 92) ((0 : Int32).toNatClampNeg) (y_L16 (a 63) p0.toNatClampNeg) ∧ tw (dC, dI) a k τ ln z g_L16 H := ⟨_, rfl, hT⟩
          have hG : ag τ [60, 102] y y_8 := by rw [hy_8]; exact hG.up (fx_92 hX) (by decide)
          have hW : IW (u 1) (u 2) (u 9) (y_8 (a 89)) := by rw [hy_8, up2_o (kd_ne (fx_89 hX) (fx_92 hX) (by decide))]; exact hW
          have hI := hI.ag (S := [102]) (y' := y_8) (by rw [hy_8]; exact ag.one (fx_92 hX)) (by decide)
          clear hc_5
          refine lv_aload_n hx hb dX12_payOf_72 rfl (lv_at hl 0 rfl) ?_
          refine tw_get (D := (dC, dI)) (v := .ref (a 92)) (C := RX12) (T := TX12) (N := 58) hx hb hts (fun _ hh => (List.mem_cons_of_mem _ (List.mem_append_right _ (List.mem_append_right _ (List.mem_append_left _ hh))))) hown hK hT (fx_50 hX) (by decide) cl_e60 rfl 41 (by decide) (hts (.fieldLink RX12 116 "TypingPoolModel" "values" "[I") (List.mem_cons_of_mem _ (List.mem_append_left _ (List.mem_of_getElem? (i := 5) rfl)))) (fun _ h9 => h9) rfl dX12_payOf_73 ?_
          refine lv_iconst (v := 1) hx hb dX12_payOf_76 (by decide) ?_
          refine lv_aload_n hx hb dX12_payOf_77 rfl (lv_at hl 0 rfl) ?_
          refine tw_get (D := (dC, dI)) (v := .ref (a 69)) (C := RX12) (T := TX12) (N := 58) hx hb hts (fun _ hh => (List.mem_cons_of_mem _ (List.mem_append_right _ (List.mem_append_right _ (List.mem_append_left _ hh))))) hown hK hT (fx_50 hX) (by decide) cl_e60 rfl 18 (by decide) (hts (.fieldLink RX12 55 "TypingPoolModel" "copies" "[I") (List.mem_cons_of_mem _ (List.mem_append_left _ (List.mem_of_getElem? (i := 7) rfl)))) (fun _ h9 => h9) rfl dX12_payOf_78 ?_
          refine lv_iload_n hx hb dX12_payOf_81 rfl (lv_at hl 1 rfl) ?_
          refine tw_iald hx hb hK hT 0 (fx_69 hX) (by decide) cl_e79 rfl (z_in rfl (by omega) (by omega)) dX12_payOf_82 ?_
          have hv_9 := vb_at (im_a69 hI) (x := p0) rfl (by omega) (by omega)
          refine tw_iast hx hb hK hT hF hS 0 (fx_92 hX) (by decide) (fun _ => cl_e102) rfl (z_in (zk (x := 1) 1 rfl) (by omega) (by omega)) dX12_payOf_83 (fun H locs hT hS => ?_)
          obtain ⟨y_10, hy_10, hT⟩ : ∃ z : Nat → Nat → Int32, z = up2 y_8 (a 92) ((1 : Int32).toNatClampNeg) (y_8 (a 69) p0.toNatClampNeg) ∧ tw (dC, dI) a k τ ln z g_L16 H := ⟨_, rfl, hT⟩
          have hG : ag τ [60, 102] y y_10 := by rw [hy_10]; exact hG.up (fx_92 hX) (by decide)
          have hW : IW (u 1) (u 2) (u 9) (y_10 (a 89)) := by rw [hy_10, up2_o (kd_ne (fx_89 hX) (fx_92 hX) (by decide))]; exact hW
          have hI := hI.ag (S := [102]) (y' := y_10) (by rw [hy_10]; exact ag.one (fx_92 hX)) (by decide)
          refine lv_aload_n hx hb dX12_payOf_84 rfl (lv_at hl 0 rfl) ?_
          refine tw_get (D := (dC, dI)) (v := .ref (a 92)) (C := RX12) (T := TX12) (N := 58) hx hb hts (fun _ hh => (List.mem_cons_of_mem _ (List.mem_append_right _ (List.mem_append_right _ (List.mem_append_left _ hh))))) hown hK hT (fx_50 hX) (by decide) cl_e60 rfl 41 (by decide) (hts (.fieldLink RX12 116 "TypingPoolModel" "values" "[I") (List.mem_cons_of_mem _ (List.mem_append_left _ (List.mem_of_getElem? (i := 5) rfl)))) (fun _ h9 => h9) rfl dX12_payOf_85 ?_
          refine lv_iconst (v := 2) hx hb dX12_payOf_88 (by decide) ?_
          refine lv_aload_n hx hb dX12_payOf_89 rfl (lv_at hl 0 rfl) ?_
          refine tw_get (D := (dC, dI)) (v := .ref (a 64)) (C := RX12) (T := TX12) (N := 58) hx hb hts (fun _ hh => (List.mem_cons_of_mem _ (List.mem_append_right _ (List.mem_append_right _ (List.mem_append_left _ hh))))) hown hK hT (fx_50 hX) (by decide) cl_e60 rfl 13 (by decide) (hts (.fieldLink RX12 40 "TypingPoolModel" "secret" "[I") (List.mem_cons_of_mem _ (List.mem_append_left _ (List.mem_of_getElem? (i := 8) rfl)))) (fun _ h9 => h9) rfl dX12_payOf_90 ?_
          refine lv_iload_n hx hb dX12_payOf_93 rfl (lv_at hl 1 rfl) ?_
          refine tw_iald hx hb hK hT 0 (fx_64 hX) (by decide) cl_e74 rfl (z_in rfl (by omega) (by omega)) dX12_payOf_94 ?_
          refine tw_iast hx hb hK hT hF hS 0 (fx_92 hX) (by decide) (fun _ => cl_e102) rfl (z_in (zk (x := 2) 2 rfl) (by omega) (by omega)) dX12_payOf_95 (fun H locs hT hS => ?_)
          obtain ⟨y_11, hy_11, hT⟩ : ∃ z : Nat → Nat → Int32, z = up2 y_10 (a 92) ((2 : Int32).toNatClampNeg) (y_10 (a 64) p0.toNatClampNeg) ∧ tw (dC, dI) a k τ ln z g_L16 H := ⟨_, rfl, hT⟩
          have hG : ag τ [60, 102] y y_11 := by rw [hy_11]; exact hG.up (fx_92 hX) (by decide)
          have hW : IW (u 1) (u 2) (u 9) (y_11 (a 89)) := by rw [hy_11, up2_o (kd_ne (fx_89 hX) (fx_92 hX) (by decide))]; exact hW
          have hI := hI.ag (S := [102]) (y' := y_11) (by rw [hy_11]; exact ag.one (fx_92 hX)) (by decide)
          refine lv_aload_n hx hb dX12_payOf_96 rfl (lv_at hl 0 rfl) ?_
          refine tw_get (D := (dC, dI)) (v := .ref (a 92)) (C := RX12) (T := TX12) (N := 58) hx hb hts (fun _ hh => (List.mem_cons_of_mem _ (List.mem_append_right _ (List.mem_append_right _ (List.mem_append_left _ hh))))) hown hK hT (fx_50 hX) (by decide) cl_e60 rfl 41 (by decide) (hts (.fieldLink RX12 116 "TypingPoolModel" "values" "[I") (List.mem_cons_of_mem _ (List.mem_append_left _ (List.mem_of_getElem? (i := 5) rfl)))) (fun _ h9 => h9) rfl dX12_payOf_97 ?_
          refine lv_iconst (v := 3) hx hb dX12_payOf_100 (by decide) ?_
          refine lv_aload_n hx hb dX12_payOf_101 rfl (lv_at hl 0 rfl) ?_
          refine lv_iload_n hx hb dX12_payOf_102 rfl (lv_at hl 1 rfl) ?_
          have hFc := tw_free hF hS hA
          refine va_calli (va_runV (As := [.int p0]) (rest := [.int 3, .ref (a 92)]) ⟨hx, hb, hml, hown, hts⟩ (m_late l dC dI ad av H.size a k τ ln y_11 g_L16 u p0 hI (by omega) (by omega) hW) (cwV 1 hts (gi_4 (List.mem_cons_of_mem _ (List.mem_append_left _ (List.mem_of_getElem? (i := 9) rfl))) (List.mem_cons_of_mem _ (List.mem_append_left _ (List.mem_of_getElem? (i := 10) rfl))) (List.mem_cons_of_mem _ (List.mem_append_left _ (List.mem_of_getElem? (i := 11) rfl))) (List.mem_cons_of_mem _ (List.mem_append_left _ (List.mem_of_getElem? (i := 3) rfl))) (fun _ hh => (List.mem_cons_of_mem _ (List.mem_append_right _ (List.mem_append_right _ (List.mem_append_right _ (List.mem_append_left _ hh)))))) gd_m_late) rfl rfl rfl (by decide +kernel) ⟨Nat.le_of_ble_eq_true rfl, Nat.le_of_ble_eq_true rfl⟩) ⟨pw_blind, tw_recv hK hT (fx_50 hX) (by decide) cl_e60 rfl, pw_use hT hK hFc hS hM⟩ rfl rfl hl.1 rfl (lv_room (Nat.le_of_ble_eq_true rfl)) dX12_payOf_103 ⟨Nat.le_of_ble_eq_true rfl, Nat.le_of_ble_eq_true rfl⟩) hS (fun q _ h => hFc q h) hFc (fun r0 r_12 t H locs ht hvm hw hB hz1 hk1 hS => ?_)
          refine W.widen (k := 0) (n := 0) (Nat.le_of_ble_eq_true rfl) (Nat.le_of_ble_eq_true rfl) ?_
          clear hvm hz1 hk1
          subst hw
          have hT := hB
          rw [ht] at hT
          refine tw_iast hx hb hK hT hF hS 0 (fx_92 hX) (by decide) (fun _ => cl_e102) rfl (z_in (zk (x := 3) 3 rfl) (by omega) (by omega)) dX12_payOf_106 (fun H locs hT hS => ?_)
          obtain ⟨y_13, hy_13, hT⟩ : ∃ z : Nat → Nat → Int32, z = up2 y_11 (a 92) ((3 : Int32).toNatClampNeg) r_12 ∧ tw (dC, dI) a k τ ln z g_L16 H := ⟨_, rfl, hT⟩
          have hG : ag τ [60, 102] y y_13 := by rw [hy_13]; exact hG.up (fx_92 hX) (by decide)
          have hW : IW (u 1) (u 2) (u 9) (y_13 (a 89)) := by rw [hy_13, up2_o (kd_ne (fx_89 hX) (fx_92 hX) (by decide))]; exact hW
          have hI := hI.ag (S := [102]) (y' := y_13) (by rw [hy_13]; exact ag.one (fx_92 hX)) (by decide)
          refine lv_aload_n hx hb dX12_payOf_107 rfl (lv_at hl 0 rfl) ?_
          refine tw_get (D := (dC, dI)) (v := .ref (a 92)) (C := RX12) (T := TX12) (N := 58) hx hb hts (fun _ hh => (List.mem_cons_of_mem _ (List.mem_append_right _ (List.mem_append_right _ (List.mem_append_left _ hh))))) hown hK hT (fx_50 hX) (by decide) cl_e60 rfl 41 (by decide) (hts (.fieldLink RX12 116 "TypingPoolModel" "values" "[I") (List.mem_cons_of_mem _ (List.mem_append_left _ (List.mem_of_getElem? (i := 5) rfl)))) (fun _ h9 => h9) rfl dX12_payOf_108 ?_
          refine lv_iconst (v := 4) hx hb dX12_payOf_111 (by decide) ?_
          refine lv_iload_n hx hb dX12_payOf_112 rfl (lv_at hl 2 rfl) ?_
          refine tw_iast hx hb hK hT hF hS 0 (fx_92 hX) (by decide) (fun _ => cl_e102) rfl (z_in (zk (x := 4) 4 rfl) (by omega) (by omega)) dX12_payOf_113 (fun H locs hT hS => ?_)
          obtain ⟨y_14, hy_14, hT⟩ : ∃ z : Nat → Nat → Int32, z = up2 y_13 (a 92) ((4 : Int32).toNatClampNeg) w2 ∧ tw (dC, dI) a k τ ln z g_L16 H := ⟨_, rfl, hT⟩
          have hG : ag τ [60, 102] y y_14 := by rw [hy_14]; exact hG.up (fx_92 hX) (by decide)
          have hW : IW (u 1) (u 2) (u 9) (y_14 (a 89)) := by rw [hy_14, up2_o (kd_ne (fx_89 hX) (fx_92 hX) (by decide))]; exact hW
          have hI := hI.ag (S := [102]) (y' := y_14) (by rw [hy_14]; exact ag.one (fx_92 hX)) (by decide)
          refine lv_aload_n hx hb dX12_payOf_114 rfl (lv_at hl 0 rfl) ?_
          refine lv_iconst (v := 3) hx hb dX12_payOf_115 (by decide) ?_
          refine lv_aload_n hx hb dX12_payOf_116 rfl (lv_at hl 0 rfl) ?_
          refine lv_iload_n hx hb dX12_payOf_117 rfl (lv_at hl 1 rfl) ?_
          refine lv_iconst (v := 2) hx hb dX12_payOf_118 (by decide) ?_
          have hFc := tw_free hF hS hA
          have hp_15 : (2 : Int32).toInt = 2 := (zk (x := 2) 2 rfl)
          refine va_calli (va_runV (As := [.int p0, .int 2]) (rest := [.int 3, .ref (a 50)]) ⟨hx, hb, hml, hown, hts⟩ (m_pieceG l dC dI ad av H.size a k τ ln y_14 g_L16 u p0 (2 : Int32) hI (by omega) (by omega) (by decide) (by decide) hW) (cwV 2 hts (gi_4 (List.mem_cons_of_mem _ (List.mem_append_left _ (List.mem_of_getElem? (i := 0) rfl))) (List.mem_cons_of_mem _ (List.mem_append_left _ (List.mem_of_getElem? (i := 1) rfl))) (List.mem_cons_of_mem _ (List.mem_append_left _ (List.mem_of_getElem? (i := 2) rfl))) (List.mem_cons_of_mem _ (List.mem_append_left _ (List.mem_of_getElem? (i := 3) rfl))) (fun _ hh => (List.mem_cons_of_mem _ (List.mem_append_right _ (List.mem_append_left _ hh)))) gd_m_pieceG) rfl rfl rfl (by decide +kernel) ⟨Nat.le_of_ble_eq_true rfl, Nat.le_of_ble_eq_true rfl⟩) ⟨pw_blind, tw_recv hK hT (fx_50 hX) (by decide) cl_e60 rfl, pw_use hT hK hFc hS hM⟩ rfl rfl hl.1 rfl (lv_room (Nat.le_of_ble_eq_true rfl)) dX12_payOf_119 ⟨Nat.le_of_ble_eq_true rfl, Nat.le_of_ble_eq_true rfl⟩) hS (fun q _ h => hFc q h) hFc (fun r0 r_16 t H locs ht hvm hw hB hz1 hk1 hS => ?_)
          refine W.widen (k := 0) (n := 0) (Nat.le_of_ble_eq_true rfl) (Nat.le_of_ble_eq_true rfl) ?_
          clear hvm hz1 hk1
          subst hw
          obtain ⟨hf_17, hT⟩ := hB
          rw [ht] at hT
          try simp only [hp_15] at hf_17
          clear hp_15
          refine lv_sipush (v := 480) hx hb dX12_payOf_122 (by decide) ?_
          refine lv_idiv hx hb dX12_payOf_125 (by decide) ?_
          refine lv_topi (fun x_18 ex_18 => ?_)
          have hFc := tw_free hF hS hA
          have hp_19 : (3 : Int32).toInt = 3 := (zk (x := 3) 3 rfl)
          refine va_calli (va_runV (As := [.int 3, .int x_18]) (rest := []) ⟨hx, hb, hml, hown, hts⟩ (m_asks l dC dI ad av H.size a k τ ln y_14 g_L16 u (3 : Int32) x_18 hI (by decide) (by decide) hW) (cwV 2 hts (gi_4 (List.mem_cons_of_mem _ (List.mem_append_left _ (List.mem_of_getElem? (i := 12) rfl))) (List.mem_cons_of_mem _ (List.mem_append_left _ (List.mem_of_getElem? (i := 13) rfl))) (List.mem_cons_of_mem _ (List.mem_append_left _ (List.mem_of_getElem? (i := 14) rfl))) (List.mem_cons_of_mem _ (List.mem_append_left _ (List.mem_of_getElem? (i := 3) rfl))) (fun _ hh => (List.mem_cons_of_mem _ (List.mem_append_right _ (List.mem_append_right _ (List.mem_append_right _ (List.mem_append_right _ (List.mem_append_left _ hh))))))) gd_m_asks) rfl rfl rfl (by decide +kernel) ⟨Nat.le_of_ble_eq_true rfl, Nat.le_of_ble_eq_true rfl⟩) ⟨pw_blind, tw_recv hK hT (fx_50 hX) (by decide) cl_e60 rfl, pw_use hT hK hFc hS hM⟩ rfl rfl hl.1 rfl (lv_room (Nat.le_of_ble_eq_true rfl)) dX12_payOf_126 ⟨Nat.le_of_ble_eq_true rfl, Nat.le_of_ble_eq_true rfl⟩) hS (fun q _ h => hFc q h) hFc (fun r0 r_20 t H locs ht hvm hw hB hz1 hk1 hS => ?_)
          refine W.widen (k := 0) (n := 0) (Nat.le_of_ble_eq_true rfl) (Nat.le_of_ble_eq_true rfl) ?_
          clear hvm hz1 hk1
          subst hw
          obtain ⟨y_21, g_22, hgy_21, hggg_22, hI, hf_23, hT⟩ := hB
          rw [ht] at hT
          have hG := hG.tr hgy_21 (by decide)
          have hGg := hGg.tr hggg_22
          have hW : IW (u 1) (u 2) (u 9) (y_21 (a 89)) := by rw [hgy_21.at (fx_89 hX) (by decide)]; exact hW
          try simp only [hp_19] at hf_23
          clear hp_19
          exact W.iret (v := r_20) hx hb hr (fun t ht hW9 => ⟨⟨r_20, r_20, rfl, rfl, ⟨y_21, g_22, hG, hGg, hI, tw_at ht hT⟩⟩, hS.F ht⟩) hS.2.2 dX12_payOf_129
        · have nc_6 := z_nle hc_5 rfl c_6
          refine lv_aload_n hx hb dX12_payOf_24 rfl (lv_at hl 0 rfl) ?_
          refine tw_get (D := (dC, dI)) (v := .ref (a 77)) (C := RX12) (T := TX12) (N := 58) hx hb hts (fun _ hh => (List.mem_cons_of_mem _ (List.mem_append_right _ (List.mem_append_right _ (List.mem_append_left _ hh))))) hown hK hT (fx_50 hX) (by decide) cl_e60 rfl 26 (by decide) (hts (.fieldLink RX12 82 "TypingPoolModel" "correctPiece" "[I") (List.mem_cons_of_mem _ (List.mem_append_left _ (List.mem_of_getElem? (i := 15) rfl)))) (fun _ h9 => h9) rfl dX12_payOf_25 ?_
          refine lv_iload_n hx hb dX12_payOf_28 rfl (lv_at hl 3 rfl) ?_
          refine tw_iald hx hb hK hT 0 (fx_77 hX) (by decide) cl_e87 rfl (z_in rfl (by omega) (by omega)) dX12_payOf_29 ?_
          have hv_24 := vb_at (im_a77 hI) (x := i3) rfl (by omega) (by omega)
          refine lv_iload_n hx hb dX12_payOf_30 rfl (lv_at hl 1 rfl) ?_
          refine lv_icmp_ne (tgt := 54) hx hb dX12_payOf_31 (by decide) (fun c_25 => ?_) (fun c_25 => ?_)
          · have nc_25 := z_ne rfl rfl c_25
            obtain ⟨x_26, ex_26⟩ : ∃ y : Int32, y = i3 + Int32.ofInt 1 := ⟨_, rfl⟩
            have hx_26 := z_add ex_26 rfl (zk (x := Int32.ofInt 1) 1 rfl) (by omega) (by omega)
            refine lv_iinc (v := x_26) (lv' := [(3, .int x_26), (0, .ref (a 50)), (1, .int p0), (2, .int w2)]) hx hb dX12_payOf_54 hl (k := 3) rfl ex_26.symm (by decide) rfl (fun ls hl => ?_)
            refine lv_goto (tgt := 16) hx hb dX12_payOf_57 (by decide) ?_
            exact ih_16  w2 x_26 y_L16 g_L16 H _ ls (by omega) hG hI hGg hW (by omega) (by omega) hT hS (lv_sub hl [1, 2, 3, 0] rfl)
          · have nc_25 := z_eq rfl rfl c_25
            refine lv_aload_n hx hb dX12_payOf_34 rfl (lv_at hl 0 rfl) ?_
            refine lv_iload_n hx hb dX12_payOf_35 rfl (lv_at hl 3 rfl) ?_
            have hFc := tw_free hF hS hA
            refine va_calli (va_runV (As := [.int i3]) (rest := []) ⟨hx, hb, hml, hown, hts⟩ (m_isKnown l dC dI ad av H.size a k τ ln y_L16 g_L16 u i3 hI (by omega) (by omega) hW) (cwV 1 hts (gi_4 (List.mem_cons_of_mem _ (List.mem_append_left _ (List.mem_of_getElem? (i := 16) rfl))) (List.mem_cons_of_mem _ (List.mem_append_left _ (List.mem_of_getElem? (i := 17) rfl))) (List.mem_cons_of_mem _ (List.mem_append_left _ (List.mem_of_getElem? (i := 18) rfl))) (List.mem_cons_of_mem _ (List.mem_append_left _ (List.mem_of_getElem? (i := 3) rfl))) (fun _ hh => (List.mem_cons_of_mem _ (List.mem_append_right _ (List.mem_append_right _ (List.mem_append_right _ (List.mem_append_right _ (List.mem_append_right _ (List.mem_append_left _ hh)))))))) gd_m_isKnown) rfl rfl rfl (by decide +kernel) ⟨Nat.le_of_ble_eq_true rfl, Nat.le_of_ble_eq_true rfl⟩) ⟨pw_blind, tw_recv hK hT (fx_50 hX) (by decide) cl_e60 rfl, pw_use hT hK hFc hS hM⟩ rfl rfl hl.1 rfl (lv_room (Nat.le_of_ble_eq_true rfl)) dX12_payOf_36 ⟨Nat.le_of_ble_eq_true rfl, Nat.le_of_ble_eq_true rfl⟩) hS (fun q _ h => hFc q h) hFc (fun r0 r_27 t H locs ht hvm hw hB hz1 hk1 hS => ?_)
            refine W.widen (k := 0) (n := 0) (Nat.le_of_ble_eq_true rfl) (Nat.le_of_ble_eq_true rfl) ?_
            clear hvm hz1 hk1
            subst hw
            rcases hB with ⟨hre, hT⟩ | ⟨hre, hT⟩
            · refine lq_top (v := 1) hre ?_
              rw [ht] at hT
              refine lv_if_eq (tgt := 54) hx hb dX12_payOf_39 (by decide) (fun c_28 => absurd c_28 (by decide)) (fun c_28 => ?_)
              refine lv_aload_n hx hb dX12_payOf_42 rfl (lv_at hl 0 rfl) ?_
              refine lv_iload_n hx hb dX12_payOf_43 rfl (lv_at hl 3 rfl) ?_
              have hFc := tw_free hF hS hA
              refine va_calli (va_runV (As := [.int i3]) (rest := []) ⟨hx, hb, hml, hown, hts⟩ (m_faultOf l dC dI ad av H.size a k τ ln y_L16 g_L16 u i3 hI (by omega) (by omega) hW) (cwV 1 hts (gi_4 (List.mem_cons_of_mem _ (List.mem_append_left _ (List.mem_of_getElem? (i := 19) rfl))) (List.mem_cons_of_mem _ (List.mem_append_left _ (List.mem_of_getElem? (i := 20) rfl))) (List.mem_cons_of_mem _ (List.mem_append_left _ (List.mem_of_getElem? (i := 21) rfl))) (List.mem_cons_of_mem _ (List.mem_append_left _ (List.mem_of_getElem? (i := 3) rfl))) (fun _ hh => (List.mem_cons_of_mem _ (List.mem_append_right _ (List.mem_append_right _ (List.mem_append_right _ (List.mem_append_right _ (List.mem_append_right _ (List.mem_append_right _ (List.mem_append_left _ hh))))))))) gd_m_faultOf) rfl rfl rfl (by decide +kernel) ⟨Nat.le_of_ble_eq_true rfl, Nat.le_of_ble_eq_true rfl⟩) ⟨pw_blind, tw_recv hK hT (fx_50 hX) (by decide) cl_e60 rfl, pw_use hT hK hFc hS hM⟩ rfl rfl hl.1 rfl (lv_room (Nat.le_of_ble_eq_true rfl)) dX12_payOf_44 ⟨Nat.le_of_ble_eq_true rfl, Nat.le_of_ble_eq_true rfl⟩) hS (fun q _ h => hFc q h) hFc (fun r0 r_29 t H locs ht hvm hw hB hz1 hk1 hS => ?_)
              refine W.widen (k := 0) (n := 0) (Nat.le_of_ble_eq_true rfl) (Nat.le_of_ble_eq_true rfl) ?_
              clear hvm hz1 hk1
              subst hw
              obtain ⟨y_30, g_31, hgy_30, hggg_31, hI, hT⟩ := hB
              rw [ht] at hT
              have hG := hG.tr hgy_30 (by decide)
              have hGg := hGg.tr hggg_31
              have hW : IW (u 1) (u 2) (u 9) (y_30 (a 89)) := by rw [hgy_30.at (fx_89 hX) (by decide)]; exact hW
              clear hc_5
              refine lv_iconst (v := 1) hx hb dX12_payOf_47 (by decide) ?_
              refine lv_icmp_ne (tgt := 54) hx hb dX12_payOf_48 (by decide) (fun c_32 => ?_) (fun c_32 => ?_)
              · have nc_32 := z_ne rfl (zk (x := 1) 1 rfl) c_32
                obtain ⟨x_33, ex_33⟩ : ∃ y : Int32, y = i3 + Int32.ofInt 1 := ⟨_, rfl⟩
                have hx_33 := z_add ex_33 rfl (zk (x := Int32.ofInt 1) 1 rfl) (by omega) (by omega)
                refine lv_iinc (v := x_33) (lv' := [(3, .int x_33), (0, .ref (a 50)), (1, .int p0), (2, .int w2)]) hx hb dX12_payOf_54 hl (k := 3) rfl ex_33.symm (by decide) rfl (fun ls hl => ?_)
                refine lv_goto (tgt := 16) hx hb dX12_payOf_57 (by decide) ?_
                exact ih_16  w2 x_33 y_30 g_31 H _ ls (by omega) hG hI hGg hW (by omega) (by omega) hT hS (lv_sub hl [1, 2, 3, 0] rfl)
              · have nc_32 := z_eq rfl (zk (x := 1) 1 rfl) c_32
                obtain ⟨x_34, ex_34⟩ : ∃ y : Int32, y = w2 + Int32.ofInt 1 := ⟨_, rfl⟩
                refine lv_iinc (v := x_34) (lv' := [(2, .int x_34), (0, .ref (a 50)), (1, .int p0), (3, .int i3)]) hx hb dX12_payOf_51 hl (k := 2) rfl ex_34.symm (by decide) rfl (fun ls hl => ?_)
                obtain ⟨x_35, ex_35⟩ : ∃ y : Int32, y = i3 + Int32.ofInt 1 := ⟨_, rfl⟩
                have hx_35 := z_add ex_35 rfl (zk (x := Int32.ofInt 1) 1 rfl) (by omega) (by omega)
                refine lv_iinc (v := x_35) (lv' := [(3, .int x_35), (2, .int x_34), (0, .ref (a 50)), (1, .int p0)]) hx hb dX12_payOf_54 hl (k := 3) rfl ex_35.symm (by decide) rfl (fun ls hl => ?_)
                refine lv_goto (tgt := 16) hx hb dX12_payOf_57 (by decide) ?_
                exact ih_16  x_34 x_35 y_30 g_31 H _ ls (by omega) hG hI hGg hW (by omega) (by omega) hT hS (lv_sub hl [2, 3, 1, 0] rfl)
            · refine lq_top (v := 0) hre ?_
              rw [ht] at hT
              refine lv_if_eq (tgt := 54) hx hb dX12_payOf_39 (by decide) (fun c_36 => ?_) (fun c_36 => absurd c_36 (by decide))
              obtain ⟨x_37, ex_37⟩ : ∃ y : Int32, y = i3 + Int32.ofInt 1 := ⟨_, rfl⟩
              have hx_37 := z_add ex_37 rfl (zk (x := Int32.ofInt 1) 1 rfl) (by omega) (by omega)
              refine lv_iinc (v := x_37) (lv' := [(3, .int x_37), (0, .ref (a 50)), (1, .int p0), (2, .int w2)]) hx hb dX12_payOf_54 hl (k := 3) rfl ex_37.symm (by decide) rfl (fun ls hl => ?_)
              refine lv_goto (tgt := 16) hx hb dX12_payOf_57 (by decide) ?_
              exact ih_16  w2 x_37 y_L16 g_L16 H _ ls (by omega) hG hI hGg hW (by omega) (by omega) hT hS (lv_sub hl [1, 2, 3, 0] rfl)
    have hp_38 : (0 : Int32).toInt = 0 := (zk (x := 0) 0 rfl)
    have hp_39 : (0 : Int32).toInt = 0 := (zk (x := 0) 0 rfl)
    exact loop_16 _ (0 : Int32) (0 : Int32) y g H _ ls (Nat.lt_succ_self _) hG hI hGg hW (by omega) (by omega) hT hS (lv_sub hl [2, 3, 1, 0] rfl)
  · have nc_4 := z_eq rfl (zk (x := (-1)) (-1) rfl) c_4
    refine lv_iconst (v := 0) hx hb dX12_payOf_10 (by decide) ?_
    exact W.iret (v := 0) hx hb hr (fun t ht hW9 => ⟨⟨0, 0, rfl, rfl, ⟨y, g, hG, hGg, hI, tw_at ht hT⟩⟩, hS.F ht⟩) hS.2.2 dX12_payOf_11
def wo_m_of : List Cond := [.fieldLink RX12 139 "TypingPoolModel" "thrown" "I", .methodLink RX12 160 yX12_isHand, .instanceMethod yX12_isHand, .selects RX12 yX12_isHand yX12_isHand, .initialized RX12, .methodLink RX12 145 yX12_in, .static yX12_in, .methodLink RX12 272 yX12_get, .instanceMethod yX12_get, .selects RX12 yX12_get yX12_get, .methodLink RX12 164 yX12_now, .instanceMethod yX12_now, .selects RX12 yX12_now yX12_now, .methodLink RX12 293 yX12_isAway, .instanceMethod yX12_isAway, .selects RX12 yX12_isAway yX12_isAway, .methodLink RX12 312 yX12_lost, .instanceMethod yX12_lost, .selects RX12 yX12_lost yX12_lost]
def wm_m_of : List Cond := .code yX12_of cX12_of 3 (some .int) :: (wo_m_of ++ (wsX120 ++ (wm_m_isHand ++ (wm_m_in ++ (wm_m_get ++ (wm_m_now ++ (wm_m_isAway ++ (wm_m_lost ++ ([] : List Cond)))))))))
theorem gd_m_of : ∀ w ∈ wm_m_of, goodWord w = true := gd_c rfl (gd_a (by decide) (gd_a gd_wsX120 (gd_a gd_m_isHand (gd_a gd_m_in (gd_a gd_m_get (gd_a gd_m_now (gd_a gd_m_isAway (gd_a gd_m_lost gd_nil))))))))
set_option maxRecDepth 20000 in
theorem im_m_of : ∀ w ∈ wm_m_of, w ∈ lw_tbl := im_c (in_r [.code yX12_of cX12_of 3 (some .int)] [1587] (by decide +kernel)) (in_app (in_r wo_m_of [1278, 1436, 1438, 27, 86, 1420, 1421, 1540, 1542, 46, 1440, 1442, 28, 1544, 1546, 47, 1588, 1590, 54] (by decide +kernel)) (in_app im_wsX120 (in_app im_m_isHand (in_app im_m_in (in_app im_m_get (in_app im_m_now (in_app im_m_isAway (in_app im_m_lost im_nil))))))))
set_option maxHeartbeats 4000000 in
set_option maxRecDepth 100000 in
theorem m_of (l : Launch) (dC : Nat → ClassId) (dI : Nat → Nat → Nat) (ad av : Nat → Nat) (sz : Nat) (a : Nat → Nat) (k : Nat → ClassId) (τ ln : Nat → Nat) (y : Nat → Nat → Int32) (g : Nat → Nat → Option Nat) (u : Nat → Int) (p0 : Int32) (p1 : Int32) (hI : IM a u τ y) (hW : IW (u 1) (u 2) (u 9) (y (a 89))) : Met l yX12_of wm_m_of ({ frames := 2, cells := 0, slots := 0, locals := 120 }) (pw_ ad av (dC, dI) sz [.ref (a 50), .int p0, .int p1] a k τ ln y g) (va_Qi (fun (r u : Int32) => u = r) (fun (r : Int32) (t : State) => (∃ (y' : Nat → Nat → Int32) (g' : Nat → Nat → Option Nat), ag τ [60] y y' ∧ agg τ g g' ∧ IM a u τ y' ∧ tw (dC, dI) a k τ ln y' g' t.heap)) (fr τ sz)) 0 0 (fr τ sz) := by
  refine Met.ofW (cc := cX12_of) (maxL := 3) (ret := (some .int)) (by decide) rfl ?_
  intro p e s m args below meth c s₁ B hml hv
  obtain ⟨rfl, hsz, hT, hK, hM⟩ := hv
  have hx := B.exec
  have hb := B.bytes
  have hr := B.returns
  have hts := atoms_spec (ws := wm_m_of) B.pre
  have hown : s.vm.findClass RX12 = some m.cls := findClass_of_methodNamed B.named
  have hlocks := B.notSynchronized
  subst hsz
  generalize hAe : fr τ s.heap.size = A at hM ⊢
  have hA : ∀ q : Nat, s.heap.size ≤ q → A q := fun q h => by rw [← hAe]; exact Or.inr h
  have hF : ∀ q, τ q ≠ 0 → A q := fun q h => by rw [← hAe]; exact Or.inl h
  have hS : va_S A s.heap s.heap [] := va_S.rf
  have hX := hI.1
  have hR := im_r hI
  have hG : ag τ [60] y y := ag.rf
  have hGg : agg τ g g := agg.rf
  have hl := lv_entry ([.ref (a 50), .int p0, .int p1]) (n := 3) (Nat.le_of_ble_eq_true rfl)
  rw [lg_entry_eq]
  generalize (lg_sl ([.ref (a 50), .int p0, .int p1]) ++ List.replicate (3 - (lg_sl ([.ref (a 50), .int p0, .int p1])).length) Slot.unset).toArray = ls at hl ⊢
  have hl : lv_has ls 3 [(0, .ref (a 50)), (1, .int p0), (2, .int p1)] := hl
  refine lv_aload_n hx hb dX12_of_0 rfl (lv_at hl 0 rfl) ?_
  refine lv_iconst (v := 0) hx hb dX12_of_1 (by decide) ?_
  refine tw_put (D := (dC, dI)) (x := 0) (ty := .int) (C := RX12) (T := TX12) (N := 58) hx hb hts (fun _ hh => (List.mem_cons_of_mem _ (List.mem_append_right _ (List.mem_append_left _ hh)))) tyX12 tyX12_ok nmX12 hown hK hT hF hS (fx_50 hX) (by decide) cl_e60 rfl 37 (by decide) (hts (.fieldLink RX12 139 "TypingPoolModel" "thrown" "I") (List.mem_cons_of_mem _ (List.mem_append_left _ (List.mem_of_getElem? (i := 0) rfl)))) (fun _ h9 => h9) rfl (tyX12_ok 37 (by decide)) rfl rfl (Nat.le_of_ble_eq_true rfl) rfl dX12_of_2 (fun H locs hT hS => ?_)
  obtain ⟨y_1, hy_1, hT⟩ : ∃ z : Nat → Nat → Int32, z = up2 y (a 50) 37 (0 : Int32) ∧ tw (dC, dI) a k τ ln z g H := ⟨_, rfl, hT⟩
  have hG : ag τ [60] y y_1 := by rw [hy_1]; exact hG.up (fx_50 hX) (by decide)
  have hW : IW (u 1) (u 2) (u 9) (y_1 (a 89)) := by rw [hy_1, up2_o (kd_ne (fx_89 hX) (fx_50 hX) (by decide))]; exact hW
  have hI := hI.put (f := 37) (x := (0 : Int32)) (by decide)
  rw [← hy_1] at hI
  refine lv_aload_n hx hb dX12_of_5 rfl (lv_at hl 0 rfl) ?_
  refine lv_iload_n hx hb dX12_of_6 rfl (lv_at hl 1 rfl) ?_
  have hFc := tw_free hF hS hA
  refine va_calli (va_runV (As := [.int p0]) (rest := []) ⟨hx, hb, hml, hown, hts⟩ (m_isHand l dC dI ad av H.size a k τ ln y_1 g u p0 hI hW) (cwV 1 hts (gi_4 (List.mem_cons_of_mem _ (List.mem_append_left _ (List.mem_of_getElem? (i := 1) rfl))) (List.mem_cons_of_mem _ (List.mem_append_left _ (List.mem_of_getElem? (i := 2) rfl))) (List.mem_cons_of_mem _ (List.mem_append_left _ (List.mem_of_getElem? (i := 3) rfl))) (List.mem_cons_of_mem _ (List.mem_append_left _ (List.mem_of_getElem? (i := 4) rfl))) (fun _ hh => (List.mem_cons_of_mem _ (List.mem_append_right _ (List.mem_append_right _ (List.mem_append_left _ hh))))) gd_m_isHand) rfl rfl rfl (by decide +kernel) ⟨Nat.le_of_ble_eq_true rfl, Nat.le_of_ble_eq_true rfl⟩) ⟨pw_blind, tw_recv hK hT (fx_50 hX) (by decide) cl_e60 rfl, pw_use hT hK hFc hS hM⟩ rfl rfl hl.1 rfl (lv_room (Nat.le_of_ble_eq_true rfl)) dX12_of_7 ⟨Nat.le_of_ble_eq_true rfl, Nat.le_of_ble_eq_true rfl⟩) hS (fun q _ h => hFc q h) hFc (fun r0 r_2 t H locs ht hvm hw hB hz1 hk1 hS => ?_)
  refine W.widen (k := 0) (n := 0) (Nat.le_of_ble_eq_true rfl) (Nat.le_of_ble_eq_true rfl) ?_
  clear hvm hz1 hk1
  subst hw
  rcases hB with ⟨hre, hf_3, hf_4, hT⟩ | ⟨hre, hf_5, hT⟩
  · refine lq_top (v := 1) hre ?_
    rw [ht] at hT
    refine lv_if_eq (tgt := 23) hx hb dX12_of_10 (by decide) (fun c_6 => absurd c_6 (by decide)) (fun c_6 => ?_)
    refine lv_iload_n hx hb dX12_of_13 rfl (lv_at hl 2 rfl) ?_
    refine lv_iconst (v := 0) hx hb dX12_of_14 (by decide) ?_
    refine lv_bipush (v := 6) hx hb dX12_of_15 (by decide) ?_
    have hFc := tw_free hF hS hA
    have hp_7 : (0 : Int32).toInt = 0 := (zk (x := 0) 0 rfl)
    have hp_8 : (6 : Int32).toInt = 6 := (zk (x := 6) 6 rfl)
    refine va_calli (va_runS (As := [.int p1, .int 0, .int 6]) (rest := []) ⟨hx, hb, hml, hown, hts⟩ (m_in l dC dI ad av H.size a k τ ln y_1 g u p1 (0 : Int32) (6 : Int32)  ) (va_cwS 3 hts (gi_3 (List.mem_cons_of_mem _ (List.mem_append_left _ (List.mem_of_getElem? (i := 5) rfl))) (List.mem_cons_of_mem _ (List.mem_append_left _ (List.mem_of_getElem? (i := 6) rfl))) (List.mem_cons_of_mem _ (List.mem_append_left _ (List.mem_of_getElem? (i := 4) rfl))) (fun _ hh => (List.mem_cons_of_mem _ (List.mem_append_right _ (List.mem_append_right _ (List.mem_append_right _ (List.mem_append_left _ hh)))))) gd_m_in) rfl rfl rfl (by decide +kernel) ⟨Nat.le_of_ble_eq_true rfl, Nat.le_of_ble_eq_true rfl⟩) ⟨pw_blind, pw_use hT hK hFc hS hM⟩ rfl rfl hl.1 rfl (lv_room (Nat.le_of_ble_eq_true rfl)) dX12_of_17 ⟨Nat.le_of_ble_eq_true rfl, Nat.le_of_ble_eq_true rfl⟩) hS (fun q _ h => hFc q h) hFc (fun r0 r_9 t H locs ht hvm hw hB hz1 hk1 hS => ?_)
    refine W.widen (k := 0) (n := 0) (Nat.le_of_ble_eq_true rfl) (Nat.le_of_ble_eq_true rfl) ?_
    clear hvm hz1 hk1
    subst hw
    rcases hB with ⟨hre, hf_10, hf_11, hT⟩ | ⟨hre, hf_12, hT⟩
    · refine lq_top (v := 1) hre ?_
      rw [ht] at hT
      try simp only [hp_7, hp_8] at hf_10 hf_11
      clear hp_7 hp_8
      refine lv_if_ne (tgt := 28) hx hb dX12_of_20 (by decide) (fun c_13 => ?_) (fun c_13 => absurd c_13 (by decide))
      refine lv_iload_n hx hb dX12_of_28 rfl (lv_at hl 2 rfl) ?_
      rcases tb_0_5 p1 with t_14 | t_14 | t_14 | t_14 | t_14 | t_14 | t_14
      · refine lq_top (v := 0) t_14 ?_
        have nt_14 := z_eq rfl (zk (x := 0) 0 rfl) t_14
        refine lv_tableIn (tgt := 68) hx hb dX12_of_29 (by decide) (by decide) (off := 39) (by decide) (by decide) ?_
        refine lv_aload_n hx hb dX12_of_68 rfl (lv_at hl 0 rfl) ?_
        refine lv_iload_n hx hb dX12_of_69 rfl (lv_at hl 1 rfl) ?_
        refine lv_iconst (v := 0) hx hb dX12_of_70 (by decide) ?_
        have hFc := tw_free hF hS hA
        have hp_15 : (0 : Int32).toInt = 0 := (zk (x := 0) 0 rfl)
        refine va_calli (va_runV (As := [.int p0, .int 0]) (rest := []) ⟨hx, hb, hml, hown, hts⟩ (m_get l dC dI ad av H.size a k τ ln y_1 g u p0 (0 : Int32) hI (by omega) (by omega) (by decide) (by decide) hW) (cwV 2 hts (gi_4 (List.mem_cons_of_mem _ (List.mem_append_left _ (List.mem_of_getElem? (i := 7) rfl))) (List.mem_cons_of_mem _ (List.mem_append_left _ (List.mem_of_getElem? (i := 8) rfl))) (List.mem_cons_of_mem _ (List.mem_append_left _ (List.mem_of_getElem? (i := 9) rfl))) (List.mem_cons_of_mem _ (List.mem_append_left _ (List.mem_of_getElem? (i := 4) rfl))) (fun _ hh => (List.mem_cons_of_mem _ (List.mem_append_right _ (List.mem_append_right _ (List.mem_append_right _ (List.mem_append_right _ (List.mem_append_left _ hh))))))) gd_m_get) rfl rfl rfl (by decide +kernel) ⟨Nat.le_of_ble_eq_true rfl, Nat.le_of_ble_eq_true rfl⟩) ⟨pw_blind, tw_recv hK hT (fx_50 hX) (by decide) cl_e60 rfl, pw_use hT hK hFc hS hM⟩ rfl rfl hl.1 rfl (lv_room (Nat.le_of_ble_eq_true rfl)) dX12_of_71 ⟨Nat.le_of_ble_eq_true rfl, Nat.le_of_ble_eq_true rfl⟩) hS (fun q _ h => hFc q h) hFc (fun r0 r_16 t H locs ht hvm hw hB hz1 hk1 hS => ?_)
        refine W.widen (k := 0) (n := 0) (Nat.le_of_ble_eq_true rfl) (Nat.le_of_ble_eq_true rfl) ?_
        clear hvm hz1 hk1
        subst hw
        obtain ⟨hf_17, hT⟩ := hB
        rw [ht] at hT
        try simp only [hp_15] at hf_17
        clear hp_15
        exact W.iret (v := r_16) hx hb hr (fun t ht hW9 => ⟨⟨r_16, r_16, rfl, rfl, ⟨y_1, g, hG, hGg, hI, tw_at ht hT⟩⟩, hS.F ht⟩) hS.2.2 dX12_of_74
      · refine lq_top (v := 1) t_14 ?_
        have nt_14 := z_eq rfl (zk (x := 1) 1 rfl) t_14
        refine lv_tableIn (tgt := 75) hx hb dX12_of_29 (by decide) (by decide) (off := 46) (by decide) (by decide) ?_
        refine lv_aload_n hx hb dX12_of_75 rfl (lv_at hl 0 rfl) ?_
        refine lv_iload_n hx hb dX12_of_76 rfl (lv_at hl 1 rfl) ?_
        refine lv_iconst (v := 2) hx hb dX12_of_77 (by decide) ?_
        have hFc := tw_free hF hS hA
        have hp_18 : (2 : Int32).toInt = 2 := (zk (x := 2) 2 rfl)
        refine va_calli (va_runV (As := [.int p0, .int 2]) (rest := []) ⟨hx, hb, hml, hown, hts⟩ (m_get l dC dI ad av H.size a k τ ln y_1 g u p0 (2 : Int32) hI (by omega) (by omega) (by decide) (by decide) hW) (cwV 2 hts (gi_4 (List.mem_cons_of_mem _ (List.mem_append_left _ (List.mem_of_getElem? (i := 7) rfl))) (List.mem_cons_of_mem _ (List.mem_append_left _ (List.mem_of_getElem? (i := 8) rfl))) (List.mem_cons_of_mem _ (List.mem_append_left _ (List.mem_of_getElem? (i := 9) rfl))) (List.mem_cons_of_mem _ (List.mem_append_left _ (List.mem_of_getElem? (i := 4) rfl))) (fun _ hh => (List.mem_cons_of_mem _ (List.mem_append_right _ (List.mem_append_right _ (List.mem_append_right _ (List.mem_append_right _ (List.mem_append_left _ hh))))))) gd_m_get) rfl rfl rfl (by decide +kernel) ⟨Nat.le_of_ble_eq_true rfl, Nat.le_of_ble_eq_true rfl⟩) ⟨pw_blind, tw_recv hK hT (fx_50 hX) (by decide) cl_e60 rfl, pw_use hT hK hFc hS hM⟩ rfl rfl hl.1 rfl (lv_room (Nat.le_of_ble_eq_true rfl)) dX12_of_78 ⟨Nat.le_of_ble_eq_true rfl, Nat.le_of_ble_eq_true rfl⟩) hS (fun q _ h => hFc q h) hFc (fun r0 r_19 t H locs ht hvm hw hB hz1 hk1 hS => ?_)
        refine W.widen (k := 0) (n := 0) (Nat.le_of_ble_eq_true rfl) (Nat.le_of_ble_eq_true rfl) ?_
        clear hvm hz1 hk1
        subst hw
        obtain ⟨hf_20, hT⟩ := hB
        rw [ht] at hT
        try simp only [hp_18] at hf_20
        clear hp_18
        exact W.iret (v := r_19) hx hb hr (fun t ht hW9 => ⟨⟨r_19, r_19, rfl, rfl, ⟨y_1, g, hG, hGg, hI, tw_at ht hT⟩⟩, hS.F ht⟩) hS.2.2 dX12_of_81
      · refine lq_top (v := 2) t_14 ?_
        have nt_14 := z_eq rfl (zk (x := 2) 2 rfl) t_14
        refine lv_tableIn (tgt := 82) hx hb dX12_of_29 (by decide) (by decide) (off := 53) (by decide) (by decide) ?_
        refine lv_aload_n hx hb dX12_of_82 rfl (lv_at hl 0 rfl) ?_
        refine lv_iload_n hx hb dX12_of_83 rfl (lv_at hl 1 rfl) ?_
        refine lv_iconst (v := 3) hx hb dX12_of_84 (by decide) ?_
        have hFc := tw_free hF hS hA
        have hp_21 : (3 : Int32).toInt = 3 := (zk (x := 3) 3 rfl)
        refine va_calli (va_runV (As := [.int p0, .int 3]) (rest := []) ⟨hx, hb, hml, hown, hts⟩ (m_get l dC dI ad av H.size a k τ ln y_1 g u p0 (3 : Int32) hI (by omega) (by omega) (by decide) (by decide) hW) (cwV 2 hts (gi_4 (List.mem_cons_of_mem _ (List.mem_append_left _ (List.mem_of_getElem? (i := 7) rfl))) (List.mem_cons_of_mem _ (List.mem_append_left _ (List.mem_of_getElem? (i := 8) rfl))) (List.mem_cons_of_mem _ (List.mem_append_left _ (List.mem_of_getElem? (i := 9) rfl))) (List.mem_cons_of_mem _ (List.mem_append_left _ (List.mem_of_getElem? (i := 4) rfl))) (fun _ hh => (List.mem_cons_of_mem _ (List.mem_append_right _ (List.mem_append_right _ (List.mem_append_right _ (List.mem_append_right _ (List.mem_append_left _ hh))))))) gd_m_get) rfl rfl rfl (by decide +kernel) ⟨Nat.le_of_ble_eq_true rfl, Nat.le_of_ble_eq_true rfl⟩) ⟨pw_blind, tw_recv hK hT (fx_50 hX) (by decide) cl_e60 rfl, pw_use hT hK hFc hS hM⟩ rfl rfl hl.1 rfl (lv_room (Nat.le_of_ble_eq_true rfl)) dX12_of_85 ⟨Nat.le_of_ble_eq_true rfl, Nat.le_of_ble_eq_true rfl⟩) hS (fun q _ h => hFc q h) hFc (fun r0 r_22 t H locs ht hvm hw hB hz1 hk1 hS => ?_)
        refine W.widen (k := 0) (n := 0) (Nat.le_of_ble_eq_true rfl) (Nat.le_of_ble_eq_true rfl) ?_
        clear hvm hz1 hk1
        subst hw
        obtain ⟨hf_23, hT⟩ := hB
        rw [ht] at hT
        try simp only [hp_21] at hf_23
        clear hp_21
        exact W.iret (v := r_22) hx hb hr (fun t ht hW9 => ⟨⟨r_22, r_22, rfl, rfl, ⟨y_1, g, hG, hGg, hI, tw_at ht hT⟩⟩, hS.F ht⟩) hS.2.2 dX12_of_88
      · refine lq_top (v := 3) t_14 ?_
        have nt_14 := z_eq rfl (zk (x := 3) 3 rfl) t_14
        refine lv_tableIn (tgt := 89) hx hb dX12_of_29 (by decide) (by decide) (off := 60) (by decide) (by decide) ?_
        refine lv_aload_n hx hb dX12_of_89 rfl (lv_at hl 0 rfl) ?_
        refine lv_iload_n hx hb dX12_of_90 rfl (lv_at hl 1 rfl) ?_
        refine lv_iconst (v := 4) hx hb dX12_of_91 (by decide) ?_
        have hFc := tw_free hF hS hA
        have hp_24 : (4 : Int32).toInt = 4 := (zk (x := 4) 4 rfl)
        refine va_calli (va_runV (As := [.int p0, .int 4]) (rest := []) ⟨hx, hb, hml, hown, hts⟩ (m_get l dC dI ad av H.size a k τ ln y_1 g u p0 (4 : Int32) hI (by omega) (by omega) (by decide) (by decide) hW) (cwV 2 hts (gi_4 (List.mem_cons_of_mem _ (List.mem_append_left _ (List.mem_of_getElem? (i := 7) rfl))) (List.mem_cons_of_mem _ (List.mem_append_left _ (List.mem_of_getElem? (i := 8) rfl))) (List.mem_cons_of_mem _ (List.mem_append_left _ (List.mem_of_getElem? (i := 9) rfl))) (List.mem_cons_of_mem _ (List.mem_append_left _ (List.mem_of_getElem? (i := 4) rfl))) (fun _ hh => (List.mem_cons_of_mem _ (List.mem_append_right _ (List.mem_append_right _ (List.mem_append_right _ (List.mem_append_right _ (List.mem_append_left _ hh))))))) gd_m_get) rfl rfl rfl (by decide +kernel) ⟨Nat.le_of_ble_eq_true rfl, Nat.le_of_ble_eq_true rfl⟩) ⟨pw_blind, tw_recv hK hT (fx_50 hX) (by decide) cl_e60 rfl, pw_use hT hK hFc hS hM⟩ rfl rfl hl.1 rfl (lv_room (Nat.le_of_ble_eq_true rfl)) dX12_of_92 ⟨Nat.le_of_ble_eq_true rfl, Nat.le_of_ble_eq_true rfl⟩) hS (fun q _ h => hFc q h) hFc (fun r0 r_25 t H locs ht hvm hw hB hz1 hk1 hS => ?_)
        refine W.widen (k := 0) (n := 0) (Nat.le_of_ble_eq_true rfl) (Nat.le_of_ble_eq_true rfl) ?_
        clear hvm hz1 hk1
        subst hw
        obtain ⟨hf_26, hT⟩ := hB
        rw [ht] at hT
        try simp only [hp_24] at hf_26
        clear hp_24
        exact W.iret (v := r_25) hx hb hr (fun t ht hW9 => ⟨⟨r_25, r_25, rfl, rfl, ⟨y_1, g, hG, hGg, hI, tw_at ht hT⟩⟩, hS.F ht⟩) hS.2.2 dX12_of_95
      · refine lq_top (v := 4) t_14 ?_
        have nt_14 := z_eq rfl (zk (x := 4) 4 rfl) t_14
        refine lv_tableIn (tgt := 96) hx hb dX12_of_29 (by decide) (by decide) (off := 67) (by decide) (by decide) ?_
        refine lv_aload_n hx hb dX12_of_96 rfl (lv_at hl 0 rfl) ?_
        refine lv_iload_n hx hb dX12_of_97 rfl (lv_at hl 1 rfl) ?_
        refine lv_iconst (v := 5) hx hb dX12_of_98 (by decide) ?_
        have hFc := tw_free hF hS hA
        have hp_27 : (5 : Int32).toInt = 5 := (zk (x := 5) 5 rfl)
        refine va_calli (va_runV (As := [.int p0, .int 5]) (rest := []) ⟨hx, hb, hml, hown, hts⟩ (m_get l dC dI ad av H.size a k τ ln y_1 g u p0 (5 : Int32) hI (by omega) (by omega) (by decide) (by decide) hW) (cwV 2 hts (gi_4 (List.mem_cons_of_mem _ (List.mem_append_left _ (List.mem_of_getElem? (i := 7) rfl))) (List.mem_cons_of_mem _ (List.mem_append_left _ (List.mem_of_getElem? (i := 8) rfl))) (List.mem_cons_of_mem _ (List.mem_append_left _ (List.mem_of_getElem? (i := 9) rfl))) (List.mem_cons_of_mem _ (List.mem_append_left _ (List.mem_of_getElem? (i := 4) rfl))) (fun _ hh => (List.mem_cons_of_mem _ (List.mem_append_right _ (List.mem_append_right _ (List.mem_append_right _ (List.mem_append_right _ (List.mem_append_left _ hh))))))) gd_m_get) rfl rfl rfl (by decide +kernel) ⟨Nat.le_of_ble_eq_true rfl, Nat.le_of_ble_eq_true rfl⟩) ⟨pw_blind, tw_recv hK hT (fx_50 hX) (by decide) cl_e60 rfl, pw_use hT hK hFc hS hM⟩ rfl rfl hl.1 rfl (lv_room (Nat.le_of_ble_eq_true rfl)) dX12_of_99 ⟨Nat.le_of_ble_eq_true rfl, Nat.le_of_ble_eq_true rfl⟩) hS (fun q _ h => hFc q h) hFc (fun r0 r_28 t H locs ht hvm hw hB hz1 hk1 hS => ?_)
        refine W.widen (k := 0) (n := 0) (Nat.le_of_ble_eq_true rfl) (Nat.le_of_ble_eq_true rfl) ?_
        clear hvm hz1 hk1
        subst hw
        obtain ⟨hf_29, hT⟩ := hB
        rw [ht] at hT
        try simp only [hp_27] at hf_29
        clear hp_27
        exact W.iret (v := r_28) hx hb hr (fun t ht hW9 => ⟨⟨r_28, r_28, rfl, rfl, ⟨y_1, g, hG, hGg, hI, tw_at ht hT⟩⟩, hS.F ht⟩) hS.2.2 dX12_of_102
      · refine lq_top (v := 5) t_14 ?_
        have nt_14 := z_eq rfl (zk (x := 5) 5 rfl) t_14
        refine lv_tableIn (tgt := 103) hx hb dX12_of_29 (by decide) (by decide) (off := 74) (by decide) (by decide) ?_
        refine lv_aload_n hx hb dX12_of_103 rfl (lv_at hl 0 rfl) ?_
        refine lv_iload_n hx hb dX12_of_104 rfl (lv_at hl 1 rfl) ?_
        refine lv_aload_n hx hb dX12_of_105 rfl (lv_at hl 0 rfl) ?_
        have hFc := tw_free hF hS hA
        refine va_calli (va_runV (As := []) (rest := [.int p0, .ref (a 50)]) ⟨hx, hb, hml, hown, hts⟩ (m_now l dC dI ad av H.size a k τ ln y_1 g u  hI hW) (cwV 0 hts (gi_4 (List.mem_cons_of_mem _ (List.mem_append_left _ (List.mem_of_getElem? (i := 10) rfl))) (List.mem_cons_of_mem _ (List.mem_append_left _ (List.mem_of_getElem? (i := 11) rfl))) (List.mem_cons_of_mem _ (List.mem_append_left _ (List.mem_of_getElem? (i := 12) rfl))) (List.mem_cons_of_mem _ (List.mem_append_left _ (List.mem_of_getElem? (i := 4) rfl))) (fun _ hh => (List.mem_cons_of_mem _ (List.mem_append_right _ (List.mem_append_right _ (List.mem_append_right _ (List.mem_append_right _ (List.mem_append_right _ (List.mem_append_left _ hh)))))))) gd_m_now) rfl rfl rfl (by decide +kernel) ⟨Nat.le_of_ble_eq_true rfl, Nat.le_of_ble_eq_true rfl⟩) ⟨pw_blind, tw_recv hK hT (fx_50 hX) (by decide) cl_e60 rfl, pw_use hT hK hFc hS hM⟩ rfl rfl hl.1 rfl (lv_room (Nat.le_of_ble_eq_true rfl)) dX12_of_106 ⟨Nat.le_of_ble_eq_true rfl, Nat.le_of_ble_eq_true rfl⟩) hS (fun q _ h => hFc q h) hFc (fun r0 r_30 t H locs ht hvm hw hB hz1 hk1 hS => ?_)
        refine W.widen (k := 0) (n := 0) (Nat.le_of_ble_eq_true rfl) (Nat.le_of_ble_eq_true rfl) ?_
        clear hvm hz1 hk1
        subst hw
        obtain ⟨hf_31, hT⟩ := hB
        rw [ht] at hT
        have hFc := tw_free hF hS hA
        refine va_calli (va_runV (As := [.int p0, .int r_30]) (rest := []) ⟨hx, hb, hml, hown, hts⟩ (m_isAway l dC dI ad av H.size a k τ ln y_1 g u p0 r_30 hI hW) (cwV 2 hts (gi_4 (List.mem_cons_of_mem _ (List.mem_append_left _ (List.mem_of_getElem? (i := 13) rfl))) (List.mem_cons_of_mem _ (List.mem_append_left _ (List.mem_of_getElem? (i := 14) rfl))) (List.mem_cons_of_mem _ (List.mem_append_left _ (List.mem_of_getElem? (i := 15) rfl))) (List.mem_cons_of_mem _ (List.mem_append_left _ (List.mem_of_getElem? (i := 4) rfl))) (fun _ hh => (List.mem_cons_of_mem _ (List.mem_append_right _ (List.mem_append_right _ (List.mem_append_right _ (List.mem_append_right _ (List.mem_append_right _ (List.mem_append_right _ (List.mem_append_left _ hh))))))))) gd_m_isAway) rfl rfl rfl (by decide +kernel) ⟨Nat.le_of_ble_eq_true rfl, Nat.le_of_ble_eq_true rfl⟩) ⟨pw_blind, tw_recv hK hT (fx_50 hX) (by decide) cl_e60 rfl, pw_use hT hK hFc hS hM⟩ rfl rfl hl.1 rfl (lv_room (Nat.le_of_ble_eq_true rfl)) dX12_of_109 ⟨Nat.le_of_ble_eq_true rfl, Nat.le_of_ble_eq_true rfl⟩) hS (fun q _ h => hFc q h) hFc (fun r0 r_32 t H locs ht hvm hw hB hz1 hk1 hS => ?_)
        refine W.widen (k := 0) (n := 0) (Nat.le_of_ble_eq_true rfl) (Nat.le_of_ble_eq_true rfl) ?_
        clear hvm hz1 hk1
        subst hw
        rcases hB with ⟨hre, hT⟩ | ⟨hre, hT⟩
        · refine lq_top (v := 1) hre ?_
          rw [ht] at hT
          refine lv_if_eq (tgt := 119) hx hb dX12_of_112 (by decide) (fun c_33 => absurd c_33 (by decide)) (fun c_33 => ?_)
          refine lv_iconst (v := 1) hx hb dX12_of_115 (by decide) ?_
          refine lv_goto (tgt := 120) hx hb dX12_of_116 (by decide) ?_
          exact W.iret (v := 1) hx hb hr (fun t ht hW9 => ⟨⟨1, 1, rfl, rfl, ⟨y_1, g, hG, hGg, hI, tw_at ht hT⟩⟩, hS.F ht⟩) hS.2.2 dX12_of_120
        · refine lq_top (v := 0) hre ?_
          rw [ht] at hT
          refine lv_if_eq (tgt := 119) hx hb dX12_of_112 (by decide) (fun c_34 => ?_) (fun c_34 => absurd c_34 (by decide))
          refine lv_iconst (v := 0) hx hb dX12_of_119 (by decide) ?_
          exact W.iret (v := 0) hx hb hr (fun t ht hW9 => ⟨⟨0, 0, rfl, rfl, ⟨y_1, g, hG, hGg, hI, tw_at ht hT⟩⟩, hS.F ht⟩) hS.2.2 dX12_of_120
      · refine lv_tableOut (tgt := 121) hx hb dX12_of_29 t_14 (by decide) ?_
        refine lv_aload_n hx hb dX12_of_121 rfl (lv_at hl 0 rfl) ?_
        refine lv_iload_n hx hb dX12_of_122 rfl (lv_at hl 1 rfl) ?_
        refine lv_iconst (v := 1) hx hb dX12_of_123 (by decide) ?_
        have hFc := tw_free hF hS hA
        have hp_35 : (1 : Int32).toInt = 1 := (zk (x := 1) 1 rfl)
        refine va_calli (va_runV (As := [.int p0, .int 1]) (rest := []) ⟨hx, hb, hml, hown, hts⟩ (m_get l dC dI ad av H.size a k τ ln y_1 g u p0 (1 : Int32) hI (by omega) (by omega) (by decide) (by decide) hW) (cwV 2 hts (gi_4 (List.mem_cons_of_mem _ (List.mem_append_left _ (List.mem_of_getElem? (i := 7) rfl))) (List.mem_cons_of_mem _ (List.mem_append_left _ (List.mem_of_getElem? (i := 8) rfl))) (List.mem_cons_of_mem _ (List.mem_append_left _ (List.mem_of_getElem? (i := 9) rfl))) (List.mem_cons_of_mem _ (List.mem_append_left _ (List.mem_of_getElem? (i := 4) rfl))) (fun _ hh => (List.mem_cons_of_mem _ (List.mem_append_right _ (List.mem_append_right _ (List.mem_append_right _ (List.mem_append_right _ (List.mem_append_left _ hh))))))) gd_m_get) rfl rfl rfl (by decide +kernel) ⟨Nat.le_of_ble_eq_true rfl, Nat.le_of_ble_eq_true rfl⟩) ⟨pw_blind, tw_recv hK hT (fx_50 hX) (by decide) cl_e60 rfl, pw_use hT hK hFc hS hM⟩ rfl rfl hl.1 rfl (lv_room (Nat.le_of_ble_eq_true rfl)) dX12_of_124 ⟨Nat.le_of_ble_eq_true rfl, Nat.le_of_ble_eq_true rfl⟩) hS (fun q _ h => hFc q h) hFc (fun r0 r_36 t H locs ht hvm hw hB hz1 hk1 hS => ?_)
        refine W.widen (k := 0) (n := 0) (Nat.le_of_ble_eq_true rfl) (Nat.le_of_ble_eq_true rfl) ?_
        clear hvm hz1 hk1
        subst hw
        obtain ⟨hf_37, hT⟩ := hB
        rw [ht] at hT
        try simp only [hp_35] at hf_37
        clear hp_35
        exact W.iret (v := r_36) hx hb hr (fun t ht hW9 => ⟨⟨r_36, r_36, rfl, rfl, ⟨y_1, g, hG, hGg, hI, tw_at ht hT⟩⟩, hS.F ht⟩) hS.2.2 dX12_of_127
    · refine lq_top (v := 0) hre ?_
      rw [ht] at hT
      try simp only [hp_7, hp_8] at hf_12
      clear hp_7 hp_8
      refine lv_if_ne (tgt := 28) hx hb dX12_of_20 (by decide) (fun c_38 => absurd c_38 (by decide)) (fun c_38 => ?_)
      refine lv_aload_n hx hb dX12_of_23 rfl (lv_at hl 0 rfl) ?_
      have hFc := tw_free hF hS hA
      refine va_calli (va_runV (As := []) (rest := []) ⟨hx, hb, hml, hown, hts⟩ (m_lost l dC dI ad av H.size a k τ ln y_1 g u  hI hW) (cwV 0 hts (gi_4 (List.mem_cons_of_mem _ (List.mem_append_left _ (List.mem_of_getElem? (i := 16) rfl))) (List.mem_cons_of_mem _ (List.mem_append_left _ (List.mem_of_getElem? (i := 17) rfl))) (List.mem_cons_of_mem _ (List.mem_append_left _ (List.mem_of_getElem? (i := 18) rfl))) (List.mem_cons_of_mem _ (List.mem_append_left _ (List.mem_of_getElem? (i := 4) rfl))) (fun _ hh => (List.mem_cons_of_mem _ (List.mem_append_right _ (List.mem_append_right _ (List.mem_append_right _ (List.mem_append_right _ (List.mem_append_right _ (List.mem_append_right _ (List.mem_append_right _ (List.mem_append_left _ hh)))))))))) gd_m_lost) rfl rfl rfl (by decide +kernel) ⟨Nat.le_of_ble_eq_true rfl, Nat.le_of_ble_eq_true rfl⟩) ⟨pw_blind, tw_recv hK hT (fx_50 hX) (by decide) cl_e60 rfl, pw_use hT hK hFc hS hM⟩ rfl rfl hl.1 rfl (lv_room (Nat.le_of_ble_eq_true rfl)) dX12_of_24 ⟨Nat.le_of_ble_eq_true rfl, Nat.le_of_ble_eq_true rfl⟩) hS (fun q _ h => hFc q h) hFc (fun r0 r_39 t H locs ht hvm hw hB hz1 hk1 hS => ?_)
      refine W.widen (k := 0) (n := 0) (Nat.le_of_ble_eq_true rfl) (Nat.le_of_ble_eq_true rfl) ?_
      clear hvm hz1 hk1
      subst hw
      obtain ⟨y_40, hgy_40, hI, hT⟩ := hB
      rw [ht] at hT
      have hG := hG.tr hgy_40 (by decide)
      have hW : IW (u 1) (u 2) (u 9) (y_40 (a 89)) := by rw [hgy_40.at (fx_89 hX) (by decide)]; exact hW
      exact W.iret (v := r_39) hx hb hr (fun t ht hW9 => ⟨⟨r_39, r_39, rfl, rfl, ⟨y_40, g, hG, hGg, hI, tw_at ht hT⟩⟩, hS.F ht⟩) hS.2.2 dX12_of_27
  · refine lq_top (v := 0) hre ?_
    rw [ht] at hT
    refine lv_if_eq (tgt := 23) hx hb dX12_of_10 (by decide) (fun c_41 => ?_) (fun c_41 => absurd c_41 (by decide))
    refine lv_aload_n hx hb dX12_of_23 rfl (lv_at hl 0 rfl) ?_
    have hFc := tw_free hF hS hA
    refine va_calli (va_runV (As := []) (rest := []) ⟨hx, hb, hml, hown, hts⟩ (m_lost l dC dI ad av H.size a k τ ln y_1 g u  hI hW) (cwV 0 hts (gi_4 (List.mem_cons_of_mem _ (List.mem_append_left _ (List.mem_of_getElem? (i := 16) rfl))) (List.mem_cons_of_mem _ (List.mem_append_left _ (List.mem_of_getElem? (i := 17) rfl))) (List.mem_cons_of_mem _ (List.mem_append_left _ (List.mem_of_getElem? (i := 18) rfl))) (List.mem_cons_of_mem _ (List.mem_append_left _ (List.mem_of_getElem? (i := 4) rfl))) (fun _ hh => (List.mem_cons_of_mem _ (List.mem_append_right _ (List.mem_append_right _ (List.mem_append_right _ (List.mem_append_right _ (List.mem_append_right _ (List.mem_append_right _ (List.mem_append_right _ (List.mem_append_left _ hh)))))))))) gd_m_lost) rfl rfl rfl (by decide +kernel) ⟨Nat.le_of_ble_eq_true rfl, Nat.le_of_ble_eq_true rfl⟩) ⟨pw_blind, tw_recv hK hT (fx_50 hX) (by decide) cl_e60 rfl, pw_use hT hK hFc hS hM⟩ rfl rfl hl.1 rfl (lv_room (Nat.le_of_ble_eq_true rfl)) dX12_of_24 ⟨Nat.le_of_ble_eq_true rfl, Nat.le_of_ble_eq_true rfl⟩) hS (fun q _ h => hFc q h) hFc (fun r0 r_42 t H locs ht hvm hw hB hz1 hk1 hS => ?_)
    refine W.widen (k := 0) (n := 0) (Nat.le_of_ble_eq_true rfl) (Nat.le_of_ble_eq_true rfl) ?_
    clear hvm hz1 hk1
    subst hw
    obtain ⟨y_43, hgy_43, hI, hT⟩ := hB
    rw [ht] at hT
    have hG := hG.tr hgy_43 (by decide)
    have hW : IW (u 1) (u 2) (u 9) (y_43 (a 89)) := by rw [hgy_43.at (fx_89 hX) (by decide)]; exact hW
    exact W.iret (v := r_42) hx hb hr (fun t ht hW9 => ⟨⟨r_42, r_42, rfl, rfl, ⟨y_43, g, hG, hGg, hI, tw_at ht hT⟩⟩, hS.F ht⟩) hS.2.2 dX12_of_27
def wo_m_at : List Cond := [.fieldLink RX12 139 "TypingPoolModel" "thrown" "I", .methodLink RX12 315 yX12_isPiece, .instanceMethod yX12_isPiece, .selects RX12 yX12_isPiece yX12_isPiece, .initialized RX12, .methodLink RX12 261 yX12_piece, .instanceMethod yX12_piece, .selects RX12 yX12_piece yX12_piece, .fieldLink RX12 46 "TypingPoolModel" "comes" "[I", .methodLink RX12 164 yX12_now, .instanceMethod yX12_now, .selects RX12 yX12_now yX12_now, .methodLink RX12 318 yX12_late, .instanceMethod yX12_late, .selects RX12 yX12_late yX12_late]
def wm_m_at : List Cond := .code yX12_at cX12_at 3 (some .int) :: (wo_m_at ++ (wsX120 ++ (wm_m_isPiece ++ (wm_m_pieceG ++ (wm_m_now ++ (wm_m_late ++ ([] : List Cond)))))))
theorem gd_m_at : ∀ w ∈ wm_m_at, goodWord w = true := gd_c rfl (gd_a (by decide) (gd_a gd_wsX120 (gd_a gd_m_isPiece (gd_a gd_m_pieceG (gd_a gd_m_now (gd_a gd_m_late gd_nil))))))
set_option maxRecDepth 20000 in
theorem im_m_at : ∀ w ∈ wm_m_at, w ∈ lw_tbl := im_c (in_r [.code yX12_at cX12_at 3 (some .int)] [1595] (by decide +kernel)) (in_app (in_r wo_m_at [1278, 1596, 1598, 55, 86, 1556, 1558, 50, 1256, 1440, 1442, 28, 1600, 1602, 56] (by decide +kernel)) (in_app im_wsX120 (in_app im_m_isPiece (in_app im_m_pieceG (in_app im_m_now (in_app im_m_late im_nil))))))
set_option maxHeartbeats 4000000 in
set_option maxRecDepth 100000 in
theorem m_at (l : Launch) (dC : Nat → ClassId) (dI : Nat → Nat → Nat) (ad av : Nat → Nat) (sz : Nat) (a : Nat → Nat) (k : Nat → ClassId) (τ ln : Nat → Nat) (y : Nat → Nat → Int32) (g : Nat → Nat → Option Nat) (u : Nat → Int) (p0 : Int32) (p1 : Int32) (hI : IM a u τ y) (hW : IW (u 1) (u 2) (u 9) (y (a 89))) : Met l yX12_at wm_m_at ({ frames := 3, cells := 0, slots := 0, locals := 140 }) (pw_ ad av (dC, dI) sz [.ref (a 50), .int p0, .int p1] a k τ ln y g) (va_Qi (fun (r u : Int32) => u = r) (fun (r : Int32) (t : State) => (∃ (y' : Nat → Nat → Int32) (g' : Nat → Nat → Option Nat), ag τ [60] y y' ∧ agg τ g g' ∧ IM a u τ y' ∧ tw (dC, dI) a k τ ln y' g' t.heap)) (fr τ sz)) 0 0 (fr τ sz) := by
  refine Met.ofW (cc := cX12_at) (maxL := 3) (ret := (some .int)) (by decide) rfl ?_
  intro p e s m args below meth c s₁ B hml hv
  obtain ⟨rfl, hsz, hT, hK, hM⟩ := hv
  have hx := B.exec
  have hb := B.bytes
  have hr := B.returns
  have hts := atoms_spec (ws := wm_m_at) B.pre
  have hown : s.vm.findClass RX12 = some m.cls := findClass_of_methodNamed B.named
  have hlocks := B.notSynchronized
  subst hsz
  generalize hAe : fr τ s.heap.size = A at hM ⊢
  have hA : ∀ q : Nat, s.heap.size ≤ q → A q := fun q h => by rw [← hAe]; exact Or.inr h
  have hF : ∀ q, τ q ≠ 0 → A q := fun q h => by rw [← hAe]; exact Or.inl h
  have hS : va_S A s.heap s.heap [] := va_S.rf
  have hX := hI.1
  have hR := im_r hI
  have hG : ag τ [60] y y := ag.rf
  have hGg : agg τ g g := agg.rf
  have hl := lv_entry ([.ref (a 50), .int p0, .int p1]) (n := 3) (Nat.le_of_ble_eq_true rfl)
  rw [lg_entry_eq]
  generalize (lg_sl ([.ref (a 50), .int p0, .int p1]) ++ List.replicate (3 - (lg_sl ([.ref (a 50), .int p0, .int p1])).length) Slot.unset).toArray = ls at hl ⊢
  have hl : lv_has ls 3 [(0, .ref (a 50)), (1, .int p0), (2, .int p1)] := hl
  refine lv_aload_n hx hb dX12_at_0 rfl (lv_at hl 0 rfl) ?_
  refine lv_iconst (v := 0) hx hb dX12_at_1 (by decide) ?_
  refine tw_put (D := (dC, dI)) (x := 0) (ty := .int) (C := RX12) (T := TX12) (N := 58) hx hb hts (fun _ hh => (List.mem_cons_of_mem _ (List.mem_append_right _ (List.mem_append_left _ hh)))) tyX12 tyX12_ok nmX12 hown hK hT hF hS (fx_50 hX) (by decide) cl_e60 rfl 37 (by decide) (hts (.fieldLink RX12 139 "TypingPoolModel" "thrown" "I") (List.mem_cons_of_mem _ (List.mem_append_left _ (List.mem_of_getElem? (i := 0) rfl)))) (fun _ h9 => h9) rfl (tyX12_ok 37 (by decide)) rfl rfl (Nat.le_of_ble_eq_true rfl) rfl dX12_at_2 (fun H locs hT hS => ?_)
  obtain ⟨y_1, hy_1, hT⟩ : ∃ z : Nat → Nat → Int32, z = up2 y (a 50) 37 (0 : Int32) ∧ tw (dC, dI) a k τ ln z g H := ⟨_, rfl, hT⟩
  have hG : ag τ [60] y y_1 := by rw [hy_1]; exact hG.up (fx_50 hX) (by decide)
  have hW : IW (u 1) (u 2) (u 9) (y_1 (a 89)) := by rw [hy_1, up2_o (kd_ne (fx_89 hX) (fx_50 hX) (by decide))]; exact hW
  have hI := hI.put (f := 37) (x := (0 : Int32)) (by decide)
  rw [← hy_1] at hI
  refine lv_aload_n hx hb dX12_at_5 rfl (lv_at hl 0 rfl) ?_
  refine lv_iload_n hx hb dX12_at_6 rfl (lv_at hl 1 rfl) ?_
  have hFc := tw_free hF hS hA
  refine va_calli (va_runV (As := [.int p0]) (rest := []) ⟨hx, hb, hml, hown, hts⟩ (m_isPiece l dC dI ad av H.size a k τ ln y_1 g u p0 hI hW) (cwV 1 hts (gi_4 (List.mem_cons_of_mem _ (List.mem_append_left _ (List.mem_of_getElem? (i := 1) rfl))) (List.mem_cons_of_mem _ (List.mem_append_left _ (List.mem_of_getElem? (i := 2) rfl))) (List.mem_cons_of_mem _ (List.mem_append_left _ (List.mem_of_getElem? (i := 3) rfl))) (List.mem_cons_of_mem _ (List.mem_append_left _ (List.mem_of_getElem? (i := 4) rfl))) (fun _ hh => (List.mem_cons_of_mem _ (List.mem_append_right _ (List.mem_append_right _ (List.mem_append_left _ hh))))) gd_m_isPiece) rfl rfl rfl (by decide +kernel) ⟨Nat.le_of_ble_eq_true rfl, Nat.le_of_ble_eq_true rfl⟩) ⟨pw_blind, tw_recv hK hT (fx_50 hX) (by decide) cl_e60 rfl, pw_use hT hK hFc hS hM⟩ rfl rfl hl.1 rfl (lv_room (Nat.le_of_ble_eq_true rfl)) dX12_at_7 ⟨Nat.le_of_ble_eq_true rfl, Nat.le_of_ble_eq_true rfl⟩) hS (fun q _ h => hFc q h) hFc (fun r0 r_2 t H locs ht hvm hw hB hz1 hk1 hS => ?_)
  refine W.widen (k := 0) (n := 0) (Nat.le_of_ble_eq_true rfl) (Nat.le_of_ble_eq_true rfl) ?_
  clear hvm hz1 hk1
  subst hw
  rcases hB with ⟨hre, hf_3, hf_4, hT⟩ | ⟨hre, hf_5, hT⟩
  · refine lq_top (v := 1) hre ?_
    rw [ht] at hT
    refine lv_if_ne (tgt := 15) hx hb dX12_at_10 (by decide) (fun c_6 => ?_) (fun c_6 => absurd c_6 (by decide))
    refine lv_iload_n hx hb dX12_at_15 rfl (lv_at hl 2 rfl) ?_
    rcases tb_0_6 p1 with t_7 | t_7 | t_7 | t_7 | t_7 | t_7 | t_7 | t_7
    · refine lq_top (v := 0) t_7 ?_
      have nt_7 := z_eq rfl (zk (x := 0) 0 rfl) t_7
      refine lv_tableIn (tgt := 60) hx hb dX12_at_16 (by decide) (by decide) (off := 44) (by decide) (by decide) ?_
      refine lv_aload_n hx hb dX12_at_60 rfl (lv_at hl 0 rfl) ?_
      refine lv_iload_n hx hb dX12_at_61 rfl (lv_at hl 1 rfl) ?_
      refine lv_iconst (v := 2) hx hb dX12_at_62 (by decide) ?_
      have hFc := tw_free hF hS hA
      have hp_8 : (2 : Int32).toInt = 2 := (zk (x := 2) 2 rfl)
      refine va_calli (va_runV (As := [.int p0, .int 2]) (rest := []) ⟨hx, hb, hml, hown, hts⟩ (m_pieceG l dC dI ad av H.size a k τ ln y_1 g u p0 (2 : Int32) hI (by omega) (by omega) (by decide) (by decide) hW) (cwV 2 hts (gi_4 (List.mem_cons_of_mem _ (List.mem_append_left _ (List.mem_of_getElem? (i := 5) rfl))) (List.mem_cons_of_mem _ (List.mem_append_left _ (List.mem_of_getElem? (i := 6) rfl))) (List.mem_cons_of_mem _ (List.mem_append_left _ (List.mem_of_getElem? (i := 7) rfl))) (List.mem_cons_of_mem _ (List.mem_append_left _ (List.mem_of_getElem? (i := 4) rfl))) (fun _ hh => (List.mem_cons_of_mem _ (List.mem_append_right _ (List.mem_append_right _ (List.mem_append_right _ (List.mem_append_left _ hh)))))) gd_m_pieceG) rfl rfl rfl (by decide +kernel) ⟨Nat.le_of_ble_eq_true rfl, Nat.le_of_ble_eq_true rfl⟩) ⟨pw_blind, tw_recv hK hT (fx_50 hX) (by decide) cl_e60 rfl, pw_use hT hK hFc hS hM⟩ rfl rfl hl.1 rfl (lv_room (Nat.le_of_ble_eq_true rfl)) dX12_at_63 ⟨Nat.le_of_ble_eq_true rfl, Nat.le_of_ble_eq_true rfl⟩) hS (fun q _ h => hFc q h) hFc (fun r0 r_9 t H locs ht hvm hw hB hz1 hk1 hS => ?_)
      refine W.widen (k := 0) (n := 0) (Nat.le_of_ble_eq_true rfl) (Nat.le_of_ble_eq_true rfl) ?_
      clear hvm hz1 hk1
      subst hw
      obtain ⟨hf_10, hT⟩ := hB
      rw [ht] at hT
      try simp only [hp_8] at hf_10
      clear hp_8
      refine lv_iconst (v := (-1)) hx hb dX12_at_66 (by decide) ?_
      refine lv_icmp_eq (tgt := 74) hx hb dX12_at_67 (by decide) (fun c_11 => ?_) (fun c_11 => ?_)
      · have nc_11 := z_eq rfl (zk (x := (-1)) (-1) rfl) c_11
        refine lv_aload_n hx hb dX12_at_74 rfl (lv_at hl 0 rfl) ?_
        refine lv_iload_n hx hb dX12_at_75 rfl (lv_at hl 1 rfl) ?_
        refine lv_iconst (v := 0) hx hb dX12_at_76 (by decide) ?_
        have hFc := tw_free hF hS hA
        have hp_12 : (0 : Int32).toInt = 0 := (zk (x := 0) 0 rfl)
        refine va_calli (va_runV (As := [.int p0, .int 0]) (rest := []) ⟨hx, hb, hml, hown, hts⟩ (m_pieceG l dC dI ad av H.size a k τ ln y_1 g u p0 (0 : Int32) hI (by omega) (by omega) (by decide) (by decide) hW) (cwV 2 hts (gi_4 (List.mem_cons_of_mem _ (List.mem_append_left _ (List.mem_of_getElem? (i := 5) rfl))) (List.mem_cons_of_mem _ (List.mem_append_left _ (List.mem_of_getElem? (i := 6) rfl))) (List.mem_cons_of_mem _ (List.mem_append_left _ (List.mem_of_getElem? (i := 7) rfl))) (List.mem_cons_of_mem _ (List.mem_append_left _ (List.mem_of_getElem? (i := 4) rfl))) (fun _ hh => (List.mem_cons_of_mem _ (List.mem_append_right _ (List.mem_append_right _ (List.mem_append_right _ (List.mem_append_left _ hh)))))) gd_m_pieceG) rfl rfl rfl (by decide +kernel) ⟨Nat.le_of_ble_eq_true rfl, Nat.le_of_ble_eq_true rfl⟩) ⟨pw_blind, tw_recv hK hT (fx_50 hX) (by decide) cl_e60 rfl, pw_use hT hK hFc hS hM⟩ rfl rfl hl.1 rfl (lv_room (Nat.le_of_ble_eq_true rfl)) dX12_at_77 ⟨Nat.le_of_ble_eq_true rfl, Nat.le_of_ble_eq_true rfl⟩) hS (fun q _ h => hFc q h) hFc (fun r0 r_13 t H locs ht hvm hw hB hz1 hk1 hS => ?_)
        refine W.widen (k := 0) (n := 0) (Nat.le_of_ble_eq_true rfl) (Nat.le_of_ble_eq_true rfl) ?_
        clear hvm hz1 hk1
        subst hw
        obtain ⟨hf_14, hT⟩ := hB
        rw [ht] at hT
        try simp only [hp_12] at hf_14
        clear hp_12
        refine lv_iconst (v := (-1)) hx hb dX12_at_80 (by decide) ?_
        refine lv_icmp_eq (tgt := 88) hx hb dX12_at_81 (by decide) (fun c_15 => ?_) (fun c_15 => ?_)
        · have nc_15 := z_eq rfl (zk (x := (-1)) (-1) rfl) c_15
          refine lv_aload_n hx hb dX12_at_88 rfl (lv_at hl 0 rfl) ?_
          refine tw_get (D := (dC, dI)) (v := .ref (a 66)) (C := RX12) (T := TX12) (N := 58) hx hb hts (fun _ hh => (List.mem_cons_of_mem _ (List.mem_append_right _ (List.mem_append_left _ hh)))) hown hK hT (fx_50 hX) (by decide) cl_e60 rfl 15 (by decide) (hts (.fieldLink RX12 46 "TypingPoolModel" "comes" "[I") (List.mem_cons_of_mem _ (List.mem_append_left _ (List.mem_of_getElem? (i := 8) rfl)))) (fun _ h9 => h9) rfl dX12_at_89 ?_
          refine lv_iload_n hx hb dX12_at_92 rfl (lv_at hl 1 rfl) ?_
          refine tw_iald hx hb hK hT 0 (fx_66 hX) (by decide) cl_e76 rfl (z_in rfl (by omega) (by omega)) dX12_at_93 ?_
          refine lv_aload_n hx hb dX12_at_94 rfl (lv_at hl 0 rfl) ?_
          have hFc := tw_free hF hS hA
          refine va_calli (va_runV (As := []) (rest := [.int (y_1 (a 66) p0.toNatClampNeg)]) ⟨hx, hb, hml, hown, hts⟩ (m_now l dC dI ad av H.size a k τ ln y_1 g u  hI hW) (cwV 0 hts (gi_4 (List.mem_cons_of_mem _ (List.mem_append_left _ (List.mem_of_getElem? (i := 9) rfl))) (List.mem_cons_of_mem _ (List.mem_append_left _ (List.mem_of_getElem? (i := 10) rfl))) (List.mem_cons_of_mem _ (List.mem_append_left _ (List.mem_of_getElem? (i := 11) rfl))) (List.mem_cons_of_mem _ (List.mem_append_left _ (List.mem_of_getElem? (i := 4) rfl))) (fun _ hh => (List.mem_cons_of_mem _ (List.mem_append_right _ (List.mem_append_right _ (List.mem_append_right _ (List.mem_append_right _ (List.mem_append_left _ hh))))))) gd_m_now) rfl rfl rfl (by decide +kernel) ⟨Nat.le_of_ble_eq_true rfl, Nat.le_of_ble_eq_true rfl⟩) ⟨pw_blind, tw_recv hK hT (fx_50 hX) (by decide) cl_e60 rfl, pw_use hT hK hFc hS hM⟩ rfl rfl hl.1 rfl (lv_room (Nat.le_of_ble_eq_true rfl)) dX12_at_95 ⟨Nat.le_of_ble_eq_true rfl, Nat.le_of_ble_eq_true rfl⟩) hS (fun q _ h => hFc q h) hFc (fun r0 r_16 t H locs ht hvm hw hB hz1 hk1 hS => ?_)
          refine W.widen (k := 0) (n := 0) (Nat.le_of_ble_eq_true rfl) (Nat.le_of_ble_eq_true rfl) ?_
          clear hvm hz1 hk1
          subst hw
          obtain ⟨hf_17, hT⟩ := hB
          rw [ht] at hT
          refine lv_icmp_gt (tgt := 105) hx hb dX12_at_98 (by decide) (fun c_18 => ?_) (fun c_18 => ?_)
          · have nc_18 := z_lt rfl rfl c_18
            refine lv_iconst (v := 0) hx hb dX12_at_105 (by decide) ?_
            exact W.iret (v := 0) hx hb hr (fun t ht hW9 => ⟨⟨0, 0, rfl, rfl, ⟨y_1, g, hG, hGg, hI, tw_at ht hT⟩⟩, hS.F ht⟩) hS.2.2 dX12_at_106
          · have nc_18 := z_nlt rfl rfl c_18
            refine lv_iconst (v := 1) hx hb dX12_at_101 (by decide) ?_
            refine lv_goto (tgt := 106) hx hb dX12_at_102 (by decide) ?_
            exact W.iret (v := 1) hx hb hr (fun t ht hW9 => ⟨⟨1, 1, rfl, rfl, ⟨y_1, g, hG, hGg, hI, tw_at ht hT⟩⟩, hS.F ht⟩) hS.2.2 dX12_at_106
        · have nc_15 := z_ne rfl (zk (x := (-1)) (-1) rfl) c_15
          refine lv_iconst (v := 2) hx hb dX12_at_84 (by decide) ?_
          refine lv_goto (tgt := 106) hx hb dX12_at_85 (by decide) ?_
          exact W.iret (v := 2) hx hb hr (fun t ht hW9 => ⟨⟨2, 2, rfl, rfl, ⟨y_1, g, hG, hGg, hI, tw_at ht hT⟩⟩, hS.F ht⟩) hS.2.2 dX12_at_106
      · have nc_11 := z_ne rfl (zk (x := (-1)) (-1) rfl) c_11
        refine lv_iconst (v := 3) hx hb dX12_at_70 (by decide) ?_
        refine lv_goto (tgt := 106) hx hb dX12_at_71 (by decide) ?_
        exact W.iret (v := 3) hx hb hr (fun t ht hW9 => ⟨⟨3, 3, rfl, rfl, ⟨y_1, g, hG, hGg, hI, tw_at ht hT⟩⟩, hS.F ht⟩) hS.2.2 dX12_at_106
    · refine lq_top (v := 1) t_7 ?_
      have nt_7 := z_eq rfl (zk (x := 1) 1 rfl) t_7
      refine lv_tableIn (tgt := 107) hx hb dX12_at_16 (by decide) (by decide) (off := 91) (by decide) (by decide) ?_
      refine lv_aload_n hx hb dX12_at_107 rfl (lv_at hl 0 rfl) ?_
      refine lv_iload_n hx hb dX12_at_108 rfl (lv_at hl 1 rfl) ?_
      refine lv_iconst (v := 0) hx hb dX12_at_109 (by decide) ?_
      have hFc := tw_free hF hS hA
      have hp_19 : (0 : Int32).toInt = 0 := (zk (x := 0) 0 rfl)
      refine va_calli (va_runV (As := [.int p0, .int 0]) (rest := []) ⟨hx, hb, hml, hown, hts⟩ (m_pieceG l dC dI ad av H.size a k τ ln y_1 g u p0 (0 : Int32) hI (by omega) (by omega) (by decide) (by decide) hW) (cwV 2 hts (gi_4 (List.mem_cons_of_mem _ (List.mem_append_left _ (List.mem_of_getElem? (i := 5) rfl))) (List.mem_cons_of_mem _ (List.mem_append_left _ (List.mem_of_getElem? (i := 6) rfl))) (List.mem_cons_of_mem _ (List.mem_append_left _ (List.mem_of_getElem? (i := 7) rfl))) (List.mem_cons_of_mem _ (List.mem_append_left _ (List.mem_of_getElem? (i := 4) rfl))) (fun _ hh => (List.mem_cons_of_mem _ (List.mem_append_right _ (List.mem_append_right _ (List.mem_append_right _ (List.mem_append_left _ hh)))))) gd_m_pieceG) rfl rfl rfl (by decide +kernel) ⟨Nat.le_of_ble_eq_true rfl, Nat.le_of_ble_eq_true rfl⟩) ⟨pw_blind, tw_recv hK hT (fx_50 hX) (by decide) cl_e60 rfl, pw_use hT hK hFc hS hM⟩ rfl rfl hl.1 rfl (lv_room (Nat.le_of_ble_eq_true rfl)) dX12_at_110 ⟨Nat.le_of_ble_eq_true rfl, Nat.le_of_ble_eq_true rfl⟩) hS (fun q _ h => hFc q h) hFc (fun r0 r_20 t H locs ht hvm hw hB hz1 hk1 hS => ?_)
      refine W.widen (k := 0) (n := 0) (Nat.le_of_ble_eq_true rfl) (Nat.le_of_ble_eq_true rfl) ?_
      clear hvm hz1 hk1
      subst hw
      obtain ⟨hf_21, hT⟩ := hB
      rw [ht] at hT
      try simp only [hp_19] at hf_21
      clear hp_19
      exact W.iret (v := r_20) hx hb hr (fun t ht hW9 => ⟨⟨r_20, r_20, rfl, rfl, ⟨y_1, g, hG, hGg, hI, tw_at ht hT⟩⟩, hS.F ht⟩) hS.2.2 dX12_at_113
    · refine lq_top (v := 2) t_7 ?_
      have nt_7 := z_eq rfl (zk (x := 2) 2 rfl) t_7
      refine lv_tableIn (tgt := 114) hx hb dX12_at_16 (by decide) (by decide) (off := 98) (by decide) (by decide) ?_
      refine lv_aload_n hx hb dX12_at_114 rfl (lv_at hl 0 rfl) ?_
      refine lv_iload_n hx hb dX12_at_115 rfl (lv_at hl 1 rfl) ?_
      refine lv_iconst (v := 1) hx hb dX12_at_116 (by decide) ?_
      have hFc := tw_free hF hS hA
      have hp_22 : (1 : Int32).toInt = 1 := (zk (x := 1) 1 rfl)
      refine va_calli (va_runV (As := [.int p0, .int 1]) (rest := []) ⟨hx, hb, hml, hown, hts⟩ (m_pieceG l dC dI ad av H.size a k τ ln y_1 g u p0 (1 : Int32) hI (by omega) (by omega) (by decide) (by decide) hW) (cwV 2 hts (gi_4 (List.mem_cons_of_mem _ (List.mem_append_left _ (List.mem_of_getElem? (i := 5) rfl))) (List.mem_cons_of_mem _ (List.mem_append_left _ (List.mem_of_getElem? (i := 6) rfl))) (List.mem_cons_of_mem _ (List.mem_append_left _ (List.mem_of_getElem? (i := 7) rfl))) (List.mem_cons_of_mem _ (List.mem_append_left _ (List.mem_of_getElem? (i := 4) rfl))) (fun _ hh => (List.mem_cons_of_mem _ (List.mem_append_right _ (List.mem_append_right _ (List.mem_append_right _ (List.mem_append_left _ hh)))))) gd_m_pieceG) rfl rfl rfl (by decide +kernel) ⟨Nat.le_of_ble_eq_true rfl, Nat.le_of_ble_eq_true rfl⟩) ⟨pw_blind, tw_recv hK hT (fx_50 hX) (by decide) cl_e60 rfl, pw_use hT hK hFc hS hM⟩ rfl rfl hl.1 rfl (lv_room (Nat.le_of_ble_eq_true rfl)) dX12_at_117 ⟨Nat.le_of_ble_eq_true rfl, Nat.le_of_ble_eq_true rfl⟩) hS (fun q _ h => hFc q h) hFc (fun r0 r_23 t H locs ht hvm hw hB hz1 hk1 hS => ?_)
      refine W.widen (k := 0) (n := 0) (Nat.le_of_ble_eq_true rfl) (Nat.le_of_ble_eq_true rfl) ?_
      clear hvm hz1 hk1
      subst hw
      obtain ⟨hf_24, hT⟩ := hB
      rw [ht] at hT
      try simp only [hp_22] at hf_24
      clear hp_22
      exact W.iret (v := r_23) hx hb hr (fun t ht hW9 => ⟨⟨r_23, r_23, rfl, rfl, ⟨y_1, g, hG, hGg, hI, tw_at ht hT⟩⟩, hS.F ht⟩) hS.2.2 dX12_at_120
    · refine lq_top (v := 3) t_7 ?_
      have nt_7 := z_eq rfl (zk (x := 3) 3 rfl) t_7
      refine lv_tableIn (tgt := 121) hx hb dX12_at_16 (by decide) (by decide) (off := 105) (by decide) (by decide) ?_
      refine lv_aload_n hx hb dX12_at_121 rfl (lv_at hl 0 rfl) ?_
      refine lv_iload_n hx hb dX12_at_122 rfl (lv_at hl 1 rfl) ?_
      refine lv_iconst (v := 2) hx hb dX12_at_123 (by decide) ?_
      have hFc := tw_free hF hS hA
      have hp_25 : (2 : Int32).toInt = 2 := (zk (x := 2) 2 rfl)
      refine va_calli (va_runV (As := [.int p0, .int 2]) (rest := []) ⟨hx, hb, hml, hown, hts⟩ (m_pieceG l dC dI ad av H.size a k τ ln y_1 g u p0 (2 : Int32) hI (by omega) (by omega) (by decide) (by decide) hW) (cwV 2 hts (gi_4 (List.mem_cons_of_mem _ (List.mem_append_left _ (List.mem_of_getElem? (i := 5) rfl))) (List.mem_cons_of_mem _ (List.mem_append_left _ (List.mem_of_getElem? (i := 6) rfl))) (List.mem_cons_of_mem _ (List.mem_append_left _ (List.mem_of_getElem? (i := 7) rfl))) (List.mem_cons_of_mem _ (List.mem_append_left _ (List.mem_of_getElem? (i := 4) rfl))) (fun _ hh => (List.mem_cons_of_mem _ (List.mem_append_right _ (List.mem_append_right _ (List.mem_append_right _ (List.mem_append_left _ hh)))))) gd_m_pieceG) rfl rfl rfl (by decide +kernel) ⟨Nat.le_of_ble_eq_true rfl, Nat.le_of_ble_eq_true rfl⟩) ⟨pw_blind, tw_recv hK hT (fx_50 hX) (by decide) cl_e60 rfl, pw_use hT hK hFc hS hM⟩ rfl rfl hl.1 rfl (lv_room (Nat.le_of_ble_eq_true rfl)) dX12_at_124 ⟨Nat.le_of_ble_eq_true rfl, Nat.le_of_ble_eq_true rfl⟩) hS (fun q _ h => hFc q h) hFc (fun r0 r_26 t H locs ht hvm hw hB hz1 hk1 hS => ?_)
      refine W.widen (k := 0) (n := 0) (Nat.le_of_ble_eq_true rfl) (Nat.le_of_ble_eq_true rfl) ?_
      clear hvm hz1 hk1
      subst hw
      obtain ⟨hf_27, hT⟩ := hB
      rw [ht] at hT
      try simp only [hp_25] at hf_27
      clear hp_25
      exact W.iret (v := r_26) hx hb hr (fun t ht hW9 => ⟨⟨r_26, r_26, rfl, rfl, ⟨y_1, g, hG, hGg, hI, tw_at ht hT⟩⟩, hS.F ht⟩) hS.2.2 dX12_at_127
    · refine lq_top (v := 4) t_7 ?_
      have nt_7 := z_eq rfl (zk (x := 4) 4 rfl) t_7
      refine lv_tableIn (tgt := 128) hx hb dX12_at_16 (by decide) (by decide) (off := 112) (by decide) (by decide) ?_
      refine lv_aload_n hx hb dX12_at_128 rfl (lv_at hl 0 rfl) ?_
      refine lv_iload_n hx hb dX12_at_129 rfl (lv_at hl 1 rfl) ?_
      refine lv_iconst (v := 3) hx hb dX12_at_130 (by decide) ?_
      have hFc := tw_free hF hS hA
      have hp_28 : (3 : Int32).toInt = 3 := (zk (x := 3) 3 rfl)
      refine va_calli (va_runV (As := [.int p0, .int 3]) (rest := []) ⟨hx, hb, hml, hown, hts⟩ (m_pieceG l dC dI ad av H.size a k τ ln y_1 g u p0 (3 : Int32) hI (by omega) (by omega) (by decide) (by decide) hW) (cwV 2 hts (gi_4 (List.mem_cons_of_mem _ (List.mem_append_left _ (List.mem_of_getElem? (i := 5) rfl))) (List.mem_cons_of_mem _ (List.mem_append_left _ (List.mem_of_getElem? (i := 6) rfl))) (List.mem_cons_of_mem _ (List.mem_append_left _ (List.mem_of_getElem? (i := 7) rfl))) (List.mem_cons_of_mem _ (List.mem_append_left _ (List.mem_of_getElem? (i := 4) rfl))) (fun _ hh => (List.mem_cons_of_mem _ (List.mem_append_right _ (List.mem_append_right _ (List.mem_append_right _ (List.mem_append_left _ hh)))))) gd_m_pieceG) rfl rfl rfl (by decide +kernel) ⟨Nat.le_of_ble_eq_true rfl, Nat.le_of_ble_eq_true rfl⟩) ⟨pw_blind, tw_recv hK hT (fx_50 hX) (by decide) cl_e60 rfl, pw_use hT hK hFc hS hM⟩ rfl rfl hl.1 rfl (lv_room (Nat.le_of_ble_eq_true rfl)) dX12_at_131 ⟨Nat.le_of_ble_eq_true rfl, Nat.le_of_ble_eq_true rfl⟩) hS (fun q _ h => hFc q h) hFc (fun r0 r_29 t H locs ht hvm hw hB hz1 hk1 hS => ?_)
      refine W.widen (k := 0) (n := 0) (Nat.le_of_ble_eq_true rfl) (Nat.le_of_ble_eq_true rfl) ?_
      clear hvm hz1 hk1
      subst hw
      obtain ⟨hf_30, hT⟩ := hB
      rw [ht] at hT
      try simp only [hp_28] at hf_30
      clear hp_28
      exact W.iret (v := r_29) hx hb hr (fun t ht hW9 => ⟨⟨r_29, r_29, rfl, rfl, ⟨y_1, g, hG, hGg, hI, tw_at ht hT⟩⟩, hS.F ht⟩) hS.2.2 dX12_at_134
    · refine lq_top (v := 5) t_7 ?_
      have nt_7 := z_eq rfl (zk (x := 5) 5 rfl) t_7
      refine lv_tableIn (tgt := 135) hx hb dX12_at_16 (by decide) (by decide) (off := 119) (by decide) (by decide) ?_
      refine lv_aload_n hx hb dX12_at_135 rfl (lv_at hl 0 rfl) ?_
      refine lv_iload_n hx hb dX12_at_136 rfl (lv_at hl 1 rfl) ?_
      have hFc := tw_free hF hS hA
      refine va_calli (va_runV (As := [.int p0]) (rest := []) ⟨hx, hb, hml, hown, hts⟩ (m_late l dC dI ad av H.size a k τ ln y_1 g u p0 hI (by omega) (by omega) hW) (cwV 1 hts (gi_4 (List.mem_cons_of_mem _ (List.mem_append_left _ (List.mem_of_getElem? (i := 12) rfl))) (List.mem_cons_of_mem _ (List.mem_append_left _ (List.mem_of_getElem? (i := 13) rfl))) (List.mem_cons_of_mem _ (List.mem_append_left _ (List.mem_of_getElem? (i := 14) rfl))) (List.mem_cons_of_mem _ (List.mem_append_left _ (List.mem_of_getElem? (i := 4) rfl))) (fun _ hh => (List.mem_cons_of_mem _ (List.mem_append_right _ (List.mem_append_right _ (List.mem_append_right _ (List.mem_append_right _ (List.mem_append_right _ (List.mem_append_left _ hh)))))))) gd_m_late) rfl rfl rfl (by decide +kernel) ⟨Nat.le_of_ble_eq_true rfl, Nat.le_of_ble_eq_true rfl⟩) ⟨pw_blind, tw_recv hK hT (fx_50 hX) (by decide) cl_e60 rfl, pw_use hT hK hFc hS hM⟩ rfl rfl hl.1 rfl (lv_room (Nat.le_of_ble_eq_true rfl)) dX12_at_137 ⟨Nat.le_of_ble_eq_true rfl, Nat.le_of_ble_eq_true rfl⟩) hS (fun q _ h => hFc q h) hFc (fun r0 r_31 t H locs ht hvm hw hB hz1 hk1 hS => ?_)
      refine W.widen (k := 0) (n := 0) (Nat.le_of_ble_eq_true rfl) (Nat.le_of_ble_eq_true rfl) ?_
      clear hvm hz1 hk1
      subst hw
      have hT := hB
      rw [ht] at hT
      refine lv_if_le (tgt := 147) hx hb dX12_at_140 (by decide) (fun c_32 => ?_) (fun c_32 => ?_)
      · have nc_32 := z_le rfl (zk (x := 0) 0 rfl) c_32
        refine lv_iconst (v := 0) hx hb dX12_at_147 (by decide) ?_
        exact W.iret (v := 0) hx hb hr (fun t ht hW9 => ⟨⟨0, 0, rfl, rfl, ⟨y_1, g, hG, hGg, hI, tw_at ht hT⟩⟩, hS.F ht⟩) hS.2.2 dX12_at_148
      · have nc_32 := z_nle rfl (zk (x := 0) 0 rfl) c_32
        refine lv_iconst (v := 1) hx hb dX12_at_143 (by decide) ?_
        refine lv_goto (tgt := 148) hx hb dX12_at_144 (by decide) ?_
        exact W.iret (v := 1) hx hb hr (fun t ht hW9 => ⟨⟨1, 1, rfl, rfl, ⟨y_1, g, hG, hGg, hI, tw_at ht hT⟩⟩, hS.F ht⟩) hS.2.2 dX12_at_148
    · refine lq_top (v := 6) t_7 ?_
      have nt_7 := z_eq rfl (zk (x := 6) 6 rfl) t_7
      refine lv_tableIn (tgt := 149) hx hb dX12_at_16 (by decide) (by decide) (off := 133) (by decide) (by decide) ?_
      refine lv_aload_n hx hb dX12_at_149 rfl (lv_at hl 0 rfl) ?_
      refine lv_iload_n hx hb dX12_at_150 rfl (lv_at hl 1 rfl) ?_
      have hFc := tw_free hF hS hA
      refine va_calli (va_runV (As := [.int p0]) (rest := []) ⟨hx, hb, hml, hown, hts⟩ (m_late l dC dI ad av H.size a k τ ln y_1 g u p0 hI (by omega) (by omega) hW) (cwV 1 hts (gi_4 (List.mem_cons_of_mem _ (List.mem_append_left _ (List.mem_of_getElem? (i := 12) rfl))) (List.mem_cons_of_mem _ (List.mem_append_left _ (List.mem_of_getElem? (i := 13) rfl))) (List.mem_cons_of_mem _ (List.mem_append_left _ (List.mem_of_getElem? (i := 14) rfl))) (List.mem_cons_of_mem _ (List.mem_append_left _ (List.mem_of_getElem? (i := 4) rfl))) (fun _ hh => (List.mem_cons_of_mem _ (List.mem_append_right _ (List.mem_append_right _ (List.mem_append_right _ (List.mem_append_right _ (List.mem_append_right _ (List.mem_append_left _ hh)))))))) gd_m_late) rfl rfl rfl (by decide +kernel) ⟨Nat.le_of_ble_eq_true rfl, Nat.le_of_ble_eq_true rfl⟩) ⟨pw_blind, tw_recv hK hT (fx_50 hX) (by decide) cl_e60 rfl, pw_use hT hK hFc hS hM⟩ rfl rfl hl.1 rfl (lv_room (Nat.le_of_ble_eq_true rfl)) dX12_at_151 ⟨Nat.le_of_ble_eq_true rfl, Nat.le_of_ble_eq_true rfl⟩) hS (fun q _ h => hFc q h) hFc (fun r0 r_33 t H locs ht hvm hw hB hz1 hk1 hS => ?_)
      refine W.widen (k := 0) (n := 0) (Nat.le_of_ble_eq_true rfl) (Nat.le_of_ble_eq_true rfl) ?_
      clear hvm hz1 hk1
      subst hw
      have hT := hB
      rw [ht] at hT
      exact W.iret (v := r_33) hx hb hr (fun t ht hW9 => ⟨⟨r_33, r_33, rfl, rfl, ⟨y_1, g, hG, hGg, hI, tw_at ht hT⟩⟩, hS.F ht⟩) hS.2.2 dX12_at_154
    · refine lv_tableOut (tgt := 155) hx hb dX12_at_16 t_7 (by decide) ?_
      refine lv_iconst (v := (-1)) hx hb dX12_at_155 (by decide) ?_
      exact W.iret (v := (-1)) hx hb hr (fun t ht hW9 => ⟨⟨(-1), (-1), rfl, rfl, ⟨y_1, g, hG, hGg, hI, tw_at ht hT⟩⟩, hS.F ht⟩) hS.2.2 dX12_at_156
  · refine lq_top (v := 0) hre ?_
    rw [ht] at hT
    refine lv_if_ne (tgt := 15) hx hb dX12_at_10 (by decide) (fun c_34 => absurd c_34 (by decide)) (fun c_34 => ?_)
    refine lv_iconst (v := (-1)) hx hb dX12_at_13 (by decide) ?_
    exact W.iret (v := (-1)) hx hb hr (fun t ht hW9 => ⟨⟨(-1), (-1), rfl, rfl, ⟨y_1, g, hG, hGg, hI, tw_at ht hT⟩⟩, hS.F ht⟩) hS.2.2 dX12_at_14
def wo_m_may : List Cond := [.fieldLink RX12 139 "TypingPoolModel" "thrown" "I", .methodLink RX12 160 yX12_isHand, .instanceMethod yX12_isHand, .selects RX12 yX12_isHand yX12_isHand, .initialized RX12, .methodLink RX12 315 yX12_isPiece, .instanceMethod yX12_isPiece, .selects RX12 yX12_isPiece yX12_isPiece, .methodLink RX12 286 yX12_mayDo, .instanceMethod yX12_mayDo, .selects RX12 yX12_mayDo yX12_mayDo]
def wm_m_may : List Cond := .code yX12_may cX12_may 3 (some .int) :: (wo_m_may ++ (wsX120 ++ (wm_m_isHand ++ (wm_m_isPiece ++ (wm_m_mayDo ++ ([] : List Cond))))))
theorem gd_m_may : ∀ w ∈ wm_m_may, goodWord w = true := gd_c rfl (gd_a (by decide) (gd_a gd_wsX120 (gd_a gd_m_isHand (gd_a gd_m_isPiece (gd_a gd_m_mayDo gd_nil)))))
set_option maxRecDepth 20000 in
theorem im_m_may : ∀ w ∈ wm_m_may, w ∈ lw_tbl := im_c (in_r [.code yX12_may cX12_may 3 (some .int)] [1607] (by decide +kernel)) (in_app (in_r wo_m_may [1278, 1436, 1438, 27, 86, 1596, 1598, 55, 1560, 1562, 51] (by decide +kernel)) (in_app im_wsX120 (in_app im_m_isHand (in_app im_m_isPiece (in_app im_m_mayDo im_nil)))))
set_option maxHeartbeats 4000000 in
set_option maxRecDepth 100000 in
theorem m_may (l : Launch) (dC : Nat → ClassId) (dI : Nat → Nat → Nat) (ad av : Nat → Nat) (sz : Nat) (a : Nat → Nat) (k : Nat → ClassId) (τ ln : Nat → Nat) (y : Nat → Nat → Int32) (g : Nat → Nat → Option Nat) (u : Nat → Int) (p0 : Int32) (p1 : Int32) (hI : IM a u τ y) (hW : IW (u 1) (u 2) (u 9) (y (a 89))) : Met l yX12_may wm_m_may ({ frames := 386, cells := 0, slots := 0, locals := 25280 }) (pw_ ad av (dC, dI) sz [.ref (a 50), .int p0, .int p1] a k τ ln y g) (va_Qi (fun (r u : Int32) => u = r) (fun (r : Int32) (t : State) => (∃ (y' : Nat → Nat → Int32) (g' : Nat → Nat → Option Nat), ag τ [60, 102] y y' ∧ agg τ g g' ∧ IM a u τ y' ∧ tw (dC, dI) a k τ ln y' g' t.heap)) (fr τ sz)) 0 0 (fr τ sz) := by
  refine Met.ofW (cc := cX12_may) (maxL := 3) (ret := (some .int)) (by decide) rfl ?_
  intro p e s m args below meth c s₁ B hml hv
  obtain ⟨rfl, hsz, hT, hK, hM⟩ := hv
  have hx := B.exec
  have hb := B.bytes
  have hr := B.returns
  have hts := atoms_spec (ws := wm_m_may) B.pre
  have hown : s.vm.findClass RX12 = some m.cls := findClass_of_methodNamed B.named
  have hlocks := B.notSynchronized
  subst hsz
  generalize hAe : fr τ s.heap.size = A at hM ⊢
  have hA : ∀ q : Nat, s.heap.size ≤ q → A q := fun q h => by rw [← hAe]; exact Or.inr h
  have hF : ∀ q, τ q ≠ 0 → A q := fun q h => by rw [← hAe]; exact Or.inl h
  have hS : va_S A s.heap s.heap [] := va_S.rf
  have hX := hI.1
  have hR := im_r hI
  have hG : ag τ [60, 102] y y := ag.rf
  have hGg : agg τ g g := agg.rf
  have hl := lv_entry ([.ref (a 50), .int p0, .int p1]) (n := 3) (Nat.le_of_ble_eq_true rfl)
  rw [lg_entry_eq]
  generalize (lg_sl ([.ref (a 50), .int p0, .int p1]) ++ List.replicate (3 - (lg_sl ([.ref (a 50), .int p0, .int p1])).length) Slot.unset).toArray = ls at hl ⊢
  have hl : lv_has ls 3 [(0, .ref (a 50)), (1, .int p0), (2, .int p1)] := hl
  refine lv_aload_n hx hb dX12_may_0 rfl (lv_at hl 0 rfl) ?_
  refine lv_iconst (v := 0) hx hb dX12_may_1 (by decide) ?_
  refine tw_put (D := (dC, dI)) (x := 0) (ty := .int) (C := RX12) (T := TX12) (N := 58) hx hb hts (fun _ hh => (List.mem_cons_of_mem _ (List.mem_append_right _ (List.mem_append_left _ hh)))) tyX12 tyX12_ok nmX12 hown hK hT hF hS (fx_50 hX) (by decide) cl_e60 rfl 37 (by decide) (hts (.fieldLink RX12 139 "TypingPoolModel" "thrown" "I") (List.mem_cons_of_mem _ (List.mem_append_left _ (List.mem_of_getElem? (i := 0) rfl)))) (fun _ h9 => h9) rfl (tyX12_ok 37 (by decide)) rfl rfl (Nat.le_of_ble_eq_true rfl) rfl dX12_may_2 (fun H locs hT hS => ?_)
  obtain ⟨y_1, hy_1, hT⟩ : ∃ z : Nat → Nat → Int32, z = up2 y (a 50) 37 (0 : Int32) ∧ tw (dC, dI) a k τ ln z g H := ⟨_, rfl, hT⟩
  have hG : ag τ [60, 102] y y_1 := by rw [hy_1]; exact hG.up (fx_50 hX) (by decide)
  have hW : IW (u 1) (u 2) (u 9) (y_1 (a 89)) := by rw [hy_1, up2_o (kd_ne (fx_89 hX) (fx_50 hX) (by decide))]; exact hW
  have hI := hI.put (f := 37) (x := (0 : Int32)) (by decide)
  rw [← hy_1] at hI
  refine lv_aload_n hx hb dX12_may_5 rfl (lv_at hl 0 rfl) ?_
  refine lv_iload_n hx hb dX12_may_6 rfl (lv_at hl 1 rfl) ?_
  have hFc := tw_free hF hS hA
  refine va_calli (va_runV (As := [.int p0]) (rest := []) ⟨hx, hb, hml, hown, hts⟩ (m_isHand l dC dI ad av H.size a k τ ln y_1 g u p0 hI hW) (cwV 1 hts (gi_4 (List.mem_cons_of_mem _ (List.mem_append_left _ (List.mem_of_getElem? (i := 1) rfl))) (List.mem_cons_of_mem _ (List.mem_append_left _ (List.mem_of_getElem? (i := 2) rfl))) (List.mem_cons_of_mem _ (List.mem_append_left _ (List.mem_of_getElem? (i := 3) rfl))) (List.mem_cons_of_mem _ (List.mem_append_left _ (List.mem_of_getElem? (i := 4) rfl))) (fun _ hh => (List.mem_cons_of_mem _ (List.mem_append_right _ (List.mem_append_right _ (List.mem_append_left _ hh))))) gd_m_isHand) rfl rfl rfl (by decide +kernel) ⟨Nat.le_of_ble_eq_true rfl, Nat.le_of_ble_eq_true rfl⟩) ⟨pw_blind, tw_recv hK hT (fx_50 hX) (by decide) cl_e60 rfl, pw_use hT hK hFc hS hM⟩ rfl rfl hl.1 rfl (lv_room (Nat.le_of_ble_eq_true rfl)) dX12_may_7 ⟨Nat.le_of_ble_eq_true rfl, Nat.le_of_ble_eq_true rfl⟩) hS (fun q _ h => hFc q h) hFc (fun r0 r_2 t H locs ht hvm hw hB hz1 hk1 hS => ?_)
  refine W.widen (k := 0) (n := 0) (Nat.le_of_ble_eq_true rfl) (Nat.le_of_ble_eq_true rfl) ?_
  clear hvm hz1 hk1
  subst hw
  rcases hB with ⟨hre, hf_3, hf_4, hT⟩ | ⟨hre, hf_5, hT⟩
  · refine lq_top (v := 1) hre ?_
    rw [ht] at hT
    refine lv_if_eq (tgt := 38) hx hb dX12_may_10 (by decide) (fun c_6 => absurd c_6 (by decide)) (fun c_6 => ?_)
    refine lv_aload_n hx hb dX12_may_13 rfl (lv_at hl 0 rfl) ?_
    refine lv_iload_n hx hb dX12_may_14 rfl (lv_at hl 2 rfl) ?_
    have hFc := tw_free hF hS hA
    refine va_calli (va_runV (As := [.int p1]) (rest := []) ⟨hx, hb, hml, hown, hts⟩ (m_isPiece l dC dI ad av H.size a k τ ln y_1 g u p1 hI hW) (cwV 1 hts (gi_4 (List.mem_cons_of_mem _ (List.mem_append_left _ (List.mem_of_getElem? (i := 5) rfl))) (List.mem_cons_of_mem _ (List.mem_append_left _ (List.mem_of_getElem? (i := 6) rfl))) (List.mem_cons_of_mem _ (List.mem_append_left _ (List.mem_of_getElem? (i := 7) rfl))) (List.mem_cons_of_mem _ (List.mem_append_left _ (List.mem_of_getElem? (i := 4) rfl))) (fun _ hh => (List.mem_cons_of_mem _ (List.mem_append_right _ (List.mem_append_right _ (List.mem_append_right _ (List.mem_append_left _ hh)))))) gd_m_isPiece) rfl rfl rfl (by decide +kernel) ⟨Nat.le_of_ble_eq_true rfl, Nat.le_of_ble_eq_true rfl⟩) ⟨pw_blind, tw_recv hK hT (fx_50 hX) (by decide) cl_e60 rfl, pw_use hT hK hFc hS hM⟩ rfl rfl hl.1 rfl (lv_room (Nat.le_of_ble_eq_true rfl)) dX12_may_15 ⟨Nat.le_of_ble_eq_true rfl, Nat.le_of_ble_eq_true rfl⟩) hS (fun q _ h => hFc q h) hFc (fun r0 r_7 t H locs ht hvm hw hB hz1 hk1 hS => ?_)
    refine W.widen (k := 0) (n := 0) (Nat.le_of_ble_eq_true rfl) (Nat.le_of_ble_eq_true rfl) ?_
    clear hvm hz1 hk1
    subst hw
    rcases hB with ⟨hre, hf_8, hf_9, hT⟩ | ⟨hre, hf_10, hT⟩
    · refine lq_top (v := 1) hre ?_
      rw [ht] at hT
      refine lv_if_eq (tgt := 38) hx hb dX12_may_18 (by decide) (fun c_11 => absurd c_11 (by decide)) (fun c_11 => ?_)
      refine lv_aload_n hx hb dX12_may_21 rfl (lv_at hl 0 rfl) ?_
      refine lv_iload_n hx hb dX12_may_22 rfl (lv_at hl 1 rfl) ?_
      refine lv_iload_n hx hb dX12_may_23 rfl (lv_at hl 2 rfl) ?_
      have hFc := tw_free hF hS hA
      refine va_calli (va_runV (As := [.int p0, .int p1]) (rest := []) ⟨hx, hb, hml, hown, hts⟩ (m_mayDo l dC dI ad av H.size a k τ ln y_1 g u p0 p1 hI (by omega) (by omega) (by omega) (by omega) hW) (cwV 2 hts (gi_4 (List.mem_cons_of_mem _ (List.mem_append_left _ (List.mem_of_getElem? (i := 8) rfl))) (List.mem_cons_of_mem _ (List.mem_append_left _ (List.mem_of_getElem? (i := 9) rfl))) (List.mem_cons_of_mem _ (List.mem_append_left _ (List.mem_of_getElem? (i := 10) rfl))) (List.mem_cons_of_mem _ (List.mem_append_left _ (List.mem_of_getElem? (i := 4) rfl))) (fun _ hh => (List.mem_cons_of_mem _ (List.mem_append_right _ (List.mem_append_right _ (List.mem_append_right _ (List.mem_append_right _ (List.mem_append_left _ hh))))))) gd_m_mayDo) rfl rfl rfl (by decide +kernel) ⟨Nat.le_of_ble_eq_true rfl, Nat.le_of_ble_eq_true rfl⟩) ⟨pw_blind, tw_recv hK hT (fx_50 hX) (by decide) cl_e60 rfl, pw_use hT hK hFc hS hM⟩ rfl rfl hl.1 rfl (lv_room (Nat.le_of_ble_eq_true rfl)) dX12_may_24 ⟨Nat.le_of_ble_eq_true rfl, Nat.le_of_ble_eq_true rfl⟩) hS (fun q _ h => hFc q h) hFc (fun r0 r_12 t H locs ht hvm hw hB hz1 hk1 hS => ?_)
      refine W.widen (k := 0) (n := 0) (Nat.le_of_ble_eq_true rfl) (Nat.le_of_ble_eq_true rfl) ?_
      clear hvm hz1 hk1
      subst hw
      rcases hB with ⟨y_13, g_14, hre, hgy_13, hggg_14, hI, hf_15, hT⟩ | ⟨y_16, g_17, hre, hgy_16, hggg_17, hI, hf_18, hT⟩
      · refine lq_top (v := 1) hre ?_
        rw [ht] at hT
        have hG := hG.tr hgy_13 (by decide)
        have hGg := hGg.tr hggg_14
        have hW : IW (u 1) (u 2) (u 9) (y_13 (a 89)) := by rw [hgy_13.at (fx_89 hX) (by decide)]; exact hW
        refine lv_if_eq (tgt := 34) hx hb dX12_may_27 (by decide) (fun c_19 => absurd c_19 (by decide)) (fun c_19 => ?_)
        refine lv_iconst (v := 1) hx hb dX12_may_30 (by decide) ?_
        refine lv_goto (tgt := 39) hx hb dX12_may_31 (by decide) ?_
        exact W.iret (v := 1) hx hb hr (fun t ht hW9 => ⟨⟨1, 1, rfl, rfl, ⟨y_13, g_14, hG, hGg, hI, tw_at ht hT⟩⟩, hS.F ht⟩) hS.2.2 dX12_may_39
      · refine lq_top (v := 0) hre ?_
        rw [ht] at hT
        have hG := hG.tr hgy_16 (by decide)
        have hGg := hGg.tr hggg_17
        have hW : IW (u 1) (u 2) (u 9) (y_16 (a 89)) := by rw [hgy_16.at (fx_89 hX) (by decide)]; exact hW
        refine lv_if_eq (tgt := 34) hx hb dX12_may_27 (by decide) (fun c_20 => ?_) (fun c_20 => absurd c_20 (by decide))
        refine lv_iconst (v := 0) hx hb dX12_may_34 (by decide) ?_
        refine lv_goto (tgt := 39) hx hb dX12_may_35 (by decide) ?_
        exact W.iret (v := 0) hx hb hr (fun t ht hW9 => ⟨⟨0, 0, rfl, rfl, ⟨y_16, g_17, hG, hGg, hI, tw_at ht hT⟩⟩, hS.F ht⟩) hS.2.2 dX12_may_39
    · refine lq_top (v := 0) hre ?_
      rw [ht] at hT
      refine lv_if_eq (tgt := 38) hx hb dX12_may_18 (by decide) (fun c_21 => ?_) (fun c_21 => absurd c_21 (by decide))
      refine lv_iconst (v := (-1)) hx hb dX12_may_38 (by decide) ?_
      exact W.iret (v := (-1)) hx hb hr (fun t ht hW9 => ⟨⟨(-1), (-1), rfl, rfl, ⟨y_1, g, hG, hGg, hI, tw_at ht hT⟩⟩, hS.F ht⟩) hS.2.2 dX12_may_39
  · refine lq_top (v := 0) hre ?_
    rw [ht] at hT
    refine lv_if_eq (tgt := 38) hx hb dX12_may_10 (by decide) (fun c_22 => ?_) (fun c_22 => absurd c_22 (by decide))
    refine lv_iconst (v := (-1)) hx hb dX12_may_38 (by decide) ?_
    exact W.iret (v := (-1)) hx hb hr (fun t ht hW9 => ⟨⟨(-1), (-1), rfl, rfl, ⟨y_1, g, hG, hGg, hI, tw_at ht hT⟩⟩, hS.F ht⟩) hS.2.2 dX12_may_39
def wo_m_order : List Cond := [.fieldLink RX12 139 "TypingPoolModel" "thrown" "I", .methodLink RX12 160 yX12_isHand, .instanceMethod yX12_isHand, .selects RX12 yX12_isHand yX12_isHand, .initialized RX12, .methodLink RX12 315 yX12_isPiece, .instanceMethod yX12_isPiece, .selects RX12 yX12_isPiece yX12_isPiece, .methodLink RX12 290 yX12_orderOf, .instanceMethod yX12_orderOf, .selects RX12 yX12_orderOf yX12_orderOf, .methodLink RX12 312 yX12_lost, .instanceMethod yX12_lost, .selects RX12 yX12_lost yX12_lost]
def wm_m_order : List Cond := .code yX12_order cX12_order 3 (some .int) :: (wo_m_order ++ (wsX120 ++ (wm_m_isHand ++ (wm_m_isPiece ++ (wm_m_orderOf ++ (wm_m_lost ++ ([] : List Cond)))))))
theorem gd_m_order : ∀ w ∈ wm_m_order, goodWord w = true := gd_c rfl (gd_a (by decide) (gd_a gd_wsX120 (gd_a gd_m_isHand (gd_a gd_m_isPiece (gd_a gd_m_orderOf (gd_a gd_m_lost gd_nil))))))
set_option maxRecDepth 20000 in
theorem im_m_order : ∀ w ∈ wm_m_order, w ∈ lw_tbl := im_c (in_r [.code yX12_order cX12_order 3 (some .int)] [1611] (by decide +kernel)) (in_app (in_r wo_m_order [1278, 1436, 1438, 27, 86, 1596, 1598, 55, 1572, 1574, 53, 1588, 1590, 54] (by decide +kernel)) (in_app im_wsX120 (in_app im_m_isHand (in_app im_m_isPiece (in_app im_m_orderOf (in_app im_m_lost im_nil))))))
set_option maxHeartbeats 4000000 in
set_option maxRecDepth 100000 in
theorem m_order (l : Launch) (dC : Nat → ClassId) (dI : Nat → Nat → Nat) (ad av : Nat → Nat) (sz : Nat) (a : Nat → Nat) (k : Nat → ClassId) (τ ln : Nat → Nat) (y : Nat → Nat → Int32) (g : Nat → Nat → Option Nat) (u : Nat → Int) (p0 : Int32) (p1 : Int32) (hI : IM a u τ y) (hW : IW (u 1) (u 2) (u 9) (y (a 89))) : Met l yX12_order wm_m_order ({ frames := 386, cells := 0, slots := 0, locals := 25280 }) (pw_ ad av (dC, dI) sz [.ref (a 50), .int p0, .int p1] a k τ ln y g) (va_Qi (fun (r u : Int32) => u = r) (fun (r : Int32) (t : State) => (∃ (y' : Nat → Nat → Int32) (g' : Nat → Nat → Option Nat), ag τ [60, 102] y y' ∧ agg τ g g' ∧ IM a u τ y' ∧ tw (dC, dI) a k τ ln y' g' t.heap)) (fr τ sz)) 0 0 (fr τ sz) := by
  refine Met.ofW (cc := cX12_order) (maxL := 3) (ret := (some .int)) (by decide) rfl ?_
  intro p e s m args below meth c s₁ B hml hv
  obtain ⟨rfl, hsz, hT, hK, hM⟩ := hv
  have hx := B.exec
  have hb := B.bytes
  have hr := B.returns
  have hts := atoms_spec (ws := wm_m_order) B.pre
  have hown : s.vm.findClass RX12 = some m.cls := findClass_of_methodNamed B.named
  have hlocks := B.notSynchronized
  subst hsz
  generalize hAe : fr τ s.heap.size = A at hM ⊢
  have hA : ∀ q : Nat, s.heap.size ≤ q → A q := fun q h => by rw [← hAe]; exact Or.inr h
  have hF : ∀ q, τ q ≠ 0 → A q := fun q h => by rw [← hAe]; exact Or.inl h
  have hS : va_S A s.heap s.heap [] := va_S.rf
  have hX := hI.1
  have hR := im_r hI
  have hG : ag τ [60, 102] y y := ag.rf
  have hGg : agg τ g g := agg.rf
  have hl := lv_entry ([.ref (a 50), .int p0, .int p1]) (n := 3) (Nat.le_of_ble_eq_true rfl)
  rw [lg_entry_eq]
  generalize (lg_sl ([.ref (a 50), .int p0, .int p1]) ++ List.replicate (3 - (lg_sl ([.ref (a 50), .int p0, .int p1])).length) Slot.unset).toArray = ls at hl ⊢
  have hl : lv_has ls 3 [(0, .ref (a 50)), (1, .int p0), (2, .int p1)] := hl
  refine lv_aload_n hx hb dX12_order_0 rfl (lv_at hl 0 rfl) ?_
  refine lv_iconst (v := 0) hx hb dX12_order_1 (by decide) ?_
  refine tw_put (D := (dC, dI)) (x := 0) (ty := .int) (C := RX12) (T := TX12) (N := 58) hx hb hts (fun _ hh => (List.mem_cons_of_mem _ (List.mem_append_right _ (List.mem_append_left _ hh)))) tyX12 tyX12_ok nmX12 hown hK hT hF hS (fx_50 hX) (by decide) cl_e60 rfl 37 (by decide) (hts (.fieldLink RX12 139 "TypingPoolModel" "thrown" "I") (List.mem_cons_of_mem _ (List.mem_append_left _ (List.mem_of_getElem? (i := 0) rfl)))) (fun _ h9 => h9) rfl (tyX12_ok 37 (by decide)) rfl rfl (Nat.le_of_ble_eq_true rfl) rfl dX12_order_2 (fun H locs hT hS => ?_)
  obtain ⟨y_1, hy_1, hT⟩ : ∃ z : Nat → Nat → Int32, z = up2 y (a 50) 37 (0 : Int32) ∧ tw (dC, dI) a k τ ln z g H := ⟨_, rfl, hT⟩
  have hG : ag τ [60, 102] y y_1 := by rw [hy_1]; exact hG.up (fx_50 hX) (by decide)
  have hW : IW (u 1) (u 2) (u 9) (y_1 (a 89)) := by rw [hy_1, up2_o (kd_ne (fx_89 hX) (fx_50 hX) (by decide))]; exact hW
  have hI := hI.put (f := 37) (x := (0 : Int32)) (by decide)
  rw [← hy_1] at hI
  refine lv_aload_n hx hb dX12_order_5 rfl (lv_at hl 0 rfl) ?_
  refine lv_iload_n hx hb dX12_order_6 rfl (lv_at hl 1 rfl) ?_
  have hFc := tw_free hF hS hA
  refine va_calli (va_runV (As := [.int p0]) (rest := []) ⟨hx, hb, hml, hown, hts⟩ (m_isHand l dC dI ad av H.size a k τ ln y_1 g u p0 hI hW) (cwV 1 hts (gi_4 (List.mem_cons_of_mem _ (List.mem_append_left _ (List.mem_of_getElem? (i := 1) rfl))) (List.mem_cons_of_mem _ (List.mem_append_left _ (List.mem_of_getElem? (i := 2) rfl))) (List.mem_cons_of_mem _ (List.mem_append_left _ (List.mem_of_getElem? (i := 3) rfl))) (List.mem_cons_of_mem _ (List.mem_append_left _ (List.mem_of_getElem? (i := 4) rfl))) (fun _ hh => (List.mem_cons_of_mem _ (List.mem_append_right _ (List.mem_append_right _ (List.mem_append_left _ hh))))) gd_m_isHand) rfl rfl rfl (by decide +kernel) ⟨Nat.le_of_ble_eq_true rfl, Nat.le_of_ble_eq_true rfl⟩) ⟨pw_blind, tw_recv hK hT (fx_50 hX) (by decide) cl_e60 rfl, pw_use hT hK hFc hS hM⟩ rfl rfl hl.1 rfl (lv_room (Nat.le_of_ble_eq_true rfl)) dX12_order_7 ⟨Nat.le_of_ble_eq_true rfl, Nat.le_of_ble_eq_true rfl⟩) hS (fun q _ h => hFc q h) hFc (fun r0 r_2 t H locs ht hvm hw hB hz1 hk1 hS => ?_)
  refine W.widen (k := 0) (n := 0) (Nat.le_of_ble_eq_true rfl) (Nat.le_of_ble_eq_true rfl) ?_
  clear hvm hz1 hk1
  subst hw
  rcases hB with ⟨hre, hf_3, hf_4, hT⟩ | ⟨hre, hf_5, hT⟩
  · refine lq_top (v := 1) hre ?_
    rw [ht] at hT
    refine lv_if_eq (tgt := 30) hx hb dX12_order_10 (by decide) (fun c_6 => absurd c_6 (by decide)) (fun c_6 => ?_)
    refine lv_aload_n hx hb dX12_order_13 rfl (lv_at hl 0 rfl) ?_
    refine lv_iload_n hx hb dX12_order_14 rfl (lv_at hl 2 rfl) ?_
    have hFc := tw_free hF hS hA
    refine va_calli (va_runV (As := [.int p1]) (rest := []) ⟨hx, hb, hml, hown, hts⟩ (m_isPiece l dC dI ad av H.size a k τ ln y_1 g u p1 hI hW) (cwV 1 hts (gi_4 (List.mem_cons_of_mem _ (List.mem_append_left _ (List.mem_of_getElem? (i := 5) rfl))) (List.mem_cons_of_mem _ (List.mem_append_left _ (List.mem_of_getElem? (i := 6) rfl))) (List.mem_cons_of_mem _ (List.mem_append_left _ (List.mem_of_getElem? (i := 7) rfl))) (List.mem_cons_of_mem _ (List.mem_append_left _ (List.mem_of_getElem? (i := 4) rfl))) (fun _ hh => (List.mem_cons_of_mem _ (List.mem_append_right _ (List.mem_append_right _ (List.mem_append_right _ (List.mem_append_left _ hh)))))) gd_m_isPiece) rfl rfl rfl (by decide +kernel) ⟨Nat.le_of_ble_eq_true rfl, Nat.le_of_ble_eq_true rfl⟩) ⟨pw_blind, tw_recv hK hT (fx_50 hX) (by decide) cl_e60 rfl, pw_use hT hK hFc hS hM⟩ rfl rfl hl.1 rfl (lv_room (Nat.le_of_ble_eq_true rfl)) dX12_order_15 ⟨Nat.le_of_ble_eq_true rfl, Nat.le_of_ble_eq_true rfl⟩) hS (fun q _ h => hFc q h) hFc (fun r0 r_7 t H locs ht hvm hw hB hz1 hk1 hS => ?_)
    refine W.widen (k := 0) (n := 0) (Nat.le_of_ble_eq_true rfl) (Nat.le_of_ble_eq_true rfl) ?_
    clear hvm hz1 hk1
    subst hw
    rcases hB with ⟨hre, hf_8, hf_9, hT⟩ | ⟨hre, hf_10, hT⟩
    · refine lq_top (v := 1) hre ?_
      rw [ht] at hT
      refine lv_if_eq (tgt := 30) hx hb dX12_order_18 (by decide) (fun c_11 => absurd c_11 (by decide)) (fun c_11 => ?_)
      refine lv_aload_n hx hb dX12_order_21 rfl (lv_at hl 0 rfl) ?_
      refine lv_iload_n hx hb dX12_order_22 rfl (lv_at hl 1 rfl) ?_
      refine lv_iload_n hx hb dX12_order_23 rfl (lv_at hl 2 rfl) ?_
      have hFc := tw_free hF hS hA
      refine va_calli (va_runV (As := [.int p0, .int p1]) (rest := []) ⟨hx, hb, hml, hown, hts⟩ (m_orderOf l dC dI ad av H.size a k τ ln y_1 g u p0 p1 hI (by omega) (by omega) (by omega) (by omega) hW) (cwV 2 hts (gi_4 (List.mem_cons_of_mem _ (List.mem_append_left _ (List.mem_of_getElem? (i := 8) rfl))) (List.mem_cons_of_mem _ (List.mem_append_left _ (List.mem_of_getElem? (i := 9) rfl))) (List.mem_cons_of_mem _ (List.mem_append_left _ (List.mem_of_getElem? (i := 10) rfl))) (List.mem_cons_of_mem _ (List.mem_append_left _ (List.mem_of_getElem? (i := 4) rfl))) (fun _ hh => (List.mem_cons_of_mem _ (List.mem_append_right _ (List.mem_append_right _ (List.mem_append_right _ (List.mem_append_right _ (List.mem_append_left _ hh))))))) gd_m_orderOf) rfl rfl rfl (by decide +kernel) ⟨Nat.le_of_ble_eq_true rfl, Nat.le_of_ble_eq_true rfl⟩) ⟨pw_blind, tw_recv hK hT (fx_50 hX) (by decide) cl_e60 rfl, pw_use hT hK hFc hS hM⟩ rfl rfl hl.1 rfl (lv_room (Nat.le_of_ble_eq_true rfl)) dX12_order_24 ⟨Nat.le_of_ble_eq_true rfl, Nat.le_of_ble_eq_true rfl⟩) hS (fun q _ h => hFc q h) hFc (fun r0 r_12 t H locs ht hvm hw hB hz1 hk1 hS => ?_)
      refine W.widen (k := 0) (n := 0) (Nat.le_of_ble_eq_true rfl) (Nat.le_of_ble_eq_true rfl) ?_
      clear hvm hz1 hk1
      subst hw
      obtain ⟨y_13, g_14, hgy_13, hggg_14, hI, hT⟩ := hB
      rw [ht] at hT
      have hG := hG.tr hgy_13 (by decide)
      have hGg := hGg.tr hggg_14
      have hW : IW (u 1) (u 2) (u 9) (y_13 (a 89)) := by rw [hgy_13.at (fx_89 hX) (by decide)]; exact hW
      refine lv_goto (tgt := 34) hx hb dX12_order_27 (by decide) ?_
      exact W.iret (v := r_12) hx hb hr (fun t ht hW9 => ⟨⟨r_12, r_12, rfl, rfl, ⟨y_13, g_14, hG, hGg, hI, tw_at ht hT⟩⟩, hS.F ht⟩) hS.2.2 dX12_order_34
    · refine lq_top (v := 0) hre ?_
      rw [ht] at hT
      refine lv_if_eq (tgt := 30) hx hb dX12_order_18 (by decide) (fun c_15 => ?_) (fun c_15 => absurd c_15 (by decide))
      refine lv_aload_n hx hb dX12_order_30 rfl (lv_at hl 0 rfl) ?_
      have hFc := tw_free hF hS hA
      refine va_calli (va_runV (As := []) (rest := []) ⟨hx, hb, hml, hown, hts⟩ (m_lost l dC dI ad av H.size a k τ ln y_1 g u  hI hW) (cwV 0 hts (gi_4 (List.mem_cons_of_mem _ (List.mem_append_left _ (List.mem_of_getElem? (i := 11) rfl))) (List.mem_cons_of_mem _ (List.mem_append_left _ (List.mem_of_getElem? (i := 12) rfl))) (List.mem_cons_of_mem _ (List.mem_append_left _ (List.mem_of_getElem? (i := 13) rfl))) (List.mem_cons_of_mem _ (List.mem_append_left _ (List.mem_of_getElem? (i := 4) rfl))) (fun _ hh => (List.mem_cons_of_mem _ (List.mem_append_right _ (List.mem_append_right _ (List.mem_append_right _ (List.mem_append_right _ (List.mem_append_right _ (List.mem_append_left _ hh)))))))) gd_m_lost) rfl rfl rfl (by decide +kernel) ⟨Nat.le_of_ble_eq_true rfl, Nat.le_of_ble_eq_true rfl⟩) ⟨pw_blind, tw_recv hK hT (fx_50 hX) (by decide) cl_e60 rfl, pw_use hT hK hFc hS hM⟩ rfl rfl hl.1 rfl (lv_room (Nat.le_of_ble_eq_true rfl)) dX12_order_31 ⟨Nat.le_of_ble_eq_true rfl, Nat.le_of_ble_eq_true rfl⟩) hS (fun q _ h => hFc q h) hFc (fun r0 r_16 t H locs ht hvm hw hB hz1 hk1 hS => ?_)
      refine W.widen (k := 0) (n := 0) (Nat.le_of_ble_eq_true rfl) (Nat.le_of_ble_eq_true rfl) ?_
      clear hvm hz1 hk1
      subst hw
      obtain ⟨y_17, hgy_17, hI, hT⟩ := hB
      rw [ht] at hT
      have hG := hG.tr hgy_17 (by decide)
      have hW : IW (u 1) (u 2) (u 9) (y_17 (a 89)) := by rw [hgy_17.at (fx_89 hX) (by decide)]; exact hW
      exact W.iret (v := r_16) hx hb hr (fun t ht hW9 => ⟨⟨r_16, r_16, rfl, rfl, ⟨y_17, g, hG, hGg, hI, tw_at ht hT⟩⟩, hS.F ht⟩) hS.2.2 dX12_order_34
  · refine lq_top (v := 0) hre ?_
    rw [ht] at hT
    refine lv_if_eq (tgt := 30) hx hb dX12_order_10 (by decide) (fun c_18 => ?_) (fun c_18 => absurd c_18 (by decide))
    refine lv_aload_n hx hb dX12_order_30 rfl (lv_at hl 0 rfl) ?_
    have hFc := tw_free hF hS hA
    refine va_calli (va_runV (As := []) (rest := []) ⟨hx, hb, hml, hown, hts⟩ (m_lost l dC dI ad av H.size a k τ ln y_1 g u  hI hW) (cwV 0 hts (gi_4 (List.mem_cons_of_mem _ (List.mem_append_left _ (List.mem_of_getElem? (i := 11) rfl))) (List.mem_cons_of_mem _ (List.mem_append_left _ (List.mem_of_getElem? (i := 12) rfl))) (List.mem_cons_of_mem _ (List.mem_append_left _ (List.mem_of_getElem? (i := 13) rfl))) (List.mem_cons_of_mem _ (List.mem_append_left _ (List.mem_of_getElem? (i := 4) rfl))) (fun _ hh => (List.mem_cons_of_mem _ (List.mem_append_right _ (List.mem_append_right _ (List.mem_append_right _ (List.mem_append_right _ (List.mem_append_right _ (List.mem_append_left _ hh)))))))) gd_m_lost) rfl rfl rfl (by decide +kernel) ⟨Nat.le_of_ble_eq_true rfl, Nat.le_of_ble_eq_true rfl⟩) ⟨pw_blind, tw_recv hK hT (fx_50 hX) (by decide) cl_e60 rfl, pw_use hT hK hFc hS hM⟩ rfl rfl hl.1 rfl (lv_room (Nat.le_of_ble_eq_true rfl)) dX12_order_31 ⟨Nat.le_of_ble_eq_true rfl, Nat.le_of_ble_eq_true rfl⟩) hS (fun q _ h => hFc q h) hFc (fun r0 r_19 t H locs ht hvm hw hB hz1 hk1 hS => ?_)
    refine W.widen (k := 0) (n := 0) (Nat.le_of_ble_eq_true rfl) (Nat.le_of_ble_eq_true rfl) ?_
    clear hvm hz1 hk1
    subst hw
    obtain ⟨y_20, hgy_20, hI, hT⟩ := hB
    rw [ht] at hT
    have hG := hG.tr hgy_20 (by decide)
    have hW : IW (u 1) (u 2) (u 9) (y_20 (a 89)) := by rw [hgy_20.at (fx_89 hX) (by decide)]; exact hW
    exact W.iret (v := r_19) hx hb hr (fun t ht hW9 => ⟨⟨r_19, r_19, rfl, rfl, ⟨y_20, g, hG, hGg, hI, tw_at ht hT⟩⟩, hS.F ht⟩) hS.2.2 dX12_order_34
def wo_m_goes : List Cond := [.fieldLink RX12 139 "TypingPoolModel" "thrown" "I", .methodLink RX12 315 yX12_isPiece, .instanceMethod yX12_isPiece, .selects RX12 yX12_isPiece yX12_isPiece, .initialized RX12, .methodLink RX12 261 yX12_piece, .instanceMethod yX12_piece, .selects RX12 yX12_piece yX12_piece, .fieldLink RX12 152 "TypingPoolModel" "postMany" "I", .fieldLink RX12 9 "TypingPoolModel" "posts" "[I"]
def wm_m_goes : List Cond := .code yX12_goes cX12_goes 6 (some .int) :: (wo_m_goes ++ (wsX120 ++ (wm_m_isPiece ++ (wm_m_pieceG ++ ([] : List Cond)))))
theorem gd_m_goes : ∀ w ∈ wm_m_goes, goodWord w = true := gd_c rfl (gd_a (by decide) (gd_a gd_wsX120 (gd_a gd_m_isPiece (gd_a gd_m_pieceG gd_nil))))
set_option maxRecDepth 20000 in
theorem im_m_goes : ∀ w ∈ wm_m_goes, w ∈ lw_tbl := im_c (in_r [.code yX12_goes cX12_goes 6 (some .int)] [1615] (by decide +kernel)) (in_app (in_r wo_m_goes [1278, 1596, 1598, 55, 86, 1556, 1558, 50, 1242, 1241] (by decide +kernel)) (in_app im_wsX120 (in_app im_m_isPiece (in_app im_m_pieceG im_nil))))
set_option maxHeartbeats 4000000 in
set_option maxRecDepth 100000 in
theorem m_goes (l : Launch) (dC : Nat → ClassId) (dI : Nat → Nat → Nat) (ad av : Nat → Nat) (sz : Nat) (a : Nat → Nat) (k : Nat → ClassId) (τ ln : Nat → Nat) (y : Nat → Nat → Int32) (g : Nat → Nat → Option Nat) (u : Nat → Int) (p0 : Int32) (hI : IM a u τ y) (hW : IW (u 1) (u 2) (u 9) (y (a 89))) : Met l yX12_goes wm_m_goes ({ frames := 2, cells := 0, slots := 0, locals := 120 }) (pw_ ad av (dC, dI) sz [.ref (a 50), .int p0] a k τ ln y g) (va_Qi (fun (r u : Int32) => u = r) (fun (r : Int32) (t : State) => (∃ (y' : Nat → Nat → Int32) (g' : Nat → Nat → Option Nat), ag τ [60] y y' ∧ agg τ g g' ∧ IM a u τ y' ∧ tw (dC, dI) a k τ ln y' g' t.heap)) (fr τ sz)) 0 0 (fr τ sz) := by
  refine Met.ofW (cc := cX12_goes) (maxL := 6) (ret := (some .int)) (by decide) rfl ?_
  intro p e s m args below meth c s₁ B hml hv
  obtain ⟨rfl, hsz, hT, hK, hM⟩ := hv
  have hx := B.exec
  have hb := B.bytes
  have hr := B.returns
  have hts := atoms_spec (ws := wm_m_goes) B.pre
  have hown : s.vm.findClass RX12 = some m.cls := findClass_of_methodNamed B.named
  have hlocks := B.notSynchronized
  subst hsz
  generalize hAe : fr τ s.heap.size = A at hM ⊢
  have hA : ∀ q : Nat, s.heap.size ≤ q → A q := fun q h => by rw [← hAe]; exact Or.inr h
  have hF : ∀ q, τ q ≠ 0 → A q := fun q h => by rw [← hAe]; exact Or.inl h
  have hS : va_S A s.heap s.heap [] := va_S.rf
  have hX := hI.1
  have hR := im_r hI
  have hG : ag τ [60] y y := ag.rf
  have hGg : agg τ g g := agg.rf
  have hl := lv_entry ([.ref (a 50), .int p0]) (n := 6) (Nat.le_of_ble_eq_true rfl)
  rw [lg_entry_eq]
  generalize (lg_sl ([.ref (a 50), .int p0]) ++ List.replicate (6 - (lg_sl ([.ref (a 50), .int p0])).length) Slot.unset).toArray = ls at hl ⊢
  have hl : lv_has ls 6 [(0, .ref (a 50)), (1, .int p0)] := hl
  refine lv_aload_n hx hb dX12_goes_0 rfl (lv_at hl 0 rfl) ?_
  refine lv_iconst (v := 0) hx hb dX12_goes_1 (by decide) ?_
  refine tw_put (D := (dC, dI)) (x := 0) (ty := .int) (C := RX12) (T := TX12) (N := 58) hx hb hts (fun _ hh => (List.mem_cons_of_mem _ (List.mem_append_right _ (List.mem_append_left _ hh)))) tyX12 tyX12_ok nmX12 hown hK hT hF hS (fx_50 hX) (by decide) cl_e60 rfl 37 (by decide) (hts (.fieldLink RX12 139 "TypingPoolModel" "thrown" "I") (List.mem_cons_of_mem _ (List.mem_append_left _ (List.mem_of_getElem? (i := 0) rfl)))) (fun _ h9 => h9) rfl (tyX12_ok 37 (by decide)) rfl rfl (Nat.le_of_ble_eq_true rfl) rfl dX12_goes_2 (fun H locs hT hS => ?_)
  obtain ⟨y_1, hy_1, hT⟩ : ∃ z : Nat → Nat → Int32, z = up2 y (a 50) 37 (0 : Int32) ∧ tw (dC, dI) a k τ ln z g H := ⟨_, rfl, hT⟩
  have hG : ag τ [60] y y_1 := by rw [hy_1]; exact hG.up (fx_50 hX) (by decide)
  have hW : IW (u 1) (u 2) (u 9) (y_1 (a 89)) := by rw [hy_1, up2_o (kd_ne (fx_89 hX) (fx_50 hX) (by decide))]; exact hW
  have hI := hI.put (f := 37) (x := (0 : Int32)) (by decide)
  rw [← hy_1] at hI
  refine lv_aload_n hx hb dX12_goes_5 rfl (lv_at hl 0 rfl) ?_
  refine lv_iload_n hx hb dX12_goes_6 rfl (lv_at hl 1 rfl) ?_
  have hFc := tw_free hF hS hA
  refine va_calli (va_runV (As := [.int p0]) (rest := []) ⟨hx, hb, hml, hown, hts⟩ (m_isPiece l dC dI ad av H.size a k τ ln y_1 g u p0 hI hW) (cwV 1 hts (gi_4 (List.mem_cons_of_mem _ (List.mem_append_left _ (List.mem_of_getElem? (i := 1) rfl))) (List.mem_cons_of_mem _ (List.mem_append_left _ (List.mem_of_getElem? (i := 2) rfl))) (List.mem_cons_of_mem _ (List.mem_append_left _ (List.mem_of_getElem? (i := 3) rfl))) (List.mem_cons_of_mem _ (List.mem_append_left _ (List.mem_of_getElem? (i := 4) rfl))) (fun _ hh => (List.mem_cons_of_mem _ (List.mem_append_right _ (List.mem_append_right _ (List.mem_append_left _ hh))))) gd_m_isPiece) rfl rfl rfl (by decide +kernel) ⟨Nat.le_of_ble_eq_true rfl, Nat.le_of_ble_eq_true rfl⟩) ⟨pw_blind, tw_recv hK hT (fx_50 hX) (by decide) cl_e60 rfl, pw_use hT hK hFc hS hM⟩ rfl rfl hl.1 rfl (lv_room (Nat.le_of_ble_eq_true rfl)) dX12_goes_7 ⟨Nat.le_of_ble_eq_true rfl, Nat.le_of_ble_eq_true rfl⟩) hS (fun q _ h => hFc q h) hFc (fun r0 r_2 t H locs ht hvm hw hB hz1 hk1 hS => ?_)
  refine W.widen (k := 0) (n := 0) (Nat.le_of_ble_eq_true rfl) (Nat.le_of_ble_eq_true rfl) ?_
  clear hvm hz1 hk1
  subst hw
  rcases hB with ⟨hre, hf_3, hf_4, hT⟩ | ⟨hre, hf_5, hT⟩
  · refine lq_top (v := 1) hre ?_
    rw [ht] at hT
    refine lv_if_eq (tgt := 30) hx hb dX12_goes_10 (by decide) (fun c_6 => absurd c_6 (by decide)) (fun c_6 => ?_)
    refine lv_aload_n hx hb dX12_goes_13 rfl (lv_at hl 0 rfl) ?_
    refine lv_iload_n hx hb dX12_goes_14 rfl (lv_at hl 1 rfl) ?_
    refine lv_iconst (v := 2) hx hb dX12_goes_15 (by decide) ?_
    have hFc := tw_free hF hS hA
    have hp_7 : (2 : Int32).toInt = 2 := (zk (x := 2) 2 rfl)
    refine va_calli (va_runV (As := [.int p0, .int 2]) (rest := []) ⟨hx, hb, hml, hown, hts⟩ (m_pieceG l dC dI ad av H.size a k τ ln y_1 g u p0 (2 : Int32) hI (by omega) (by omega) (by decide) (by decide) hW) (cwV 2 hts (gi_4 (List.mem_cons_of_mem _ (List.mem_append_left _ (List.mem_of_getElem? (i := 5) rfl))) (List.mem_cons_of_mem _ (List.mem_append_left _ (List.mem_of_getElem? (i := 6) rfl))) (List.mem_cons_of_mem _ (List.mem_append_left _ (List.mem_of_getElem? (i := 7) rfl))) (List.mem_cons_of_mem _ (List.mem_append_left _ (List.mem_of_getElem? (i := 4) rfl))) (fun _ hh => (List.mem_cons_of_mem _ (List.mem_append_right _ (List.mem_append_right _ (List.mem_append_right _ (List.mem_append_left _ hh)))))) gd_m_pieceG) rfl rfl rfl (by decide +kernel) ⟨Nat.le_of_ble_eq_true rfl, Nat.le_of_ble_eq_true rfl⟩) ⟨pw_blind, tw_recv hK hT (fx_50 hX) (by decide) cl_e60 rfl, pw_use hT hK hFc hS hM⟩ rfl rfl hl.1 rfl (lv_room (Nat.le_of_ble_eq_true rfl)) dX12_goes_16 ⟨Nat.le_of_ble_eq_true rfl, Nat.le_of_ble_eq_true rfl⟩) hS (fun q _ h => hFc q h) hFc (fun r0 r_8 t H locs ht hvm hw hB hz1 hk1 hS => ?_)
    refine W.widen (k := 0) (n := 0) (Nat.le_of_ble_eq_true rfl) (Nat.le_of_ble_eq_true rfl) ?_
    clear hvm hz1 hk1
    subst hw
    obtain ⟨hf_9, hT⟩ := hB
    rw [ht] at hT
    try simp only [hp_7] at hf_9
    clear hp_7
    refine lv_iconst (v := (-1)) hx hb dX12_goes_19 (by decide) ?_
    refine lv_icmp_eq (tgt := 30) hx hb dX12_goes_20 (by decide) (fun c_10 => ?_) (fun c_10 => ?_)
    · have nc_10 := z_eq rfl (zk (x := (-1)) (-1) rfl) c_10
      refine lv_iconst (v := (-1)) hx hb dX12_goes_30 (by decide) ?_
      exact W.iret (v := (-1)) hx hb hr (fun t ht hW9 => ⟨⟨(-1), (-1), rfl, rfl, ⟨y_1, g, hG, hGg, hI, tw_at ht hT⟩⟩, hS.F ht⟩) hS.2.2 dX12_goes_31
    · have nc_10 := z_ne rfl (zk (x := (-1)) (-1) rfl) c_10
      refine lv_aload_n hx hb dX12_goes_23 rfl (lv_at hl 0 rfl) ?_
      refine tw_get (D := (dC, dI)) (v := .int (y_1 (a 50) 1)) (C := RX12) (T := TX12) (N := 58) hx hb hts (fun _ hh => (List.mem_cons_of_mem _ (List.mem_append_right _ (List.mem_append_left _ hh)))) hown hK hT (fx_50 hX) (by decide) cl_e60 rfl 1 (by decide) (hts (.fieldLink RX12 152 "TypingPoolModel" "postMany" "I") (List.mem_cons_of_mem _ (List.mem_append_left _ (List.mem_of_getElem? (i := 8) rfl)))) (fun _ h9 => h9) rfl dX12_goes_24 ?_
      have hc_11 := im_0 hI
      refine lv_if_ne (tgt := 32) hx hb dX12_goes_27 (by decide) (fun c_12 => ?_) (fun c_12 => ?_)
      · have nc_12 := z_ne hc_11 (zk (x := 0) 0 rfl) c_12
        refine lv_aload_n hx hb dX12_goes_32 rfl (lv_at hl 0 rfl) ?_
        refine lv_iload_n hx hb dX12_goes_33 rfl (lv_at hl 1 rfl) ?_
        refine lv_iconst (v := 2) hx hb dX12_goes_34 (by decide) ?_
        have hFc := tw_free hF hS hA
        have hp_13 : (2 : Int32).toInt = 2 := (zk (x := 2) 2 rfl)
        refine va_calli (va_runV (As := [.int p0, .int 2]) (rest := []) ⟨hx, hb, hml, hown, hts⟩ (m_pieceG l dC dI ad av H.size a k τ ln y_1 g u p0 (2 : Int32) hI (by omega) (by omega) (by decide) (by decide) hW) (cwV 2 hts (gi_4 (List.mem_cons_of_mem _ (List.mem_append_left _ (List.mem_of_getElem? (i := 5) rfl))) (List.mem_cons_of_mem _ (List.mem_append_left _ (List.mem_of_getElem? (i := 6) rfl))) (List.mem_cons_of_mem _ (List.mem_append_left _ (List.mem_of_getElem? (i := 7) rfl))) (List.mem_cons_of_mem _ (List.mem_append_left _ (List.mem_of_getElem? (i := 4) rfl))) (fun _ hh => (List.mem_cons_of_mem _ (List.mem_append_right _ (List.mem_append_right _ (List.mem_append_right _ (List.mem_append_left _ hh)))))) gd_m_pieceG) rfl rfl rfl (by decide +kernel) ⟨Nat.le_of_ble_eq_true rfl, Nat.le_of_ble_eq_true rfl⟩) ⟨pw_blind, tw_recv hK hT (fx_50 hX) (by decide) cl_e60 rfl, pw_use hT hK hFc hS hM⟩ rfl rfl hl.1 rfl (lv_room (Nat.le_of_ble_eq_true rfl)) dX12_goes_35 ⟨Nat.le_of_ble_eq_true rfl, Nat.le_of_ble_eq_true rfl⟩) hS (fun q _ h => hFc q h) hFc (fun r0 r_14 t H locs ht hvm hw hB hz1 hk1 hS => ?_)
        refine W.widen (k := 0) (n := 0) (Nat.le_of_ble_eq_true rfl) (Nat.le_of_ble_eq_true rfl) ?_
        clear hvm hz1 hk1
        subst hw
        obtain ⟨hf_15, hT⟩ := hB
        rw [ht] at hT
        try simp only [hp_13] at hf_15
        clear hp_13
        refine lv_istore_n (lv' := [(2, .int r_14), (0, .ref (a 50)), (1, .int p0)]) hx hb dX12_goes_38 rfl hl (by decide) rfl (fun ls hl => ?_)
        refine lv_iconst (v := (-1)) hx hb dX12_goes_39 (by decide) ?_
        refine lv_istore_n (lv' := [(3, .int (-1)), (2, .int r_14), (0, .ref (a 50)), (1, .int p0)]) hx hb dX12_goes_40 rfl hl (by decide) rfl (fun ls hl => ?_)
        refine lv_iconst (v := 0) hx hb dX12_goes_41 (by decide) ?_
        refine lv_istore (lv' := [(4, .int 0), (3, .int (-1)), (2, .int r_14), (0, .ref (a 50)), (1, .int p0)]) hx hb dX12_goes_42 hl (by decide) rfl (fun ls hl => ?_)
        have loop_44 : ∀ (n : Nat) (w3 : Int32) (i4 : Int32) (y_L44 : Nat → Nat → Int32) (g_L44 : Nat → Nat → Option Nat) (H : Heap) (locs : List Loc) (ls : Array Slot), (u 0 - i4.toInt).toNat < n → ag τ [60] y y_L44 → IM a u τ y_L44 → agg τ g g_L44 → IW (u 1) (u 2) (u 9) (y_L44 (a 89)) → 0 ≤ i4.toInt → i4.toInt ≤ u 0 → tw (dC, dI) a k τ ln y_L44 g_L44 H → va_S A s.heap H locs → lv_has ls 6 [(0, .ref (a 50)), (1, .int p0), (2, .int r_14), (3, .int w3), (4, .int i4)] → W p l e (headSpec wm_m_goes ({ frames := 2, cells := 0, slots := 0, locals := 120 })).room s m ([.ref (a 50), .int p0] : List Value).toArray below meth c H locs 0 0 (MQ below (va_Qi (fun (r u : Int32) => u = r) (fun (r : Int32) (t : State) => (∃ (y' : Nat → Nat → Int32) (g' : Nat → Nat → Option Nat), ag τ [60] y y' ∧ agg τ g g' ∧ IM a u τ y' ∧ tw (dC, dI) a k τ ln y' g' t.heap)) A) ([.ref (a 50), .int p0] : List Value).toArray s 0 0 A) (F0 m 44 ls []) := by
          intro n
          induction n with
          | zero => intro w3 i4 y_L44 g_L44 H locs ls hlt; exact absurd hlt (Nat.not_lt_zero _)
          | succ n ih_44 =>
            intro w3 i4 y_L44 g_L44 H locs ls hlt hG hI hGg hW hi44_0 hi44_1 hT hS hl
            refine lv_iload hx hb dX12_goes_44 (lv_at hl 4 rfl) ?_
            refine lv_aload_n hx hb dX12_goes_46 rfl (lv_at hl 0 rfl) ?_
            refine tw_get (D := (dC, dI)) (v := .int (y_L44 (a 50) 1)) (C := RX12) (T := TX12) (N := 58) hx hb hts (fun _ hh => (List.mem_cons_of_mem _ (List.mem_append_right _ (List.mem_append_left _ hh)))) hown hK hT (fx_50 hX) (by decide) cl_e60 rfl 1 (by decide) (hts (.fieldLink RX12 152 "TypingPoolModel" "postMany" "I") (List.mem_cons_of_mem _ (List.mem_append_left _ (List.mem_of_getElem? (i := 8) rfl)))) (fun _ h9 => h9) rfl dX12_goes_47 ?_
            have hc_16 := im_0 hI
            refine lv_icmp_ge (tgt := 104) hx hb dX12_goes_50 (by decide) (fun c_17 => ?_) (fun c_17 => ?_)
            · have nc_17 := z_le hc_16 rfl c_17
              refine lv_iload_n hx hb dX12_goes_104 rfl (lv_at hl 3 rfl) ?_
              exact W.iret (v := w3) hx hb hr (fun t ht hW9 => ⟨⟨w3, w3, rfl, rfl, ⟨y_L44, g_L44, hG, hGg, hI, tw_at ht hT⟩⟩, hS.F ht⟩) hS.2.2 dX12_goes_105
            · have nc_17 := z_nle hc_16 rfl c_17
              refine lv_iload_n hx hb dX12_goes_53 rfl (lv_at hl 2 rfl) ?_
              refine lv_sipush (v := 480) hx hb dX12_goes_54 (by decide) ?_
              refine lv_idiv hx hb dX12_goes_57 (by decide) ?_
              refine lv_topi (fun x_18 ex_18 => ?_)
              refine lv_sipush (v := 480) hx hb dX12_goes_58 (by decide) ?_
              refine lv_imul hx hb dX12_goes_61 ?_
              refine lv_topi (fun x_19 ex_19 => ?_)
              refine lv_aload_n hx hb dX12_goes_62 rfl (lv_at hl 0 rfl) ?_
              refine tw_get (D := (dC, dI)) (v := .ref (a 51)) (C := RX12) (T := TX12) (N := 58) hx hb hts (fun _ hh => (List.mem_cons_of_mem _ (List.mem_append_right _ (List.mem_append_left _ hh)))) hown hK hT (fx_50 hX) (by decide) cl_e60 rfl 0 (by decide) (hts (.fieldLink RX12 9 "TypingPoolModel" "posts" "[I") (List.mem_cons_of_mem _ (List.mem_append_left _ (List.mem_of_getElem? (i := 9) rfl)))) (fun _ h9 => h9) rfl dX12_goes_63 ?_
              refine lv_iload hx hb dX12_goes_66 (lv_at hl 4 rfl) ?_
              refine tw_iald hx hb hK hT 0 (fx_51 hX) (by decide) cl_e61 rfl (z_in rfl (by omega) (by omega)) dX12_goes_68 ?_
              refine lv_iadd hx hb dX12_goes_69 ?_
              refine lv_topi (fun x_20 ex_20 => ?_)
              refine lv_istore (lv' := [(5, .int x_20), (0, .ref (a 50)), (1, .int p0), (2, .int r_14), (3, .int w3), (4, .int i4)]) hx hb dX12_goes_70 hl (by decide) rfl (fun ls hl => ?_)
              refine lv_iload hx hb dX12_goes_72 (lv_at hl 0 rfl) ?_
              refine lv_iload_n hx hb dX12_goes_74 rfl (lv_at hl 3 rfl) ?_
              refine lv_icmp_ge (tgt := 84) hx hb dX12_goes_75 (by decide) (fun c_21 => ?_) (fun c_21 => ?_)
              · have nc_21 := z_le rfl rfl c_21
                refine lv_iload_n hx hb dX12_goes_84 rfl (lv_at hl 4 rfl) ?_
                refine lv_iconst (v := (-1)) hx hb dX12_goes_85 (by decide) ?_
                refine lv_icmp_eq (tgt := 95) hx hb dX12_goes_86 (by decide) (fun c_22 => ?_) (fun c_22 => ?_)
                · have nc_22 := z_eq rfl (zk (x := (-1)) (-1) rfl) c_22
                  refine lv_iload hx hb dX12_goes_95 (lv_at hl 0 rfl) ?_
                  refine lv_istore_n (lv' := [(3, .int x_20), (5, .int x_20), (0, .ref (a 50)), (1, .int p0), (2, .int r_14), (4, .int i4)]) hx hb dX12_goes_97 rfl hl (by decide) rfl (fun ls hl => ?_)
                  obtain ⟨x_23, ex_23⟩ : ∃ y : Int32, y = i4 + Int32.ofInt 1 := ⟨_, rfl⟩
                  have hx_23 := z_add ex_23 rfl (zk (x := Int32.ofInt 1) 1 rfl) (by omega) (by omega)
                  refine lv_iinc (v := x_23) (lv' := [(4, .int x_23), (3, .int x_20), (5, .int x_20), (0, .ref (a 50)), (1, .int p0), (2, .int r_14)]) hx hb dX12_goes_98 hl (k := 5) rfl ex_23.symm (by decide) rfl (fun ls hl => ?_)
                  refine lv_goto (tgt := 44) hx hb dX12_goes_101 (by decide) ?_
                  exact ih_44  x_20 x_23 y_L44 g_L44 H _ ls (by omega) hG hI hGg hW (by omega) (by omega) hT hS (lv_sub hl [3, 4, 5, 1, 0] rfl)
                · have nc_22 := z_ne rfl (zk (x := (-1)) (-1) rfl) c_22
                  refine lv_iload hx hb dX12_goes_89 (lv_at hl 0 rfl) ?_
                  refine lv_iload_n hx hb dX12_goes_91 rfl (lv_at hl 4 rfl) ?_
                  refine lv_icmp_ge (tgt := 98) hx hb dX12_goes_92 (by decide) (fun c_24 => ?_) (fun c_24 => ?_)
                  · have nc_24 := z_le rfl rfl c_24
                    obtain ⟨x_25, ex_25⟩ : ∃ y : Int32, y = i4 + Int32.ofInt 1 := ⟨_, rfl⟩
                    have hx_25 := z_add ex_25 rfl (zk (x := Int32.ofInt 1) 1 rfl) (by omega) (by omega)
                    refine lv_iinc (v := x_25) (lv' := [(4, .int x_25), (5, .int x_20), (0, .ref (a 50)), (1, .int p0), (2, .int r_14), (3, .int w3)]) hx hb dX12_goes_98 hl (k := 5) rfl ex_25.symm (by decide) rfl (fun ls hl => ?_)
                    refine lv_goto (tgt := 44) hx hb dX12_goes_101 (by decide) ?_
                    exact ih_44  w3 x_25 y_L44 g_L44 H _ ls (by omega) hG hI hGg hW (by omega) (by omega) hT hS (lv_sub hl [2, 3, 4, 5, 0] rfl)
                  · have nc_24 := z_nle rfl rfl c_24
                    refine lv_iload hx hb dX12_goes_95 (lv_at hl 0 rfl) ?_
                    refine lv_istore_n (lv' := [(3, .int x_20), (5, .int x_20), (0, .ref (a 50)), (1, .int p0), (2, .int r_14), (4, .int i4)]) hx hb dX12_goes_97 rfl hl (by decide) rfl (fun ls hl => ?_)
                    obtain ⟨x_26, ex_26⟩ : ∃ y : Int32, y = i4 + Int32.ofInt 1 := ⟨_, rfl⟩
                    have hx_26 := z_add ex_26 rfl (zk (x := Int32.ofInt 1) 1 rfl) (by omega) (by omega)
                    refine lv_iinc (v := x_26) (lv' := [(4, .int x_26), (3, .int x_20), (5, .int x_20), (0, .ref (a 50)), (1, .int p0), (2, .int r_14)]) hx hb dX12_goes_98 hl (k := 5) rfl ex_26.symm (by decide) rfl (fun ls hl => ?_)
                    refine lv_goto (tgt := 44) hx hb dX12_goes_101 (by decide) ?_
                    exact ih_44  x_20 x_26 y_L44 g_L44 H _ ls (by omega) hG hI hGg hW (by omega) (by omega) hT hS (lv_sub hl [3, 4, 5, 1, 0] rfl)
              · have nc_21 := z_nle rfl rfl c_21
                obtain ⟨x_27, ex_27⟩ : ∃ y : Int32, y = x_20 + Int32.ofInt 480 := ⟨_, rfl⟩
                refine lv_iincW (v := x_27) (lv' := [(5, .int x_27), (0, .ref (a 50)), (1, .int p0), (2, .int r_14), (3, .int w3), (4, .int i4)]) hx hb dX12_goes_78 hl (k := 0) rfl ex_27.symm (by decide) rfl (fun ls hl => ?_)
                refine lv_iload_n hx hb dX12_goes_84 rfl (lv_at hl 4 rfl) ?_
                refine lv_iconst (v := (-1)) hx hb dX12_goes_85 (by decide) ?_
                refine lv_icmp_eq (tgt := 95) hx hb dX12_goes_86 (by decide) (fun c_28 => ?_) (fun c_28 => ?_)
                · have nc_28 := z_eq rfl (zk (x := (-1)) (-1) rfl) c_28
                  refine lv_iload hx hb dX12_goes_95 (lv_at hl 0 rfl) ?_
                  refine lv_istore_n (lv' := [(3, .int x_27), (5, .int x_27), (0, .ref (a 50)), (1, .int p0), (2, .int r_14), (4, .int i4)]) hx hb dX12_goes_97 rfl hl (by decide) rfl (fun ls hl => ?_)
                  obtain ⟨x_29, ex_29⟩ : ∃ y : Int32, y = i4 + Int32.ofInt 1 := ⟨_, rfl⟩
                  have hx_29 := z_add ex_29 rfl (zk (x := Int32.ofInt 1) 1 rfl) (by omega) (by omega)
                  refine lv_iinc (v := x_29) (lv' := [(4, .int x_29), (3, .int x_27), (5, .int x_27), (0, .ref (a 50)), (1, .int p0), (2, .int r_14)]) hx hb dX12_goes_98 hl (k := 5) rfl ex_29.symm (by decide) rfl (fun ls hl => ?_)
                  refine lv_goto (tgt := 44) hx hb dX12_goes_101 (by decide) ?_
                  exact ih_44  x_27 x_29 y_L44 g_L44 H _ ls (by omega) hG hI hGg hW (by omega) (by omega) hT hS (lv_sub hl [3, 4, 5, 1, 0] rfl)
                · have nc_28 := z_ne rfl (zk (x := (-1)) (-1) rfl) c_28
                  refine lv_iload hx hb dX12_goes_89 (lv_at hl 0 rfl) ?_
                  refine lv_iload_n hx hb dX12_goes_91 rfl (lv_at hl 4 rfl) ?_
                  refine lv_icmp_ge (tgt := 98) hx hb dX12_goes_92 (by decide) (fun c_30 => ?_) (fun c_30 => ?_)
                  · have nc_30 := z_le rfl rfl c_30
                    obtain ⟨x_31, ex_31⟩ : ∃ y : Int32, y = i4 + Int32.ofInt 1 := ⟨_, rfl⟩
                    have hx_31 := z_add ex_31 rfl (zk (x := Int32.ofInt 1) 1 rfl) (by omega) (by omega)
                    refine lv_iinc (v := x_31) (lv' := [(4, .int x_31), (5, .int x_27), (0, .ref (a 50)), (1, .int p0), (2, .int r_14), (3, .int w3)]) hx hb dX12_goes_98 hl (k := 5) rfl ex_31.symm (by decide) rfl (fun ls hl => ?_)
                    refine lv_goto (tgt := 44) hx hb dX12_goes_101 (by decide) ?_
                    exact ih_44  w3 x_31 y_L44 g_L44 H _ ls (by omega) hG hI hGg hW (by omega) (by omega) hT hS (lv_sub hl [2, 3, 4, 5, 0] rfl)
                  · have nc_30 := z_nle rfl rfl c_30
                    refine lv_iload hx hb dX12_goes_95 (lv_at hl 0 rfl) ?_
                    refine lv_istore_n (lv' := [(3, .int x_27), (5, .int x_27), (0, .ref (a 50)), (1, .int p0), (2, .int r_14), (4, .int i4)]) hx hb dX12_goes_97 rfl hl (by decide) rfl (fun ls hl => ?_)
                    obtain ⟨x_32, ex_32⟩ : ∃ y : Int32, y = i4 + Int32.ofInt 1 := ⟨_, rfl⟩
                    have hx_32 := z_add ex_32 rfl (zk (x := Int32.ofInt 1) 1 rfl) (by omega) (by omega)
                    refine lv_iinc (v := x_32) (lv' := [(4, .int x_32), (3, .int x_27), (5, .int x_27), (0, .ref (a 50)), (1, .int p0), (2, .int r_14)]) hx hb dX12_goes_98 hl (k := 5) rfl ex_32.symm (by decide) rfl (fun ls hl => ?_)
                    refine lv_goto (tgt := 44) hx hb dX12_goes_101 (by decide) ?_
                    exact ih_44  x_27 x_32 y_L44 g_L44 H _ ls (by omega) hG hI hGg hW (by omega) (by omega) hT hS (lv_sub hl [3, 4, 5, 1, 0] rfl)
        have hp_33 : (-1 : Int32).toInt = (-1) := (zk (x := (-1)) (-1) rfl)
        have hp_34 : (0 : Int32).toInt = 0 := (zk (x := 0) 0 rfl)
        exact loop_44 _ (-1 : Int32) (0 : Int32) y_1 g H _ ls (Nat.lt_succ_self _) hG hI hGg hW (by omega) (by omega) hT hS (lv_sub hl [3, 4, 2, 1, 0] rfl)
      · have nc_12 := z_eq hc_11 (zk (x := 0) 0 rfl) c_12
        refine lv_iconst (v := (-1)) hx hb dX12_goes_30 (by decide) ?_
        exact W.iret (v := (-1)) hx hb hr (fun t ht hW9 => ⟨⟨(-1), (-1), rfl, rfl, ⟨y_1, g, hG, hGg, hI, tw_at ht hT⟩⟩, hS.F ht⟩) hS.2.2 dX12_goes_31
  · refine lq_top (v := 0) hre ?_
    rw [ht] at hT
    refine lv_if_eq (tgt := 30) hx hb dX12_goes_10 (by decide) (fun c_35 => ?_) (fun c_35 => absurd c_35 (by decide))
    refine lv_iconst (v := (-1)) hx hb dX12_goes_30 (by decide) ?_
    exact W.iret (v := (-1)) hx hb hr (fun t ht hW9 => ⟨⟨(-1), (-1), rfl, rfl, ⟨y_1, g, hG, hGg, hI, tw_at ht hT⟩⟩, hS.F ht⟩) hS.2.2 dX12_goes_31
def wo_m_count : List Cond := [.fieldLink RX12 139 "TypingPoolModel" "thrown" "I", .methodLink RX12 164 yX12_now, .instanceMethod yX12_now, .selects RX12 yX12_now yX12_now, .initialized RX12, .fieldLink RX12 142 "TypingPoolModel" "hands" "I", .fieldLink RX12 149 "TypingPoolModel" "pieces" "I", .fieldLink RX12 248 "TypingPoolModel" "rules" "I", .fieldLink RX12 321 "TypingPoolModel" "corrections" "I", .fieldLink RX12 167 "TypingPoolModel" "aways" "I", .methodLink RX12 269 yX12_waits, .instanceMethod yX12_waits, .selects RX12 yX12_waits yX12_waits, .methodLink RX12 261 yX12_piece, .instanceMethod yX12_piece, .selects RX12 yX12_piece yX12_piece, .methodLink RX12 324 yX12_lates, .instanceMethod yX12_lates, .selects RX12 yX12_lates yX12_lates, .fieldLink RX12 94 "TypingPoolModel" "as" "I", .fieldLink RX12 327 "TypingPoolModel" "rowMany" "I", .fieldLink RX12 177 "TypingPoolModel" "typed" "I", .fieldLink RX12 152 "TypingPoolModel" "postMany" "I"]
def wm_m_count : List Cond := .code yX12_count cX12_count 4 (some .int) :: (wo_m_count ++ (wsX120 ++ (wm_m_now ++ (wm_m_waits ++ (wm_m_pieceG ++ (wm_m_lates ++ ([] : List Cond)))))))
theorem gd_m_count : ∀ w ∈ wm_m_count, goodWord w = true := gd_c rfl (gd_a (by decide) (gd_a gd_wsX120 (gd_a gd_m_now (gd_a gd_m_waits (gd_a gd_m_pieceG (gd_a gd_m_lates gd_nil))))))
set_option maxRecDepth 20000 in
theorem im_m_count : ∀ w ∈ wm_m_count, w ∈ lw_tbl := im_c (in_r [.code yX12_count cX12_count 4 (some .int)] [1619] (by decide +kernel)) (in_app (in_r wo_m_count [1278, 1440, 1442, 28, 86, 1246, 1260, 1265, 1271, 1250, 1552, 1554, 49, 1556, 1558, 50, 1620, 1622, 57, 1272, 1277, 1275, 1242] (by decide +kernel)) (in_app im_wsX120 (in_app im_m_now (in_app im_m_waits (in_app im_m_pieceG (in_app im_m_lates im_nil))))))
set_option maxHeartbeats 4000000 in
set_option maxRecDepth 100000 in
theorem m_count (l : Launch) (dC : Nat → ClassId) (dI : Nat → Nat → Nat) (ad av : Nat → Nat) (sz : Nat) (a : Nat → Nat) (k : Nat → ClassId) (τ ln : Nat → Nat) (y : Nat → Nat → Int32) (g : Nat → Nat → Option Nat) (u : Nat → Int) (p0 : Int32) (hI : IM a u τ y) (hW : IW (u 1) (u 2) (u 9) (y (a 89))) : Met l yX12_count wm_m_count ({ frames := 4, cells := 0, slots := 0, locals := 200 }) (pw_ ad av (dC, dI) sz [.ref (a 50), .int p0] a k τ ln y g) (va_Qi (fun (r u : Int32) => u = r) (fun (r : Int32) (t : State) => (∃ (y' : Nat → Nat → Int32) (g' : Nat → Nat → Option Nat), ag τ [60] y y' ∧ agg τ g g' ∧ IM a u τ y' ∧ tw (dC, dI) a k τ ln y' g' t.heap)) (fr τ sz)) 0 0 (fr τ sz) := by
  refine Met.ofW (cc := cX12_count) (maxL := 4) (ret := (some .int)) (by decide) rfl ?_
  intro p e s m args below meth c s₁ B hml hv
  obtain ⟨rfl, hsz, hT, hK, hM⟩ := hv
  have hx := B.exec
  have hb := B.bytes
  have hr := B.returns
  have hts := atoms_spec (ws := wm_m_count) B.pre
  have hown : s.vm.findClass RX12 = some m.cls := findClass_of_methodNamed B.named
  have hlocks := B.notSynchronized
  subst hsz
  generalize hAe : fr τ s.heap.size = A at hM ⊢
  have hA : ∀ q : Nat, s.heap.size ≤ q → A q := fun q h => by rw [← hAe]; exact Or.inr h
  have hF : ∀ q, τ q ≠ 0 → A q := fun q h => by rw [← hAe]; exact Or.inl h
  have hS : va_S A s.heap s.heap [] := va_S.rf
  have hX := hI.1
  have hR := im_r hI
  have hG : ag τ [60] y y := ag.rf
  have hGg : agg τ g g := agg.rf
  have hl := lv_entry ([.ref (a 50), .int p0]) (n := 4) (Nat.le_of_ble_eq_true rfl)
  rw [lg_entry_eq]
  generalize (lg_sl ([.ref (a 50), .int p0]) ++ List.replicate (4 - (lg_sl ([.ref (a 50), .int p0])).length) Slot.unset).toArray = ls at hl ⊢
  have hl : lv_has ls 4 [(0, .ref (a 50)), (1, .int p0)] := hl
  refine lv_aload_n hx hb dX12_count_0 rfl (lv_at hl 0 rfl) ?_
  refine lv_iconst (v := 0) hx hb dX12_count_1 (by decide) ?_
  refine tw_put (D := (dC, dI)) (x := 0) (ty := .int) (C := RX12) (T := TX12) (N := 58) hx hb hts (fun _ hh => (List.mem_cons_of_mem _ (List.mem_append_right _ (List.mem_append_left _ hh)))) tyX12 tyX12_ok nmX12 hown hK hT hF hS (fx_50 hX) (by decide) cl_e60 rfl 37 (by decide) (hts (.fieldLink RX12 139 "TypingPoolModel" "thrown" "I") (List.mem_cons_of_mem _ (List.mem_append_left _ (List.mem_of_getElem? (i := 0) rfl)))) (fun _ h9 => h9) rfl (tyX12_ok 37 (by decide)) rfl rfl (Nat.le_of_ble_eq_true rfl) rfl dX12_count_2 (fun H locs hT hS => ?_)
  obtain ⟨y_1, hy_1, hT⟩ : ∃ z : Nat → Nat → Int32, z = up2 y (a 50) 37 (0 : Int32) ∧ tw (dC, dI) a k τ ln z g H := ⟨_, rfl, hT⟩
  have hG : ag τ [60] y y_1 := by rw [hy_1]; exact hG.up (fx_50 hX) (by decide)
  have hW : IW (u 1) (u 2) (u 9) (y_1 (a 89)) := by rw [hy_1, up2_o (kd_ne (fx_89 hX) (fx_50 hX) (by decide))]; exact hW
  have hI := hI.put (f := 37) (x := (0 : Int32)) (by decide)
  rw [← hy_1] at hI
  refine lv_iconst (v := 0) hx hb dX12_count_5 (by decide) ?_
  refine lv_istore_n (lv' := [(2, .int 0), (0, .ref (a 50)), (1, .int p0)]) hx hb dX12_count_6 rfl hl (by decide) rfl (fun ls hl => ?_)
  refine lv_iload_n hx hb dX12_count_7 rfl (lv_at hl 2 rfl) ?_
  rcases tb_0_12 p0 with t_2 | t_2 | t_2 | t_2 | t_2 | t_2 | t_2 | t_2 | t_2 | t_2 | t_2 | t_2 | t_2 | t_2
  · refine lq_top (v := 0) t_2 ?_
    have nt_2 := z_eq rfl (zk (x := 0) 0 rfl) t_2
    refine lv_tableIn (tgt := 76) hx hb dX12_count_8 (by decide) (by decide) (off := 68) (by decide) (by decide) ?_
    refine lv_aload_n hx hb dX12_count_76 rfl (lv_at hl 1 rfl) ?_
    have hFc := tw_free hF hS hA
    refine va_calli (va_runV (As := []) (rest := []) ⟨hx, hb, hml, hown, hts⟩ (m_now l dC dI ad av H.size a k τ ln y_1 g u  hI hW) (cwV 0 hts (gi_4 (List.mem_cons_of_mem _ (List.mem_append_left _ (List.mem_of_getElem? (i := 1) rfl))) (List.mem_cons_of_mem _ (List.mem_append_left _ (List.mem_of_getElem? (i := 2) rfl))) (List.mem_cons_of_mem _ (List.mem_append_left _ (List.mem_of_getElem? (i := 3) rfl))) (List.mem_cons_of_mem _ (List.mem_append_left _ (List.mem_of_getElem? (i := 4) rfl))) (fun _ hh => (List.mem_cons_of_mem _ (List.mem_append_right _ (List.mem_append_right _ (List.mem_append_left _ hh))))) gd_m_now) rfl rfl rfl (by decide +kernel) ⟨Nat.le_of_ble_eq_true rfl, Nat.le_of_ble_eq_true rfl⟩) ⟨pw_blind, tw_recv hK hT (fx_50 hX) (by decide) cl_e60 rfl, pw_use hT hK hFc hS hM⟩ rfl rfl hl.1 rfl (lv_room (Nat.le_of_ble_eq_true rfl)) dX12_count_77 ⟨Nat.le_of_ble_eq_true rfl, Nat.le_of_ble_eq_true rfl⟩) hS (fun q _ h => hFc q h) hFc (fun r0 r_3 t H locs ht hvm hw hB hz1 hk1 hS => ?_)
    refine W.widen (k := 0) (n := 0) (Nat.le_of_ble_eq_true rfl) (Nat.le_of_ble_eq_true rfl) ?_
    clear hvm hz1 hk1
    subst hw
    obtain ⟨hf_4, hT⟩ := hB
    rw [ht] at hT
    exact W.iret (v := r_3) hx hb hr (fun t ht hW9 => ⟨⟨r_3, r_3, rfl, rfl, ⟨y_1, g, hG, hGg, hI, tw_at ht hT⟩⟩, hS.F ht⟩) hS.2.2 dX12_count_80
  · refine lq_top (v := 1) t_2 ?_
    have nt_2 := z_eq rfl (zk (x := 1) 1 rfl) t_2
    refine lv_tableIn (tgt := 81) hx hb dX12_count_8 (by decide) (by decide) (off := 73) (by decide) (by decide) ?_
    refine lv_aload_n hx hb dX12_count_81 rfl (lv_at hl 1 rfl) ?_
    refine tw_get (D := (dC, dI)) (v := .int (y_1 (a 50) 5)) (C := RX12) (T := TX12) (N := 58) hx hb hts (fun _ hh => (List.mem_cons_of_mem _ (List.mem_append_right _ (List.mem_append_left _ hh)))) hown hK hT (fx_50 hX) (by decide) cl_e60 rfl 5 (by decide) (hts (.fieldLink RX12 142 "TypingPoolModel" "hands" "I") (List.mem_cons_of_mem _ (List.mem_append_left _ (List.mem_of_getElem? (i := 5) rfl)))) (fun _ h9 => h9) rfl dX12_count_82 ?_
    have hc_5 := im_1 hI
    exact W.iret (v := y_1 (a 50) 5) hx hb hr (fun t ht hW9 => ⟨⟨y_1 (a 50) 5, y_1 (a 50) 5, rfl, rfl, ⟨y_1, g, hG, hGg, hI, tw_at ht hT⟩⟩, hS.F ht⟩) hS.2.2 dX12_count_85
  · refine lq_top (v := 2) t_2 ?_
    have nt_2 := z_eq rfl (zk (x := 2) 2 rfl) t_2
    refine lv_tableIn (tgt := 86) hx hb dX12_count_8 (by decide) (by decide) (off := 78) (by decide) (by decide) ?_
    refine lv_aload_n hx hb dX12_count_86 rfl (lv_at hl 1 rfl) ?_
    refine tw_get (D := (dC, dI)) (v := .int (y_1 (a 50) 19)) (C := RX12) (T := TX12) (N := 58) hx hb hts (fun _ hh => (List.mem_cons_of_mem _ (List.mem_append_right _ (List.mem_append_left _ hh)))) hown hK hT (fx_50 hX) (by decide) cl_e60 rfl 19 (by decide) (hts (.fieldLink RX12 149 "TypingPoolModel" "pieces" "I") (List.mem_cons_of_mem _ (List.mem_append_left _ (List.mem_of_getElem? (i := 6) rfl)))) (fun _ h9 => h9) rfl dX12_count_87 ?_
    have hc_6 := im_2 hI
    exact W.iret (v := y_1 (a 50) 19) hx hb hr (fun t ht hW9 => ⟨⟨y_1 (a 50) 19, y_1 (a 50) 19, rfl, rfl, ⟨y_1, g, hG, hGg, hI, tw_at ht hT⟩⟩, hS.F ht⟩) hS.2.2 dX12_count_90
  · refine lq_top (v := 3) t_2 ?_
    have nt_2 := z_eq rfl (zk (x := 3) 3 rfl) t_2
    refine lv_tableIn (tgt := 91) hx hb dX12_count_8 (by decide) (by decide) (off := 83) (by decide) (by decide) ?_
    refine lv_aload_n hx hb dX12_count_91 rfl (lv_at hl 1 rfl) ?_
    refine tw_get (D := (dC, dI)) (v := .int (y_1 (a 50) 24)) (C := RX12) (T := TX12) (N := 58) hx hb hts (fun _ hh => (List.mem_cons_of_mem _ (List.mem_append_right _ (List.mem_append_left _ hh)))) hown hK hT (fx_50 hX) (by decide) cl_e60 rfl 24 (by decide) (hts (.fieldLink RX12 248 "TypingPoolModel" "rules" "I") (List.mem_cons_of_mem _ (List.mem_append_left _ (List.mem_of_getElem? (i := 7) rfl)))) (fun _ h9 => h9) rfl dX12_count_92 ?_
    have hc_7 := im_4 hI
    exact W.iret (v := y_1 (a 50) 24) hx hb hr (fun t ht hW9 => ⟨⟨y_1 (a 50) 24, y_1 (a 50) 24, rfl, rfl, ⟨y_1, g, hG, hGg, hI, tw_at ht hT⟩⟩, hS.F ht⟩) hS.2.2 dX12_count_95
  · refine lq_top (v := 4) t_2 ?_
    have nt_2 := z_eq rfl (zk (x := 4) 4 rfl) t_2
    refine lv_tableIn (tgt := 96) hx hb dX12_count_8 (by decide) (by decide) (off := 88) (by decide) (by decide) ?_
    refine lv_aload_n hx hb dX12_count_96 rfl (lv_at hl 1 rfl) ?_
    refine tw_get (D := (dC, dI)) (v := .int (y_1 (a 50) 30)) (C := RX12) (T := TX12) (N := 58) hx hb hts (fun _ hh => (List.mem_cons_of_mem _ (List.mem_append_right _ (List.mem_append_left _ hh)))) hown hK hT (fx_50 hX) (by decide) cl_e60 rfl 30 (by decide) (hts (.fieldLink RX12 321 "TypingPoolModel" "corrections" "I") (List.mem_cons_of_mem _ (List.mem_append_left _ (List.mem_of_getElem? (i := 8) rfl)))) (fun _ h9 => h9) rfl dX12_count_97 ?_
    have hc_8 := im_5 hI
    exact W.iret (v := y_1 (a 50) 30) hx hb hr (fun t ht hW9 => ⟨⟨y_1 (a 50) 30, y_1 (a 50) 30, rfl, rfl, ⟨y_1, g, hG, hGg, hI, tw_at ht hT⟩⟩, hS.F ht⟩) hS.2.2 dX12_count_100
  · refine lq_top (v := 5) t_2 ?_
    have nt_2 := z_eq rfl (zk (x := 5) 5 rfl) t_2
    refine lv_tableIn (tgt := 101) hx hb dX12_count_8 (by decide) (by decide) (off := 93) (by decide) (by decide) ?_
    refine lv_aload_n hx hb dX12_count_101 rfl (lv_at hl 1 rfl) ?_
    refine tw_get (D := (dC, dI)) (v := .int (y_1 (a 50) 9)) (C := RX12) (T := TX12) (N := 58) hx hb hts (fun _ hh => (List.mem_cons_of_mem _ (List.mem_append_right _ (List.mem_append_left _ hh)))) hown hK hT (fx_50 hX) (by decide) cl_e60 rfl 9 (by decide) (hts (.fieldLink RX12 167 "TypingPoolModel" "aways" "I") (List.mem_cons_of_mem _ (List.mem_append_left _ (List.mem_of_getElem? (i := 9) rfl)))) (fun _ h9 => h9) rfl dX12_count_102 ?_
    have hc_9 := im_3 hI
    exact W.iret (v := y_1 (a 50) 9) hx hb hr (fun t ht hW9 => ⟨⟨y_1 (a 50) 9, y_1 (a 50) 9, rfl, rfl, ⟨y_1, g, hG, hGg, hI, tw_at ht hT⟩⟩, hS.F ht⟩) hS.2.2 dX12_count_105
  · refine lq_top (v := 6) t_2 ?_
    have nt_2 := z_eq rfl (zk (x := 6) 6 rfl) t_2
    refine lv_tableIn (tgt := 106) hx hb dX12_count_8 (by decide) (by decide) (off := 98) (by decide) (by decide) ?_
    refine lv_iconst (v := 0) hx hb dX12_count_106 (by decide) ?_
    refine lv_istore_n (lv' := [(3, .int 0), (2, .int 0), (0, .ref (a 50)), (1, .int p0)]) hx hb dX12_count_107 rfl hl (by decide) rfl (fun ls hl => ?_)
    have loop_108 : ∀ (n : Nat) (w2 : Int32) (i3 : Int32) (y_L108 : Nat → Nat → Int32) (g_L108 : Nat → Nat → Option Nat) (H : Heap) (locs : List Loc) (ls : Array Slot), (u 2 - i3.toInt).toNat < n → ag τ [60] y y_L108 → IM a u τ y_L108 → agg τ g g_L108 → IW (u 1) (u 2) (u 9) (y_L108 (a 89)) → 0 ≤ i3.toInt → i3.toInt ≤ u 2 → tw (dC, dI) a k τ ln y_L108 g_L108 H → va_S A s.heap H locs → lv_has ls 4 [(0, .ref (a 50)), (1, .int p0), (2, .int w2), (3, .int i3)] → W p l e (headSpec wm_m_count ({ frames := 4, cells := 0, slots := 0, locals := 200 })).room s m ([.ref (a 50), .int p0] : List Value).toArray below meth c H locs 0 0 (MQ below (va_Qi (fun (r u : Int32) => u = r) (fun (r : Int32) (t : State) => (∃ (y' : Nat → Nat → Int32) (g' : Nat → Nat → Option Nat), ag τ [60] y y' ∧ agg τ g g' ∧ IM a u τ y' ∧ tw (dC, dI) a k τ ln y' g' t.heap)) A) ([.ref (a 50), .int p0] : List Value).toArray s 0 0 A) (F0 m 108 ls []) := by
      intro n
      induction n with
      | zero => intro w2 i3 y_L108 g_L108 H locs ls hlt; exact absurd hlt (Nat.not_lt_zero _)
      | succ n ih_108 =>
        intro w2 i3 y_L108 g_L108 H locs ls hlt hG hI hGg hW hi108_0 hi108_1 hT hS hl
        refine lv_iload_n hx hb dX12_count_108 rfl (lv_at hl 3 rfl) ?_
        refine lv_aload_n hx hb dX12_count_109 rfl (lv_at hl 0 rfl) ?_
        refine tw_get (D := (dC, dI)) (v := .int (y_L108 (a 50) 19)) (C := RX12) (T := TX12) (N := 58) hx hb hts (fun _ hh => (List.mem_cons_of_mem _ (List.mem_append_right _ (List.mem_append_left _ hh)))) hown hK hT (fx_50 hX) (by decide) cl_e60 rfl 19 (by decide) (hts (.fieldLink RX12 149 "TypingPoolModel" "pieces" "I") (List.mem_cons_of_mem _ (List.mem_append_left _ (List.mem_of_getElem? (i := 6) rfl)))) (fun _ h9 => h9) rfl dX12_count_110 ?_
        have hc_10 := im_2 hI
        refine lv_icmp_ge (tgt := 133) hx hb dX12_count_113 (by decide) (fun c_11 => ?_) (fun c_11 => ?_)
        · have nc_11 := z_le hc_10 rfl c_11
          refine lv_iload_n hx hb dX12_count_133 rfl (lv_at hl 2 rfl) ?_
          exact W.iret (v := w2) hx hb hr (fun t ht hW9 => ⟨⟨w2, w2, rfl, rfl, ⟨y_L108, g_L108, hG, hGg, hI, tw_at ht hT⟩⟩, hS.F ht⟩) hS.2.2 dX12_count_134
        · have nc_11 := z_nle hc_10 rfl c_11
          refine lv_aload_n hx hb dX12_count_116 rfl (lv_at hl 0 rfl) ?_
          refine lv_iload_n hx hb dX12_count_117 rfl (lv_at hl 3 rfl) ?_
          have hFc := tw_free hF hS hA
          refine va_calli (va_runV (As := [.int i3]) (rest := []) ⟨hx, hb, hml, hown, hts⟩ (m_waits l dC dI ad av H.size a k τ ln y_L108 g_L108 u i3 hI (by omega) (by omega) hW) (cwV 1 hts (gi_4 (List.mem_cons_of_mem _ (List.mem_append_left _ (List.mem_of_getElem? (i := 10) rfl))) (List.mem_cons_of_mem _ (List.mem_append_left _ (List.mem_of_getElem? (i := 11) rfl))) (List.mem_cons_of_mem _ (List.mem_append_left _ (List.mem_of_getElem? (i := 12) rfl))) (List.mem_cons_of_mem _ (List.mem_append_left _ (List.mem_of_getElem? (i := 4) rfl))) (fun _ hh => (List.mem_cons_of_mem _ (List.mem_append_right _ (List.mem_append_right _ (List.mem_append_right _ (List.mem_append_left _ hh)))))) gd_m_waits) rfl rfl rfl (by decide +kernel) ⟨Nat.le_of_ble_eq_true rfl, Nat.le_of_ble_eq_true rfl⟩) ⟨pw_blind, tw_recv hK hT (fx_50 hX) (by decide) cl_e60 rfl, pw_use hT hK hFc hS hM⟩ rfl rfl hl.1 rfl (lv_room (Nat.le_of_ble_eq_true rfl)) dX12_count_118 ⟨Nat.le_of_ble_eq_true rfl, Nat.le_of_ble_eq_true rfl⟩) hS (fun q _ h => hFc q h) hFc (fun r0 r_12 t H locs ht hvm hw hB hz1 hk1 hS => ?_)
          refine W.widen (k := 0) (n := 0) (Nat.le_of_ble_eq_true rfl) (Nat.le_of_ble_eq_true rfl) ?_
          clear hvm hz1 hk1
          subst hw
          rcases hB with ⟨hre, hT⟩ | ⟨hre, hT⟩
          · refine lq_top (v := 1) hre ?_
            rw [ht] at hT
            refine lv_if_eq (tgt := 127) hx hb dX12_count_121 (by decide) (fun c_13 => absurd c_13 (by decide)) (fun c_13 => ?_)
            obtain ⟨x_14, ex_14⟩ : ∃ y : Int32, y = w2 + Int32.ofInt 1 := ⟨_, rfl⟩
            refine lv_iinc (v := x_14) (lv' := [(2, .int x_14), (0, .ref (a 50)), (1, .int p0), (3, .int i3)]) hx hb dX12_count_124 hl (k := 2) rfl ex_14.symm (by decide) rfl (fun ls hl => ?_)
            obtain ⟨x_15, ex_15⟩ : ∃ y : Int32, y = i3 + Int32.ofInt 1 := ⟨_, rfl⟩
            have hx_15 := z_add ex_15 rfl (zk (x := Int32.ofInt 1) 1 rfl) (by omega) (by omega)
            refine lv_iinc (v := x_15) (lv' := [(3, .int x_15), (2, .int x_14), (0, .ref (a 50)), (1, .int p0)]) hx hb dX12_count_127 hl (k := 3) rfl ex_15.symm (by decide) rfl (fun ls hl => ?_)
            refine lv_goto (tgt := 108) hx hb dX12_count_130 (by decide) ?_
            exact ih_108  x_14 x_15 y_L108 g_L108 H _ ls (by omega) hG hI hGg hW (by omega) (by omega) hT hS (lv_sub hl [2, 3, 1, 0] rfl)
          · refine lq_top (v := 0) hre ?_
            rw [ht] at hT
            refine lv_if_eq (tgt := 127) hx hb dX12_count_121 (by decide) (fun c_16 => ?_) (fun c_16 => absurd c_16 (by decide))
            obtain ⟨x_17, ex_17⟩ : ∃ y : Int32, y = i3 + Int32.ofInt 1 := ⟨_, rfl⟩
            have hx_17 := z_add ex_17 rfl (zk (x := Int32.ofInt 1) 1 rfl) (by omega) (by omega)
            refine lv_iinc (v := x_17) (lv' := [(3, .int x_17), (0, .ref (a 50)), (1, .int p0), (2, .int w2)]) hx hb dX12_count_127 hl (k := 3) rfl ex_17.symm (by decide) rfl (fun ls hl => ?_)
            refine lv_goto (tgt := 108) hx hb dX12_count_130 (by decide) ?_
            exact ih_108  w2 x_17 y_L108 g_L108 H _ ls (by omega) hG hI hGg hW (by omega) (by omega) hT hS (lv_sub hl [1, 2, 3, 0] rfl)
    have hp_18 : (0 : Int32).toInt = 0 := (zk (x := 0) 0 rfl)
    have hp_19 : (0 : Int32).toInt = 0 := (zk (x := 0) 0 rfl)
    exact loop_108 _ (0 : Int32) (0 : Int32) y_1 g H _ ls (Nat.lt_succ_self _) hG hI hGg hW (by omega) (by omega) hT hS (lv_sub hl [2, 3, 1, 0] rfl)
  · refine lq_top (v := 7) t_2 ?_
    have nt_2 := z_eq rfl (zk (x := 7) 7 rfl) t_2
    refine lv_tableIn (tgt := 135) hx hb dX12_count_8 (by decide) (by decide) (off := 127) (by decide) (by decide) ?_
    refine lv_iconst (v := 0) hx hb dX12_count_135 (by decide) ?_
    refine lv_istore_n (lv' := [(3, .int 0), (2, .int 0), (0, .ref (a 50)), (1, .int p0)]) hx hb dX12_count_136 rfl hl (by decide) rfl (fun ls hl => ?_)
    have loop_137 : ∀ (n : Nat) (w2 : Int32) (i3 : Int32) (y_L137 : Nat → Nat → Int32) (g_L137 : Nat → Nat → Option Nat) (H : Heap) (locs : List Loc) (ls : Array Slot), (u 2 - i3.toInt).toNat < n → ag τ [60] y y_L137 → IM a u τ y_L137 → agg τ g g_L137 → IW (u 1) (u 2) (u 9) (y_L137 (a 89)) → 0 ≤ i3.toInt → i3.toInt ≤ u 2 → tw (dC, dI) a k τ ln y_L137 g_L137 H → va_S A s.heap H locs → lv_has ls 4 [(0, .ref (a 50)), (1, .int p0), (2, .int w2), (3, .int i3)] → W p l e (headSpec wm_m_count ({ frames := 4, cells := 0, slots := 0, locals := 200 })).room s m ([.ref (a 50), .int p0] : List Value).toArray below meth c H locs 0 0 (MQ below (va_Qi (fun (r u : Int32) => u = r) (fun (r : Int32) (t : State) => (∃ (y' : Nat → Nat → Int32) (g' : Nat → Nat → Option Nat), ag τ [60] y y' ∧ agg τ g g' ∧ IM a u τ y' ∧ tw (dC, dI) a k τ ln y' g' t.heap)) A) ([.ref (a 50), .int p0] : List Value).toArray s 0 0 A) (F0 m 137 ls []) := by
      intro n
      induction n with
      | zero => intro w2 i3 y_L137 g_L137 H locs ls hlt; exact absurd hlt (Nat.not_lt_zero _)
      | succ n ih_137 =>
        intro w2 i3 y_L137 g_L137 H locs ls hlt hG hI hGg hW hi137_0 hi137_1 hT hS hl
        refine lv_iload_n hx hb dX12_count_137 rfl (lv_at hl 3 rfl) ?_
        refine lv_aload_n hx hb dX12_count_138 rfl (lv_at hl 0 rfl) ?_
        refine tw_get (D := (dC, dI)) (v := .int (y_L137 (a 50) 19)) (C := RX12) (T := TX12) (N := 58) hx hb hts (fun _ hh => (List.mem_cons_of_mem _ (List.mem_append_right _ (List.mem_append_left _ hh)))) hown hK hT (fx_50 hX) (by decide) cl_e60 rfl 19 (by decide) (hts (.fieldLink RX12 149 "TypingPoolModel" "pieces" "I") (List.mem_cons_of_mem _ (List.mem_append_left _ (List.mem_of_getElem? (i := 6) rfl)))) (fun _ h9 => h9) rfl dX12_count_139 ?_
        have hc_20 := im_2 hI
        refine lv_icmp_ge (tgt := 164) hx hb dX12_count_142 (by decide) (fun c_21 => ?_) (fun c_21 => ?_)
        · have nc_21 := z_le hc_20 rfl c_21
          refine lv_iload_n hx hb dX12_count_164 rfl (lv_at hl 2 rfl) ?_
          exact W.iret (v := w2) hx hb hr (fun t ht hW9 => ⟨⟨w2, w2, rfl, rfl, ⟨y_L137, g_L137, hG, hGg, hI, tw_at ht hT⟩⟩, hS.F ht⟩) hS.2.2 dX12_count_165
        · have nc_21 := z_nle hc_20 rfl c_21
          refine lv_aload_n hx hb dX12_count_145 rfl (lv_at hl 0 rfl) ?_
          refine lv_iload_n hx hb dX12_count_146 rfl (lv_at hl 3 rfl) ?_
          refine lv_iconst (v := 2) hx hb dX12_count_147 (by decide) ?_
          have hFc := tw_free hF hS hA
          have hp_22 : (2 : Int32).toInt = 2 := (zk (x := 2) 2 rfl)
          refine va_calli (va_runV (As := [.int i3, .int 2]) (rest := []) ⟨hx, hb, hml, hown, hts⟩ (m_pieceG l dC dI ad av H.size a k τ ln y_L137 g_L137 u i3 (2 : Int32) hI (by omega) (by omega) (by decide) (by decide) hW) (cwV 2 hts (gi_4 (List.mem_cons_of_mem _ (List.mem_append_left _ (List.mem_of_getElem? (i := 13) rfl))) (List.mem_cons_of_mem _ (List.mem_append_left _ (List.mem_of_getElem? (i := 14) rfl))) (List.mem_cons_of_mem _ (List.mem_append_left _ (List.mem_of_getElem? (i := 15) rfl))) (List.mem_cons_of_mem _ (List.mem_append_left _ (List.mem_of_getElem? (i := 4) rfl))) (fun _ hh => (List.mem_cons_of_mem _ (List.mem_append_right _ (List.mem_append_right _ (List.mem_append_right _ (List.mem_append_right _ (List.mem_append_left _ hh))))))) gd_m_pieceG) rfl rfl rfl (by decide +kernel) ⟨Nat.le_of_ble_eq_true rfl, Nat.le_of_ble_eq_true rfl⟩) ⟨pw_blind, tw_recv hK hT (fx_50 hX) (by decide) cl_e60 rfl, pw_use hT hK hFc hS hM⟩ rfl rfl hl.1 rfl (lv_room (Nat.le_of_ble_eq_true rfl)) dX12_count_148 ⟨Nat.le_of_ble_eq_true rfl, Nat.le_of_ble_eq_true rfl⟩) hS (fun q _ h => hFc q h) hFc (fun r0 r_23 t H locs ht hvm hw hB hz1 hk1 hS => ?_)
          refine W.widen (k := 0) (n := 0) (Nat.le_of_ble_eq_true rfl) (Nat.le_of_ble_eq_true rfl) ?_
          clear hvm hz1 hk1
          subst hw
          obtain ⟨hf_24, hT⟩ := hB
          rw [ht] at hT
          try simp only [hp_22] at hf_24
          clear hp_22
          refine lv_iconst (v := (-1)) hx hb dX12_count_151 (by decide) ?_
          refine lv_icmp_eq (tgt := 158) hx hb dX12_count_152 (by decide) (fun c_25 => ?_) (fun c_25 => ?_)
          · have nc_25 := z_eq rfl (zk (x := (-1)) (-1) rfl) c_25
            obtain ⟨x_26, ex_26⟩ : ∃ y : Int32, y = i3 + Int32.ofInt 1 := ⟨_, rfl⟩
            have hx_26 := z_add ex_26 rfl (zk (x := Int32.ofInt 1) 1 rfl) (by omega) (by omega)
            refine lv_iinc (v := x_26) (lv' := [(3, .int x_26), (0, .ref (a 50)), (1, .int p0), (2, .int w2)]) hx hb dX12_count_158 hl (k := 3) rfl ex_26.symm (by decide) rfl (fun ls hl => ?_)
            refine lv_goto (tgt := 137) hx hb dX12_count_161 (by decide) ?_
            exact ih_137  w2 x_26 y_L137 g_L137 H _ ls (by omega) hG hI hGg hW (by omega) (by omega) hT hS (lv_sub hl [1, 2, 3, 0] rfl)
          · have nc_25 := z_ne rfl (zk (x := (-1)) (-1) rfl) c_25
            obtain ⟨x_27, ex_27⟩ : ∃ y : Int32, y = w2 + Int32.ofInt 1 := ⟨_, rfl⟩
            refine lv_iinc (v := x_27) (lv' := [(2, .int x_27), (0, .ref (a 50)), (1, .int p0), (3, .int i3)]) hx hb dX12_count_155 hl (k := 2) rfl ex_27.symm (by decide) rfl (fun ls hl => ?_)
            obtain ⟨x_28, ex_28⟩ : ∃ y : Int32, y = i3 + Int32.ofInt 1 := ⟨_, rfl⟩
            have hx_28 := z_add ex_28 rfl (zk (x := Int32.ofInt 1) 1 rfl) (by omega) (by omega)
            refine lv_iinc (v := x_28) (lv' := [(3, .int x_28), (2, .int x_27), (0, .ref (a 50)), (1, .int p0)]) hx hb dX12_count_158 hl (k := 3) rfl ex_28.symm (by decide) rfl (fun ls hl => ?_)
            refine lv_goto (tgt := 137) hx hb dX12_count_161 (by decide) ?_
            exact ih_137  x_27 x_28 y_L137 g_L137 H _ ls (by omega) hG hI hGg hW (by omega) (by omega) hT hS (lv_sub hl [2, 3, 1, 0] rfl)
    have hp_29 : (0 : Int32).toInt = 0 := (zk (x := 0) 0 rfl)
    have hp_30 : (0 : Int32).toInt = 0 := (zk (x := 0) 0 rfl)
    exact loop_137 _ (0 : Int32) (0 : Int32) y_1 g H _ ls (Nat.lt_succ_self _) hG hI hGg hW (by omega) (by omega) hT hS (lv_sub hl [2, 3, 1, 0] rfl)
  · refine lq_top (v := 8) t_2 ?_
    have nt_2 := z_eq rfl (zk (x := 8) 8 rfl) t_2
    refine lv_tableIn (tgt := 166) hx hb dX12_count_8 (by decide) (by decide) (off := 158) (by decide) (by decide) ?_
    refine lv_aload_n hx hb dX12_count_166 rfl (lv_at hl 1 rfl) ?_
    have hFc := tw_free hF hS hA
    refine va_calli (va_runV (As := []) (rest := []) ⟨hx, hb, hml, hown, hts⟩ (m_lates l dC dI ad av H.size a k τ ln y_1 g u  hI hW) (cwV 0 hts (gi_4 (List.mem_cons_of_mem _ (List.mem_append_left _ (List.mem_of_getElem? (i := 16) rfl))) (List.mem_cons_of_mem _ (List.mem_append_left _ (List.mem_of_getElem? (i := 17) rfl))) (List.mem_cons_of_mem _ (List.mem_append_left _ (List.mem_of_getElem? (i := 18) rfl))) (List.mem_cons_of_mem _ (List.mem_append_left _ (List.mem_of_getElem? (i := 4) rfl))) (fun _ hh => (List.mem_cons_of_mem _ (List.mem_append_right _ (List.mem_append_right _ (List.mem_append_right _ (List.mem_append_right _ (List.mem_append_right _ (List.mem_append_left _ hh)))))))) gd_m_lates) rfl rfl rfl (by decide +kernel) ⟨Nat.le_of_ble_eq_true rfl, Nat.le_of_ble_eq_true rfl⟩) ⟨pw_blind, tw_recv hK hT (fx_50 hX) (by decide) cl_e60 rfl, pw_use hT hK hFc hS hM⟩ rfl rfl hl.1 rfl (lv_room (Nat.le_of_ble_eq_true rfl)) dX12_count_167 ⟨Nat.le_of_ble_eq_true rfl, Nat.le_of_ble_eq_true rfl⟩) hS (fun q _ h => hFc q h) hFc (fun r0 r_31 t H locs ht hvm hw hB hz1 hk1 hS => ?_)
    refine W.widen (k := 0) (n := 0) (Nat.le_of_ble_eq_true rfl) (Nat.le_of_ble_eq_true rfl) ?_
    clear hvm hz1 hk1
    subst hw
    have hT := hB
    rw [ht] at hT
    exact W.iret (v := r_31) hx hb hr (fun t ht hW9 => ⟨⟨r_31, r_31, rfl, rfl, ⟨y_1, g, hG, hGg, hI, tw_at ht hT⟩⟩, hS.F ht⟩) hS.2.2 dX12_count_170
  · refine lq_top (v := 9) t_2 ?_
    have nt_2 := z_eq rfl (zk (x := 9) 9 rfl) t_2
    refine lv_tableIn (tgt := 171) hx hb dX12_count_8 (by decide) (by decide) (off := 163) (by decide) (by decide) ?_
    refine lv_aload_n hx hb dX12_count_171 rfl (lv_at hl 1 rfl) ?_
    refine tw_get (D := (dC, dI)) (v := .int (y_1 (a 50) 31)) (C := RX12) (T := TX12) (N := 58) hx hb hts (fun _ hh => (List.mem_cons_of_mem _ (List.mem_append_right _ (List.mem_append_left _ hh)))) hown hK hT (fx_50 hX) (by decide) cl_e60 rfl 31 (by decide) (hts (.fieldLink RX12 94 "TypingPoolModel" "as" "I") (List.mem_cons_of_mem _ (List.mem_append_left _ (List.mem_of_getElem? (i := 19) rfl)))) (fun _ h9 => h9) rfl dX12_count_172 ?_
    have hc_32 := im_8 hI
    exact W.iret (v := y_1 (a 50) 31) hx hb hr (fun t ht hW9 => ⟨⟨y_1 (a 50) 31, y_1 (a 50) 31, rfl, rfl, ⟨y_1, g, hG, hGg, hI, tw_at ht hT⟩⟩, hS.F ht⟩) hS.2.2 dX12_count_175
  · refine lq_top (v := 10) t_2 ?_
    have nt_2 := z_eq rfl (zk (x := 10) 10 rfl) t_2
    refine lv_tableIn (tgt := 176) hx hb dX12_count_8 (by decide) (by decide) (off := 168) (by decide) (by decide) ?_
    refine lv_aload_n hx hb dX12_count_176 rfl (lv_at hl 1 rfl) ?_
    refine tw_get (D := (dC, dI)) (v := .int (y_1 (a 50) 36)) (C := RX12) (T := TX12) (N := 58) hx hb hts (fun _ hh => (List.mem_cons_of_mem _ (List.mem_append_right _ (List.mem_append_left _ hh)))) hown hK hT (fx_50 hX) (by decide) cl_e60 rfl 36 (by decide) (hts (.fieldLink RX12 327 "TypingPoolModel" "rowMany" "I") (List.mem_cons_of_mem _ (List.mem_append_left _ (List.mem_of_getElem? (i := 20) rfl)))) (fun _ h9 => h9) rfl dX12_count_177 ?_
    have hc_33 := im_7 hI
    exact W.iret (v := y_1 (a 50) 36) hx hb hr (fun t ht hW9 => ⟨⟨y_1 (a 50) 36, y_1 (a 50) 36, rfl, rfl, ⟨y_1, g, hG, hGg, hI, tw_at ht hT⟩⟩, hS.F ht⟩) hS.2.2 dX12_count_180
  · refine lq_top (v := 11) t_2 ?_
    have nt_2 := z_eq rfl (zk (x := 11) 11 rfl) t_2
    refine lv_tableIn (tgt := 181) hx hb dX12_count_8 (by decide) (by decide) (off := 173) (by decide) (by decide) ?_
    refine lv_aload_n hx hb dX12_count_181 rfl (lv_at hl 1 rfl) ?_
    refine tw_get (D := (dC, dI)) (v := .int (y_1 (a 50) 34)) (C := RX12) (T := TX12) (N := 58) hx hb hts (fun _ hh => (List.mem_cons_of_mem _ (List.mem_append_right _ (List.mem_append_left _ hh)))) hown hK hT (fx_50 hX) (by decide) cl_e60 rfl 34 (by decide) (hts (.fieldLink RX12 177 "TypingPoolModel" "typed" "I") (List.mem_cons_of_mem _ (List.mem_append_left _ (List.mem_of_getElem? (i := 21) rfl)))) (fun _ h9 => h9) rfl dX12_count_182 ?_
    have hc_34 := im_6 hI
    exact W.iret (v := y_1 (a 50) 34) hx hb hr (fun t ht hW9 => ⟨⟨y_1 (a 50) 34, y_1 (a 50) 34, rfl, rfl, ⟨y_1, g, hG, hGg, hI, tw_at ht hT⟩⟩, hS.F ht⟩) hS.2.2 dX12_count_185
  · refine lq_top (v := 12) t_2 ?_
    have nt_2 := z_eq rfl (zk (x := 12) 12 rfl) t_2
    refine lv_tableIn (tgt := 186) hx hb dX12_count_8 (by decide) (by decide) (off := 178) (by decide) (by decide) ?_
    refine lv_aload_n hx hb dX12_count_186 rfl (lv_at hl 1 rfl) ?_
    refine tw_get (D := (dC, dI)) (v := .int (y_1 (a 50) 1)) (C := RX12) (T := TX12) (N := 58) hx hb hts (fun _ hh => (List.mem_cons_of_mem _ (List.mem_append_right _ (List.mem_append_left _ hh)))) hown hK hT (fx_50 hX) (by decide) cl_e60 rfl 1 (by decide) (hts (.fieldLink RX12 152 "TypingPoolModel" "postMany" "I") (List.mem_cons_of_mem _ (List.mem_append_left _ (List.mem_of_getElem? (i := 22) rfl)))) (fun _ h9 => h9) rfl dX12_count_187 ?_
    have hc_35 := im_0 hI
    exact W.iret (v := y_1 (a 50) 1) hx hb hr (fun t ht hW9 => ⟨⟨y_1 (a 50) 1, y_1 (a 50) 1, rfl, rfl, ⟨y_1, g, hG, hGg, hI, tw_at ht hT⟩⟩, hS.F ht⟩) hS.2.2 dX12_count_190
  · refine lv_tableOut (tgt := 191) hx hb dX12_count_8 t_2 (by decide) ?_
    refine lv_iconst (v := (-1)) hx hb dX12_count_191 (by decide) ?_
    exact W.iret (v := (-1)) hx hb hr (fun t ht hW9 => ⟨⟨(-1), (-1), rfl, rfl, ⟨y_1, g, hG, hGg, hI, tw_at ht hT⟩⟩, hS.F ht⟩) hS.2.2 dX12_count_192
def wo_m_fault : List Cond := [.fieldLink RX12 139 "TypingPoolModel" "thrown" "I", .fieldLink RX12 321 "TypingPoolModel" "corrections" "I", .methodLink RX12 145 yX12_in, .static yX12_in, .initialized RX12, .methodLink RX12 330 yX12_isKnown, .instanceMethod yX12_isKnown, .selects RX12 yX12_isKnown yX12_isKnown, .methodLink RX12 333 yX12_faultOf, .instanceMethod yX12_faultOf, .selects RX12 yX12_faultOf yX12_faultOf]
def wm_m_fault : List Cond := .code yX12_fault cX12_fault 2 (some .int) :: (wo_m_fault ++ (wsX120 ++ (wm_m_in ++ (wm_m_isKnown ++ (wm_m_faultOf ++ ([] : List Cond))))))
theorem gd_m_fault : ∀ w ∈ wm_m_fault, goodWord w = true := gd_c rfl (gd_a (by decide) (gd_a gd_wsX120 (gd_a gd_m_in (gd_a gd_m_isKnown (gd_a gd_m_faultOf gd_nil)))))
set_option maxRecDepth 20000 in
theorem im_m_fault : ∀ w ∈ wm_m_fault, w ∈ lw_tbl := im_c (in_r [.code yX12_fault cX12_fault 2 (some .int)] [1639] (by decide +kernel)) (in_app (in_r wo_m_fault [1278, 1271, 1420, 1421, 86, 1640, 1642, 58, 1644, 1646, 59] (by decide +kernel)) (in_app im_wsX120 (in_app im_m_in (in_app im_m_isKnown (in_app im_m_faultOf im_nil)))))
set_option maxHeartbeats 4000000 in
set_option maxRecDepth 100000 in
theorem m_fault (l : Launch) (dC : Nat → ClassId) (dI : Nat → Nat → Nat) (ad av : Nat → Nat) (sz : Nat) (a : Nat → Nat) (k : Nat → ClassId) (τ ln : Nat → Nat) (y : Nat → Nat → Int32) (g : Nat → Nat → Option Nat) (u : Nat → Int) (p0 : Int32) (hI : IM a u τ y) (hW : IW (u 1) (u 2) (u 9) (y (a 89))) : Met l yX12_fault wm_m_fault ({ frames := 386, cells := 0, slots := 0, locals := 25280 }) (pw_ ad av (dC, dI) sz [.ref (a 50), .int p0] a k τ ln y g) (va_Qi (fun (r u : Int32) => u = r) (fun (r : Int32) (t : State) => (∃ (y' : Nat → Nat → Int32) (g' : Nat → Nat → Option Nat), ag τ [60, 102] y y' ∧ agg τ g g' ∧ IM a u τ y' ∧ tw (dC, dI) a k τ ln y' g' t.heap)) (fr τ sz)) 0 0 (fr τ sz) := by
  refine Met.ofW (cc := cX12_fault) (maxL := 2) (ret := (some .int)) (by decide) rfl ?_
  intro p e s m args below meth c s₁ B hml hv
  obtain ⟨rfl, hsz, hT, hK, hM⟩ := hv
  have hx := B.exec
  have hb := B.bytes
  have hr := B.returns
  have hts := atoms_spec (ws := wm_m_fault) B.pre
  have hown : s.vm.findClass RX12 = some m.cls := findClass_of_methodNamed B.named
  have hlocks := B.notSynchronized
  subst hsz
  generalize hAe : fr τ s.heap.size = A at hM ⊢
  have hA : ∀ q : Nat, s.heap.size ≤ q → A q := fun q h => by rw [← hAe]; exact Or.inr h
  have hF : ∀ q, τ q ≠ 0 → A q := fun q h => by rw [← hAe]; exact Or.inl h
  have hS : va_S A s.heap s.heap [] := va_S.rf
  have hX := hI.1
  have hR := im_r hI
  have hG : ag τ [60, 102] y y := ag.rf
  have hGg : agg τ g g := agg.rf
  have hl := lv_entry ([.ref (a 50), .int p0]) (n := 2) (Nat.le_of_ble_eq_true rfl)
  rw [lg_entry_eq]
  generalize (lg_sl ([.ref (a 50), .int p0]) ++ List.replicate (2 - (lg_sl ([.ref (a 50), .int p0])).length) Slot.unset).toArray = ls at hl ⊢
  have hl : lv_has ls 2 [(0, .ref (a 50)), (1, .int p0)] := hl
  refine lv_aload_n hx hb dX12_fault_0 rfl (lv_at hl 0 rfl) ?_
  refine lv_iconst (v := 0) hx hb dX12_fault_1 (by decide) ?_
  refine tw_put (D := (dC, dI)) (x := 0) (ty := .int) (C := RX12) (T := TX12) (N := 58) hx hb hts (fun _ hh => (List.mem_cons_of_mem _ (List.mem_append_right _ (List.mem_append_left _ hh)))) tyX12 tyX12_ok nmX12 hown hK hT hF hS (fx_50 hX) (by decide) cl_e60 rfl 37 (by decide) (hts (.fieldLink RX12 139 "TypingPoolModel" "thrown" "I") (List.mem_cons_of_mem _ (List.mem_append_left _ (List.mem_of_getElem? (i := 0) rfl)))) (fun _ h9 => h9) rfl (tyX12_ok 37 (by decide)) rfl rfl (Nat.le_of_ble_eq_true rfl) rfl dX12_fault_2 (fun H locs hT hS => ?_)
  obtain ⟨y_1, hy_1, hT⟩ : ∃ z : Nat → Nat → Int32, z = up2 y (a 50) 37 (0 : Int32) ∧ tw (dC, dI) a k τ ln z g H := ⟨_, rfl, hT⟩
  have hG : ag τ [60, 102] y y_1 := by rw [hy_1]; exact hG.up (fx_50 hX) (by decide)
  have hW : IW (u 1) (u 2) (u 9) (y_1 (a 89)) := by rw [hy_1, up2_o (kd_ne (fx_89 hX) (fx_50 hX) (by decide))]; exact hW
  have hI := hI.put (f := 37) (x := (0 : Int32)) (by decide)
  rw [← hy_1] at hI
  refine lv_iload_n hx hb dX12_fault_5 rfl (lv_at hl 1 rfl) ?_
  refine lv_iconst (v := 0) hx hb dX12_fault_6 (by decide) ?_
  refine lv_aload_n hx hb dX12_fault_7 rfl (lv_at hl 0 rfl) ?_
  refine tw_get (D := (dC, dI)) (v := .int (y_1 (a 50) 30)) (C := RX12) (T := TX12) (N := 58) hx hb hts (fun _ hh => (List.mem_cons_of_mem _ (List.mem_append_right _ (List.mem_append_left _ hh)))) hown hK hT (fx_50 hX) (by decide) cl_e60 rfl 30 (by decide) (hts (.fieldLink RX12 321 "TypingPoolModel" "corrections" "I") (List.mem_cons_of_mem _ (List.mem_append_left _ (List.mem_of_getElem? (i := 1) rfl)))) (fun _ h9 => h9) rfl dX12_fault_8 ?_
  have hc_2 := im_5 hI
  refine lv_iconst (v := 1) hx hb dX12_fault_11 (by decide) ?_
  refine lv_isub hx hb dX12_fault_12 ?_
  refine lv_topi (fun x_3 ex_3 => ?_)
  have hx_3 := z_sub ex_3 hc_2 (zk (x := 1) 1 rfl) (by omega) (by omega)
  have hFc := tw_free hF hS hA
  have hp_4 : (0 : Int32).toInt = 0 := (zk (x := 0) 0 rfl)
  refine va_calli (va_runS (As := [.int p0, .int 0, .int x_3]) (rest := []) ⟨hx, hb, hml, hown, hts⟩ (m_in l dC dI ad av H.size a k τ ln y_1 g u p0 (0 : Int32) x_3  ) (va_cwS 3 hts (gi_3 (List.mem_cons_of_mem _ (List.mem_append_left _ (List.mem_of_getElem? (i := 2) rfl))) (List.mem_cons_of_mem _ (List.mem_append_left _ (List.mem_of_getElem? (i := 3) rfl))) (List.mem_cons_of_mem _ (List.mem_append_left _ (List.mem_of_getElem? (i := 4) rfl))) (fun _ hh => (List.mem_cons_of_mem _ (List.mem_append_right _ (List.mem_append_right _ (List.mem_append_left _ hh))))) gd_m_in) rfl rfl rfl (by decide +kernel) ⟨Nat.le_of_ble_eq_true rfl, Nat.le_of_ble_eq_true rfl⟩) ⟨pw_blind, pw_use hT hK hFc hS hM⟩ rfl rfl hl.1 rfl (lv_room (Nat.le_of_ble_eq_true rfl)) dX12_fault_13 ⟨Nat.le_of_ble_eq_true rfl, Nat.le_of_ble_eq_true rfl⟩) hS (fun q _ h => hFc q h) hFc (fun r0 r_5 t H locs ht hvm hw hB hz1 hk1 hS => ?_)
  refine W.widen (k := 0) (n := 0) (Nat.le_of_ble_eq_true rfl) (Nat.le_of_ble_eq_true rfl) ?_
  clear hvm hz1 hk1
  subst hw
  rcases hB with ⟨hre, hf_6, hf_7, hT⟩ | ⟨hre, hf_8, hT⟩
  · refine lq_top (v := 1) hre ?_
    rw [ht] at hT
    try simp only [hp_4] at hf_6 hf_7
    clear hp_4
    refine lv_if_eq (tgt := 35) hx hb dX12_fault_16 (by decide) (fun c_9 => absurd c_9 (by decide)) (fun c_9 => ?_)
    refine lv_aload_n hx hb dX12_fault_19 rfl (lv_at hl 0 rfl) ?_
    refine lv_iload_n hx hb dX12_fault_20 rfl (lv_at hl 1 rfl) ?_
    have hFc := tw_free hF hS hA
    refine va_calli (va_runV (As := [.int p0]) (rest := []) ⟨hx, hb, hml, hown, hts⟩ (m_isKnown l dC dI ad av H.size a k τ ln y_1 g u p0 hI (by omega) (by omega) hW) (cwV 1 hts (gi_4 (List.mem_cons_of_mem _ (List.mem_append_left _ (List.mem_of_getElem? (i := 5) rfl))) (List.mem_cons_of_mem _ (List.mem_append_left _ (List.mem_of_getElem? (i := 6) rfl))) (List.mem_cons_of_mem _ (List.mem_append_left _ (List.mem_of_getElem? (i := 7) rfl))) (List.mem_cons_of_mem _ (List.mem_append_left _ (List.mem_of_getElem? (i := 4) rfl))) (fun _ hh => (List.mem_cons_of_mem _ (List.mem_append_right _ (List.mem_append_right _ (List.mem_append_right _ (List.mem_append_left _ hh)))))) gd_m_isKnown) rfl rfl rfl (by decide +kernel) ⟨Nat.le_of_ble_eq_true rfl, Nat.le_of_ble_eq_true rfl⟩) ⟨pw_blind, tw_recv hK hT (fx_50 hX) (by decide) cl_e60 rfl, pw_use hT hK hFc hS hM⟩ rfl rfl hl.1 rfl (lv_room (Nat.le_of_ble_eq_true rfl)) dX12_fault_21 ⟨Nat.le_of_ble_eq_true rfl, Nat.le_of_ble_eq_true rfl⟩) hS (fun q _ h => hFc q h) hFc (fun r0 r_10 t H locs ht hvm hw hB hz1 hk1 hS => ?_)
    refine W.widen (k := 0) (n := 0) (Nat.le_of_ble_eq_true rfl) (Nat.le_of_ble_eq_true rfl) ?_
    clear hvm hz1 hk1
    subst hw
    rcases hB with ⟨hre, hT⟩ | ⟨hre, hT⟩
    · refine lq_top (v := 1) hre ?_
      rw [ht] at hT
      refine lv_if_eq (tgt := 35) hx hb dX12_fault_24 (by decide) (fun c_11 => absurd c_11 (by decide)) (fun c_11 => ?_)
      refine lv_aload_n hx hb dX12_fault_27 rfl (lv_at hl 0 rfl) ?_
      refine lv_iload_n hx hb dX12_fault_28 rfl (lv_at hl 1 rfl) ?_
      have hFc := tw_free hF hS hA
      refine va_calli (va_runV (As := [.int p0]) (rest := []) ⟨hx, hb, hml, hown, hts⟩ (m_faultOf l dC dI ad av H.size a k τ ln y_1 g u p0 hI (by omega) (by omega) hW) (cwV 1 hts (gi_4 (List.mem_cons_of_mem _ (List.mem_append_left _ (List.mem_of_getElem? (i := 8) rfl))) (List.mem_cons_of_mem _ (List.mem_append_left _ (List.mem_of_getElem? (i := 9) rfl))) (List.mem_cons_of_mem _ (List.mem_append_left _ (List.mem_of_getElem? (i := 10) rfl))) (List.mem_cons_of_mem _ (List.mem_append_left _ (List.mem_of_getElem? (i := 4) rfl))) (fun _ hh => (List.mem_cons_of_mem _ (List.mem_append_right _ (List.mem_append_right _ (List.mem_append_right _ (List.mem_append_right _ (List.mem_append_left _ hh))))))) gd_m_faultOf) rfl rfl rfl (by decide +kernel) ⟨Nat.le_of_ble_eq_true rfl, Nat.le_of_ble_eq_true rfl⟩) ⟨pw_blind, tw_recv hK hT (fx_50 hX) (by decide) cl_e60 rfl, pw_use hT hK hFc hS hM⟩ rfl rfl hl.1 rfl (lv_room (Nat.le_of_ble_eq_true rfl)) dX12_fault_29 ⟨Nat.le_of_ble_eq_true rfl, Nat.le_of_ble_eq_true rfl⟩) hS (fun q _ h => hFc q h) hFc (fun r0 r_12 t H locs ht hvm hw hB hz1 hk1 hS => ?_)
      refine W.widen (k := 0) (n := 0) (Nat.le_of_ble_eq_true rfl) (Nat.le_of_ble_eq_true rfl) ?_
      clear hvm hz1 hk1
      subst hw
      obtain ⟨y_13, g_14, hgy_13, hggg_14, hI, hT⟩ := hB
      rw [ht] at hT
      have hG := hG.tr hgy_13 (by decide)
      have hGg := hGg.tr hggg_14
      have hW : IW (u 1) (u 2) (u 9) (y_13 (a 89)) := by rw [hgy_13.at (fx_89 hX) (by decide)]; exact hW
      clear hc_2
      refine lv_goto (tgt := 36) hx hb dX12_fault_32 (by decide) ?_
      exact W.iret (v := r_12) hx hb hr (fun t ht hW9 => ⟨⟨r_12, r_12, rfl, rfl, ⟨y_13, g_14, hG, hGg, hI, tw_at ht hT⟩⟩, hS.F ht⟩) hS.2.2 dX12_fault_36
    · refine lq_top (v := 0) hre ?_
      rw [ht] at hT
      refine lv_if_eq (tgt := 35) hx hb dX12_fault_24 (by decide) (fun c_15 => ?_) (fun c_15 => absurd c_15 (by decide))
      refine lv_iconst (v := (-1)) hx hb dX12_fault_35 (by decide) ?_
      exact W.iret (v := (-1)) hx hb hr (fun t ht hW9 => ⟨⟨(-1), (-1), rfl, rfl, ⟨y_1, g, hG, hGg, hI, tw_at ht hT⟩⟩, hS.F ht⟩) hS.2.2 dX12_fault_36
  · refine lq_top (v := 0) hre ?_
    rw [ht] at hT
    try simp only [hp_4] at hf_8
    clear hp_4
    refine lv_if_eq (tgt := 35) hx hb dX12_fault_16 (by decide) (fun c_16 => ?_) (fun c_16 => absurd c_16 (by decide))
    refine lv_iconst (v := (-1)) hx hb dX12_fault_35 (by decide) ?_
    exact W.iret (v := (-1)) hx hb hr (fun t ht hW9 => ⟨⟨(-1), (-1), rfl, rfl, ⟨y_1, g, hG, hGg, hI, tw_at ht hT⟩⟩, hS.F ht⟩) hS.2.2 dX12_fault_36
def wo_m_faults : List Cond := [.fieldLink RX12 139 "TypingPoolModel" "thrown" "I", .methodLink RX12 160 yX12_isHand, .instanceMethod yX12_isHand, .selects RX12 yX12_isHand yX12_isHand, .initialized RX12, .methodLink RX12 145 yX12_in, .static yX12_in, .fieldLink RX12 321 "TypingPoolModel" "corrections" "I", .methodLink RX12 330 yX12_isKnown, .instanceMethod yX12_isKnown, .selects RX12 yX12_isKnown yX12_isKnown, .fieldLink RX12 82 "TypingPoolModel" "correctPiece" "[I", .methodLink RX12 261 yX12_piece, .instanceMethod yX12_piece, .selects RX12 yX12_piece yX12_piece, .methodLink RX12 333 yX12_faultOf, .instanceMethod yX12_faultOf, .selects RX12 yX12_faultOf yX12_faultOf]
def wm_m_faults : List Cond := .code yX12_faults cX12_faults 5 (some .int) :: (wo_m_faults ++ (wsX120 ++ (wm_m_isHand ++ (wm_m_in ++ (wm_m_isKnown ++ (wm_m_pieceG ++ (wm_m_faultOf ++ ([] : List Cond))))))))
theorem gd_m_faults : ∀ w ∈ wm_m_faults, goodWord w = true := gd_c rfl (gd_a (by decide) (gd_a gd_wsX120 (gd_a gd_m_isHand (gd_a gd_m_in (gd_a gd_m_isKnown (gd_a gd_m_pieceG (gd_a gd_m_faultOf gd_nil)))))))
set_option maxRecDepth 20000 in
theorem im_m_faults : ∀ w ∈ wm_m_faults, w ∈ lw_tbl := im_c (in_r [.code yX12_faults cX12_faults 5 (some .int)] [1651] (by decide +kernel)) (in_app (in_r wo_m_faults [1278, 1436, 1438, 27, 86, 1420, 1421, 1271, 1640, 1642, 58, 1267, 1556, 1558, 50, 1644, 1646, 59] (by decide +kernel)) (in_app im_wsX120 (in_app im_m_isHand (in_app im_m_in (in_app im_m_isKnown (in_app im_m_pieceG (in_app im_m_faultOf im_nil)))))))
set_option maxHeartbeats 4000000 in
set_option maxRecDepth 100000 in
theorem m_faults (l : Launch) (dC : Nat → ClassId) (dI : Nat → Nat → Nat) (ad av : Nat → Nat) (sz : Nat) (a : Nat → Nat) (k : Nat → ClassId) (τ ln : Nat → Nat) (y : Nat → Nat → Int32) (g : Nat → Nat → Option Nat) (u : Nat → Int) (p0 : Int32) (p1 : Int32) (hI : IM a u τ y) (hW : IW (u 1) (u 2) (u 9) (y (a 89))) : Met l yX12_faults wm_m_faults ({ frames := 386, cells := 0, slots := 0, locals := 25280 }) (pw_ ad av (dC, dI) sz [.ref (a 50), .int p0, .int p1] a k τ ln y g) (va_Qi (fun (r u : Int32) => u = r) (fun (r : Int32) (t : State) => (∃ (y' : Nat → Nat → Int32) (g' : Nat → Nat → Option Nat), ag τ [60, 102] y y' ∧ agg τ g g' ∧ IM a u τ y' ∧ tw (dC, dI) a k τ ln y' g' t.heap)) (fr τ sz)) 0 0 (fr τ sz) := by
  refine Met.ofW (cc := cX12_faults) (maxL := 5) (ret := (some .int)) (by decide) rfl ?_
  intro p e s m args below meth c s₁ B hml hv
  obtain ⟨rfl, hsz, hT, hK, hM⟩ := hv
  have hx := B.exec
  have hb := B.bytes
  have hr := B.returns
  have hts := atoms_spec (ws := wm_m_faults) B.pre
  have hown : s.vm.findClass RX12 = some m.cls := findClass_of_methodNamed B.named
  have hlocks := B.notSynchronized
  subst hsz
  generalize hAe : fr τ s.heap.size = A at hM ⊢
  have hA : ∀ q : Nat, s.heap.size ≤ q → A q := fun q h => by rw [← hAe]; exact Or.inr h
  have hF : ∀ q, τ q ≠ 0 → A q := fun q h => by rw [← hAe]; exact Or.inl h
  have hS : va_S A s.heap s.heap [] := va_S.rf
  have hX := hI.1
  have hR := im_r hI
  have hG : ag τ [60, 102] y y := ag.rf
  have hGg : agg τ g g := agg.rf
  have hl := lv_entry ([.ref (a 50), .int p0, .int p1]) (n := 5) (Nat.le_of_ble_eq_true rfl)
  rw [lg_entry_eq]
  generalize (lg_sl ([.ref (a 50), .int p0, .int p1]) ++ List.replicate (5 - (lg_sl ([.ref (a 50), .int p0, .int p1])).length) Slot.unset).toArray = ls at hl ⊢
  have hl : lv_has ls 5 [(0, .ref (a 50)), (1, .int p0), (2, .int p1)] := hl
  refine lv_aload_n hx hb dX12_faults_0 rfl (lv_at hl 0 rfl) ?_
  refine lv_iconst (v := 0) hx hb dX12_faults_1 (by decide) ?_
  refine tw_put (D := (dC, dI)) (x := 0) (ty := .int) (C := RX12) (T := TX12) (N := 58) hx hb hts (fun _ hh => (List.mem_cons_of_mem _ (List.mem_append_right _ (List.mem_append_left _ hh)))) tyX12 tyX12_ok nmX12 hown hK hT hF hS (fx_50 hX) (by decide) cl_e60 rfl 37 (by decide) (hts (.fieldLink RX12 139 "TypingPoolModel" "thrown" "I") (List.mem_cons_of_mem _ (List.mem_append_left _ (List.mem_of_getElem? (i := 0) rfl)))) (fun _ h9 => h9) rfl (tyX12_ok 37 (by decide)) rfl rfl (Nat.le_of_ble_eq_true rfl) rfl dX12_faults_2 (fun H locs hT hS => ?_)
  obtain ⟨y_1, hy_1, hT⟩ : ∃ z : Nat → Nat → Int32, z = up2 y (a 50) 37 (0 : Int32) ∧ tw (dC, dI) a k τ ln z g H := ⟨_, rfl, hT⟩
  have hG : ag τ [60, 102] y y_1 := by rw [hy_1]; exact hG.up (fx_50 hX) (by decide)
  have hW : IW (u 1) (u 2) (u 9) (y_1 (a 89)) := by rw [hy_1, up2_o (kd_ne (fx_89 hX) (fx_50 hX) (by decide))]; exact hW
  have hI := hI.put (f := 37) (x := (0 : Int32)) (by decide)
  rw [← hy_1] at hI
  refine lv_aload_n hx hb dX12_faults_5 rfl (lv_at hl 0 rfl) ?_
  refine lv_iload_n hx hb dX12_faults_6 rfl (lv_at hl 1 rfl) ?_
  have hFc := tw_free hF hS hA
  refine va_calli (va_runV (As := [.int p0]) (rest := []) ⟨hx, hb, hml, hown, hts⟩ (m_isHand l dC dI ad av H.size a k τ ln y_1 g u p0 hI hW) (cwV 1 hts (gi_4 (List.mem_cons_of_mem _ (List.mem_append_left _ (List.mem_of_getElem? (i := 1) rfl))) (List.mem_cons_of_mem _ (List.mem_append_left _ (List.mem_of_getElem? (i := 2) rfl))) (List.mem_cons_of_mem _ (List.mem_append_left _ (List.mem_of_getElem? (i := 3) rfl))) (List.mem_cons_of_mem _ (List.mem_append_left _ (List.mem_of_getElem? (i := 4) rfl))) (fun _ hh => (List.mem_cons_of_mem _ (List.mem_append_right _ (List.mem_append_right _ (List.mem_append_left _ hh))))) gd_m_isHand) rfl rfl rfl (by decide +kernel) ⟨Nat.le_of_ble_eq_true rfl, Nat.le_of_ble_eq_true rfl⟩) ⟨pw_blind, tw_recv hK hT (fx_50 hX) (by decide) cl_e60 rfl, pw_use hT hK hFc hS hM⟩ rfl rfl hl.1 rfl (lv_room (Nat.le_of_ble_eq_true rfl)) dX12_faults_7 ⟨Nat.le_of_ble_eq_true rfl, Nat.le_of_ble_eq_true rfl⟩) hS (fun q _ h => hFc q h) hFc (fun r0 r_2 t H locs ht hvm hw hB hz1 hk1 hS => ?_)
  refine W.widen (k := 0) (n := 0) (Nat.le_of_ble_eq_true rfl) (Nat.le_of_ble_eq_true rfl) ?_
  clear hvm hz1 hk1
  subst hw
  rcases hB with ⟨hre, hf_3, hf_4, hT⟩ | ⟨hre, hf_5, hT⟩
  · refine lq_top (v := 1) hre ?_
    rw [ht] at hT
    refine lv_if_eq (tgt := 22) hx hb dX12_faults_10 (by decide) (fun c_6 => absurd c_6 (by decide)) (fun c_6 => ?_)
    refine lv_iload_n hx hb dX12_faults_13 rfl (lv_at hl 2 rfl) ?_
    refine lv_iconst (v := 0) hx hb dX12_faults_14 (by decide) ?_
    refine lv_iconst (v := 2) hx hb dX12_faults_15 (by decide) ?_
    have hFc := tw_free hF hS hA
    have hp_7 : (0 : Int32).toInt = 0 := (zk (x := 0) 0 rfl)
    have hp_8 : (2 : Int32).toInt = 2 := (zk (x := 2) 2 rfl)
    refine va_calli (va_runS (As := [.int p1, .int 0, .int 2]) (rest := []) ⟨hx, hb, hml, hown, hts⟩ (m_in l dC dI ad av H.size a k τ ln y_1 g u p1 (0 : Int32) (2 : Int32)  ) (va_cwS 3 hts (gi_3 (List.mem_cons_of_mem _ (List.mem_append_left _ (List.mem_of_getElem? (i := 5) rfl))) (List.mem_cons_of_mem _ (List.mem_append_left _ (List.mem_of_getElem? (i := 6) rfl))) (List.mem_cons_of_mem _ (List.mem_append_left _ (List.mem_of_getElem? (i := 4) rfl))) (fun _ hh => (List.mem_cons_of_mem _ (List.mem_append_right _ (List.mem_append_right _ (List.mem_append_right _ (List.mem_append_left _ hh)))))) gd_m_in) rfl rfl rfl (by decide +kernel) ⟨Nat.le_of_ble_eq_true rfl, Nat.le_of_ble_eq_true rfl⟩) ⟨pw_blind, pw_use hT hK hFc hS hM⟩ rfl rfl hl.1 rfl (lv_room (Nat.le_of_ble_eq_true rfl)) dX12_faults_16 ⟨Nat.le_of_ble_eq_true rfl, Nat.le_of_ble_eq_true rfl⟩) hS (fun q _ h => hFc q h) hFc (fun r0 r_9 t H locs ht hvm hw hB hz1 hk1 hS => ?_)
    refine W.widen (k := 0) (n := 0) (Nat.le_of_ble_eq_true rfl) (Nat.le_of_ble_eq_true rfl) ?_
    clear hvm hz1 hk1
    subst hw
    rcases hB with ⟨hre, hf_10, hf_11, hT⟩ | ⟨hre, hf_12, hT⟩
    · refine lq_top (v := 1) hre ?_
      rw [ht] at hT
      try simp only [hp_7, hp_8] at hf_10 hf_11
      clear hp_7 hp_8
      refine lv_if_ne (tgt := 24) hx hb dX12_faults_19 (by decide) (fun c_13 => ?_) (fun c_13 => absurd c_13 (by decide))
      refine lv_iconst (v := 0) hx hb dX12_faults_24 (by decide) ?_
      refine lv_istore_n (lv' := [(3, .int 0), (0, .ref (a 50)), (1, .int p0), (2, .int p1)]) hx hb dX12_faults_25 rfl hl (by decide) rfl (fun ls hl => ?_)
      refine lv_iconst (v := 0) hx hb dX12_faults_26 (by decide) ?_
      refine lv_istore (lv' := [(4, .int 0), (3, .int 0), (0, .ref (a 50)), (1, .int p0), (2, .int p1)]) hx hb dX12_faults_27 hl (by decide) rfl (fun ls hl => ?_)
      have loop_29 : ∀ (n : Nat) (w3 : Int32) (i4 : Int32) (y_L29 : Nat → Nat → Int32) (g_L29 : Nat → Nat → Option Nat) (H : Heap) (locs : List Loc) (ls : Array Slot), (u 5 - i4.toInt).toNat < n → ag τ [60, 102] y y_L29 → IM a u τ y_L29 → agg τ g g_L29 → IW (u 1) (u 2) (u 9) (y_L29 (a 89)) → 0 ≤ i4.toInt → i4.toInt ≤ u 5 → tw (dC, dI) a k τ ln y_L29 g_L29 H → va_S A s.heap H locs → lv_has ls 5 [(0, .ref (a 50)), (1, .int p0), (2, .int p1), (3, .int w3), (4, .int i4)] → W p l e (headSpec wm_m_faults ({ frames := 386, cells := 0, slots := 0, locals := 25280 })).room s m ([.ref (a 50), .int p0, .int p1] : List Value).toArray below meth c H locs 0 0 (MQ below (va_Qi (fun (r u : Int32) => u = r) (fun (r : Int32) (t : State) => (∃ (y' : Nat → Nat → Int32) (g' : Nat → Nat → Option Nat), ag τ [60, 102] y y' ∧ agg τ g g' ∧ IM a u τ y' ∧ tw (dC, dI) a k τ ln y' g' t.heap)) A) ([.ref (a 50), .int p0, .int p1] : List Value).toArray s 0 0 A) (F0 m 29 ls []) := by
        intro n
        induction n with
        | zero => intro w3 i4 y_L29 g_L29 H locs ls hlt; exact absurd hlt (Nat.not_lt_zero _)
        | succ n ih_29 =>
          intro w3 i4 y_L29 g_L29 H locs ls hlt hG hI hGg hW hi29_0 hi29_1 hT hS hl
          refine lv_iload hx hb dX12_faults_29 (lv_at hl 4 rfl) ?_
          refine lv_aload_n hx hb dX12_faults_31 rfl (lv_at hl 0 rfl) ?_
          refine tw_get (D := (dC, dI)) (v := .int (y_L29 (a 50) 30)) (C := RX12) (T := TX12) (N := 58) hx hb hts (fun _ hh => (List.mem_cons_of_mem _ (List.mem_append_right _ (List.mem_append_left _ hh)))) hown hK hT (fx_50 hX) (by decide) cl_e60 rfl 30 (by decide) (hts (.fieldLink RX12 321 "TypingPoolModel" "corrections" "I") (List.mem_cons_of_mem _ (List.mem_append_left _ (List.mem_of_getElem? (i := 7) rfl)))) (fun _ h9 => h9) rfl dX12_faults_32 ?_
          have hc_14 := im_5 hI
          refine lv_icmp_ge (tgt := 82) hx hb dX12_faults_35 (by decide) (fun c_15 => ?_) (fun c_15 => ?_)
          · have nc_15 := z_le hc_14 rfl c_15
            refine lv_iload_n hx hb dX12_faults_82 rfl (lv_at hl 3 rfl) ?_
            exact W.iret (v := w3) hx hb hr (fun t ht hW9 => ⟨⟨w3, w3, rfl, rfl, ⟨y_L29, g_L29, hG, hGg, hI, tw_at ht hT⟩⟩, hS.F ht⟩) hS.2.2 dX12_faults_83
          · have nc_15 := z_nle hc_14 rfl c_15
            refine lv_aload_n hx hb dX12_faults_38 rfl (lv_at hl 0 rfl) ?_
            refine lv_iload hx hb dX12_faults_39 (lv_at hl 4 rfl) ?_
            have hFc := tw_free hF hS hA
            refine va_calli (va_runV (As := [.int i4]) (rest := []) ⟨hx, hb, hml, hown, hts⟩ (m_isKnown l dC dI ad av H.size a k τ ln y_L29 g_L29 u i4 hI (by omega) (by omega) hW) (cwV 1 hts (gi_4 (List.mem_cons_of_mem _ (List.mem_append_left _ (List.mem_of_getElem? (i := 8) rfl))) (List.mem_cons_of_mem _ (List.mem_append_left _ (List.mem_of_getElem? (i := 9) rfl))) (List.mem_cons_of_mem _ (List.mem_append_left _ (List.mem_of_getElem? (i := 10) rfl))) (List.mem_cons_of_mem _ (List.mem_append_left _ (List.mem_of_getElem? (i := 4) rfl))) (fun _ hh => (List.mem_cons_of_mem _ (List.mem_append_right _ (List.mem_append_right _ (List.mem_append_right _ (List.mem_append_right _ (List.mem_append_left _ hh))))))) gd_m_isKnown) rfl rfl rfl (by decide +kernel) ⟨Nat.le_of_ble_eq_true rfl, Nat.le_of_ble_eq_true rfl⟩) ⟨pw_blind, tw_recv hK hT (fx_50 hX) (by decide) cl_e60 rfl, pw_use hT hK hFc hS hM⟩ rfl rfl hl.1 rfl (lv_room (Nat.le_of_ble_eq_true rfl)) dX12_faults_41 ⟨Nat.le_of_ble_eq_true rfl, Nat.le_of_ble_eq_true rfl⟩) hS (fun q _ h => hFc q h) hFc (fun r0 r_16 t H locs ht hvm hw hB hz1 hk1 hS => ?_)
            refine W.widen (k := 0) (n := 0) (Nat.le_of_ble_eq_true rfl) (Nat.le_of_ble_eq_true rfl) ?_
            clear hvm hz1 hk1
            subst hw
            rcases hB with ⟨hre, hT⟩ | ⟨hre, hT⟩
            · refine lq_top (v := 1) hre ?_
              rw [ht] at hT
              refine lv_if_eq (tgt := 76) hx hb dX12_faults_44 (by decide) (fun c_17 => absurd c_17 (by decide)) (fun c_17 => ?_)
              refine lv_aload_n hx hb dX12_faults_47 rfl (lv_at hl 0 rfl) ?_
              refine lv_aload_n hx hb dX12_faults_48 rfl (lv_at hl 0 rfl) ?_
              refine tw_get (D := (dC, dI)) (v := .ref (a 77)) (C := RX12) (T := TX12) (N := 58) hx hb hts (fun _ hh => (List.mem_cons_of_mem _ (List.mem_append_right _ (List.mem_append_left _ hh)))) hown hK hT (fx_50 hX) (by decide) cl_e60 rfl 26 (by decide) (hts (.fieldLink RX12 82 "TypingPoolModel" "correctPiece" "[I") (List.mem_cons_of_mem _ (List.mem_append_left _ (List.mem_of_getElem? (i := 11) rfl)))) (fun _ h9 => h9) rfl dX12_faults_49 ?_
              refine lv_iload hx hb dX12_faults_52 (lv_at hl 4 rfl) ?_
              refine tw_iald hx hb hK hT 0 (fx_77 hX) (by decide) cl_e87 rfl (z_in rfl (by omega) (by omega)) dX12_faults_54 ?_
              have hv_18 := vb_at (im_a77 hI) (x := i4) rfl (by omega) (by omega)
              refine lv_iconst (v := 0) hx hb dX12_faults_55 (by decide) ?_
              have hFc := tw_free hF hS hA
              have hp_19 : (0 : Int32).toInt = 0 := (zk (x := 0) 0 rfl)
              refine va_calli (va_runV (As := [.int (y_L29 (a 77) i4.toNatClampNeg), .int 0]) (rest := []) ⟨hx, hb, hml, hown, hts⟩ (m_pieceG l dC dI ad av H.size a k τ ln y_L29 g_L29 u (y_L29 (a 77) i4.toNatClampNeg) (0 : Int32) hI (by omega) (by omega) (by decide) (by decide) hW) (cwV 2 hts (gi_4 (List.mem_cons_of_mem _ (List.mem_append_left _ (List.mem_of_getElem? (i := 12) rfl))) (List.mem_cons_of_mem _ (List.mem_append_left _ (List.mem_of_getElem? (i := 13) rfl))) (List.mem_cons_of_mem _ (List.mem_append_left _ (List.mem_of_getElem? (i := 14) rfl))) (List.mem_cons_of_mem _ (List.mem_append_left _ (List.mem_of_getElem? (i := 4) rfl))) (fun _ hh => (List.mem_cons_of_mem _ (List.mem_append_right _ (List.mem_append_right _ (List.mem_append_right _ (List.mem_append_right _ (List.mem_append_right _ (List.mem_append_left _ hh)))))))) gd_m_pieceG) rfl rfl rfl (by decide +kernel) ⟨Nat.le_of_ble_eq_true rfl, Nat.le_of_ble_eq_true rfl⟩) ⟨pw_blind, tw_recv hK hT (fx_50 hX) (by decide) cl_e60 rfl, pw_use hT hK hFc hS hM⟩ rfl rfl hl.1 rfl (lv_room (Nat.le_of_ble_eq_true rfl)) dX12_faults_56 ⟨Nat.le_of_ble_eq_true rfl, Nat.le_of_ble_eq_true rfl⟩) hS (fun q _ h => hFc q h) hFc (fun r0 r_20 t H locs ht hvm hw hB hz1 hk1 hS => ?_)
              refine W.widen (k := 0) (n := 0) (Nat.le_of_ble_eq_true rfl) (Nat.le_of_ble_eq_true rfl) ?_
              clear hvm hz1 hk1
              subst hw
              obtain ⟨hf_21, hT⟩ := hB
              rw [ht] at hT
              try simp only [hp_19] at hf_21
              clear hp_19
              refine lv_iload_n hx hb dX12_faults_59 rfl (lv_at hl 1 rfl) ?_
              refine lv_icmp_ne (tgt := 76) hx hb dX12_faults_60 (by decide) (fun c_22 => ?_) (fun c_22 => ?_)
              · have nc_22 := z_ne rfl rfl c_22
                obtain ⟨x_23, ex_23⟩ : ∃ y : Int32, y = i4 + Int32.ofInt 1 := ⟨_, rfl⟩
                have hx_23 := z_add ex_23 rfl (zk (x := Int32.ofInt 1) 1 rfl) (by omega) (by omega)
                refine lv_iinc (v := x_23) (lv' := [(4, .int x_23), (0, .ref (a 50)), (1, .int p0), (2, .int p1), (3, .int w3)]) hx hb dX12_faults_76 hl (k := 4) rfl ex_23.symm (by decide) rfl (fun ls hl => ?_)
                refine lv_goto (tgt := 29) hx hb dX12_faults_79 (by decide) ?_
                exact ih_29  w3 x_23 y_L29 g_L29 H _ ls (by omega) hG hI hGg hW (by omega) (by omega) hT hS (lv_sub hl [1, 2, 3, 4, 0] rfl)
              · have nc_22 := z_eq rfl rfl c_22
                refine lv_aload_n hx hb dX12_faults_63 rfl (lv_at hl 0 rfl) ?_
                refine lv_iload hx hb dX12_faults_64 (lv_at hl 4 rfl) ?_
                have hFc := tw_free hF hS hA
                refine va_calli (va_runV (As := [.int i4]) (rest := []) ⟨hx, hb, hml, hown, hts⟩ (m_faultOf l dC dI ad av H.size a k τ ln y_L29 g_L29 u i4 hI (by omega) (by omega) hW) (cwV 1 hts (gi_4 (List.mem_cons_of_mem _ (List.mem_append_left _ (List.mem_of_getElem? (i := 15) rfl))) (List.mem_cons_of_mem _ (List.mem_append_left _ (List.mem_of_getElem? (i := 16) rfl))) (List.mem_cons_of_mem _ (List.mem_append_left _ (List.mem_of_getElem? (i := 17) rfl))) (List.mem_cons_of_mem _ (List.mem_append_left _ (List.mem_of_getElem? (i := 4) rfl))) (fun _ hh => (List.mem_cons_of_mem _ (List.mem_append_right _ (List.mem_append_right _ (List.mem_append_right _ (List.mem_append_right _ (List.mem_append_right _ (List.mem_append_right _ (List.mem_append_left _ hh))))))))) gd_m_faultOf) rfl rfl rfl (by decide +kernel) ⟨Nat.le_of_ble_eq_true rfl, Nat.le_of_ble_eq_true rfl⟩) ⟨pw_blind, tw_recv hK hT (fx_50 hX) (by decide) cl_e60 rfl, pw_use hT hK hFc hS hM⟩ rfl rfl hl.1 rfl (lv_room (Nat.le_of_ble_eq_true rfl)) dX12_faults_66 ⟨Nat.le_of_ble_eq_true rfl, Nat.le_of_ble_eq_true rfl⟩) hS (fun q _ h => hFc q h) hFc (fun r0 r_24 t H locs ht hvm hw hB hz1 hk1 hS => ?_)
                refine W.widen (k := 0) (n := 0) (Nat.le_of_ble_eq_true rfl) (Nat.le_of_ble_eq_true rfl) ?_
                clear hvm hz1 hk1
                subst hw
                obtain ⟨y_25, g_26, hgy_25, hggg_26, hI, hT⟩ := hB
                rw [ht] at hT
                have hG := hG.tr hgy_25 (by decide)
                have hGg := hGg.tr hggg_26
                have hW : IW (u 1) (u 2) (u 9) (y_25 (a 89)) := by rw [hgy_25.at (fx_89 hX) (by decide)]; exact hW
                clear hc_14
                refine lv_iload_n hx hb dX12_faults_69 rfl (lv_at hl 2 rfl) ?_
                refine lv_icmp_ne (tgt := 76) hx hb dX12_faults_70 (by decide) (fun c_27 => ?_) (fun c_27 => ?_)
                · have nc_27 := z_ne rfl rfl c_27
                  obtain ⟨x_28, ex_28⟩ : ∃ y : Int32, y = i4 + Int32.ofInt 1 := ⟨_, rfl⟩
                  have hx_28 := z_add ex_28 rfl (zk (x := Int32.ofInt 1) 1 rfl) (by omega) (by omega)
                  refine lv_iinc (v := x_28) (lv' := [(4, .int x_28), (0, .ref (a 50)), (1, .int p0), (2, .int p1), (3, .int w3)]) hx hb dX12_faults_76 hl (k := 4) rfl ex_28.symm (by decide) rfl (fun ls hl => ?_)
                  refine lv_goto (tgt := 29) hx hb dX12_faults_79 (by decide) ?_
                  exact ih_29  w3 x_28 y_25 g_26 H _ ls (by omega) hG hI hGg hW (by omega) (by omega) hT hS (lv_sub hl [1, 2, 3, 4, 0] rfl)
                · have nc_27 := z_eq rfl rfl c_27
                  obtain ⟨x_29, ex_29⟩ : ∃ y : Int32, y = w3 + Int32.ofInt 1 := ⟨_, rfl⟩
                  refine lv_iinc (v := x_29) (lv' := [(3, .int x_29), (0, .ref (a 50)), (1, .int p0), (2, .int p1), (4, .int i4)]) hx hb dX12_faults_73 hl (k := 3) rfl ex_29.symm (by decide) rfl (fun ls hl => ?_)
                  obtain ⟨x_30, ex_30⟩ : ∃ y : Int32, y = i4 + Int32.ofInt 1 := ⟨_, rfl⟩
                  have hx_30 := z_add ex_30 rfl (zk (x := Int32.ofInt 1) 1 rfl) (by omega) (by omega)
                  refine lv_iinc (v := x_30) (lv' := [(4, .int x_30), (3, .int x_29), (0, .ref (a 50)), (1, .int p0), (2, .int p1)]) hx hb dX12_faults_76 hl (k := 4) rfl ex_30.symm (by decide) rfl (fun ls hl => ?_)
                  refine lv_goto (tgt := 29) hx hb dX12_faults_79 (by decide) ?_
                  exact ih_29  x_29 x_30 y_25 g_26 H _ ls (by omega) hG hI hGg hW (by omega) (by omega) hT hS (lv_sub hl [2, 3, 4, 1, 0] rfl)
            · refine lq_top (v := 0) hre ?_
              rw [ht] at hT
              refine lv_if_eq (tgt := 76) hx hb dX12_faults_44 (by decide) (fun c_31 => ?_) (fun c_31 => absurd c_31 (by decide))
              obtain ⟨x_32, ex_32⟩ : ∃ y : Int32, y = i4 + Int32.ofInt 1 := ⟨_, rfl⟩
              have hx_32 := z_add ex_32 rfl (zk (x := Int32.ofInt 1) 1 rfl) (by omega) (by omega)
              refine lv_iinc (v := x_32) (lv' := [(4, .int x_32), (0, .ref (a 50)), (1, .int p0), (2, .int p1), (3, .int w3)]) hx hb dX12_faults_76 hl (k := 4) rfl ex_32.symm (by decide) rfl (fun ls hl => ?_)
              refine lv_goto (tgt := 29) hx hb dX12_faults_79 (by decide) ?_
              exact ih_29  w3 x_32 y_L29 g_L29 H _ ls (by omega) hG hI hGg hW (by omega) (by omega) hT hS (lv_sub hl [1, 2, 3, 4, 0] rfl)
      have hp_33 : (0 : Int32).toInt = 0 := (zk (x := 0) 0 rfl)
      have hp_34 : (0 : Int32).toInt = 0 := (zk (x := 0) 0 rfl)
      exact loop_29 _ (0 : Int32) (0 : Int32) y_1 g H _ ls (Nat.lt_succ_self _) hG hI hGg hW (by omega) (by omega) hT hS (lv_sub hl [2, 3, 4, 1, 0] rfl)
    · refine lq_top (v := 0) hre ?_
      rw [ht] at hT
      try simp only [hp_7, hp_8] at hf_12
      clear hp_7 hp_8
      refine lv_if_ne (tgt := 24) hx hb dX12_faults_19 (by decide) (fun c_35 => absurd c_35 (by decide)) (fun c_35 => ?_)
      refine lv_iconst (v := (-1)) hx hb dX12_faults_22 (by decide) ?_
      exact W.iret (v := (-1)) hx hb hr (fun t ht hW9 => ⟨⟨(-1), (-1), rfl, rfl, ⟨y_1, g, hG, hGg, hI, tw_at ht hT⟩⟩, hS.F ht⟩) hS.2.2 dX12_faults_23
  · refine lq_top (v := 0) hre ?_
    rw [ht] at hT
    refine lv_if_eq (tgt := 22) hx hb dX12_faults_10 (by decide) (fun c_36 => ?_) (fun c_36 => absurd c_36 (by decide))
    refine lv_iconst (v := (-1)) hx hb dX12_faults_22 (by decide) ?_
    exact W.iret (v := (-1)) hx hb hr (fun t ht hW9 => ⟨⟨(-1), (-1), rfl, rfl, ⟨y_1, g, hG, hGg, hI, tw_at ht hT⟩⟩, hS.F ht⟩) hS.2.2 dX12_faults_23
def wo_m_pay : List Cond := [.fieldLink RX12 139 "TypingPoolModel" "thrown" "I", .methodLink RX12 315 yX12_isPiece, .instanceMethod yX12_isPiece, .selects RX12 yX12_isPiece yX12_isPiece, .initialized RX12, .methodLink RX12 336 yX12_payOf, .instanceMethod yX12_payOf, .selects RX12 yX12_payOf yX12_payOf, .methodLink RX12 312 yX12_lost, .instanceMethod yX12_lost, .selects RX12 yX12_lost yX12_lost]
def wm_m_pay : List Cond := .code yX12_pay cX12_pay 2 (some .int) :: (wo_m_pay ++ (wsX120 ++ (wm_m_isPiece ++ (wm_m_payOf ++ (wm_m_lost ++ ([] : List Cond))))))
theorem gd_m_pay : ∀ w ∈ wm_m_pay, goodWord w = true := gd_c rfl (gd_a (by decide) (gd_a gd_wsX120 (gd_a gd_m_isPiece (gd_a gd_m_payOf (gd_a gd_m_lost gd_nil)))))
set_option maxRecDepth 20000 in
theorem im_m_pay : ∀ w ∈ wm_m_pay, w ∈ lw_tbl := im_c (in_r [.code yX12_pay cX12_pay 2 (some .int)] [1655] (by decide +kernel)) (in_app (in_r wo_m_pay [1278, 1596, 1598, 55, 86, 1656, 1658, 60, 1588, 1590, 54] (by decide +kernel)) (in_app im_wsX120 (in_app im_m_isPiece (in_app im_m_payOf (in_app im_m_lost im_nil)))))
set_option maxHeartbeats 4000000 in
set_option maxRecDepth 100000 in
theorem m_pay (l : Launch) (dC : Nat → ClassId) (dI : Nat → Nat → Nat) (ad av : Nat → Nat) (sz : Nat) (a : Nat → Nat) (k : Nat → ClassId) (τ ln : Nat → Nat) (y : Nat → Nat → Int32) (g : Nat → Nat → Option Nat) (u : Nat → Int) (p0 : Int32) (hI : IM a u τ y) (hW : IW (u 1) (u 2) (u 9) (y (a 89))) : Met l yX12_pay wm_m_pay ({ frames := 387, cells := 0, slots := 0, locals := 25340 }) (pw_ ad av (dC, dI) sz [.ref (a 50), .int p0] a k τ ln y g) (va_Qi (fun (r u : Int32) => u = r) (fun (r : Int32) (t : State) => (∃ (y' : Nat → Nat → Int32) (g' : Nat → Nat → Option Nat), ag τ [60, 102] y y' ∧ agg τ g g' ∧ IM a u τ y' ∧ tw (dC, dI) a k τ ln y' g' t.heap)) (fr τ sz)) 0 0 (fr τ sz) := by
  refine Met.ofW (cc := cX12_pay) (maxL := 2) (ret := (some .int)) (by decide) rfl ?_
  intro p e s m args below meth c s₁ B hml hv
  obtain ⟨rfl, hsz, hT, hK, hM⟩ := hv
  have hx := B.exec
  have hb := B.bytes
  have hr := B.returns
  have hts := atoms_spec (ws := wm_m_pay) B.pre
  have hown : s.vm.findClass RX12 = some m.cls := findClass_of_methodNamed B.named
  have hlocks := B.notSynchronized
  subst hsz
  generalize hAe : fr τ s.heap.size = A at hM ⊢
  have hA : ∀ q : Nat, s.heap.size ≤ q → A q := fun q h => by rw [← hAe]; exact Or.inr h
  have hF : ∀ q, τ q ≠ 0 → A q := fun q h => by rw [← hAe]; exact Or.inl h
  have hS : va_S A s.heap s.heap [] := va_S.rf
  have hX := hI.1
  have hR := im_r hI
  have hG : ag τ [60, 102] y y := ag.rf
  have hGg : agg τ g g := agg.rf
  have hl := lv_entry ([.ref (a 50), .int p0]) (n := 2) (Nat.le_of_ble_eq_true rfl)
  rw [lg_entry_eq]
  generalize (lg_sl ([.ref (a 50), .int p0]) ++ List.replicate (2 - (lg_sl ([.ref (a 50), .int p0])).length) Slot.unset).toArray = ls at hl ⊢
  have hl : lv_has ls 2 [(0, .ref (a 50)), (1, .int p0)] := hl
  refine lv_aload_n hx hb dX12_pay_0 rfl (lv_at hl 0 rfl) ?_
  refine lv_iconst (v := 0) hx hb dX12_pay_1 (by decide) ?_
  refine tw_put (D := (dC, dI)) (x := 0) (ty := .int) (C := RX12) (T := TX12) (N := 58) hx hb hts (fun _ hh => (List.mem_cons_of_mem _ (List.mem_append_right _ (List.mem_append_left _ hh)))) tyX12 tyX12_ok nmX12 hown hK hT hF hS (fx_50 hX) (by decide) cl_e60 rfl 37 (by decide) (hts (.fieldLink RX12 139 "TypingPoolModel" "thrown" "I") (List.mem_cons_of_mem _ (List.mem_append_left _ (List.mem_of_getElem? (i := 0) rfl)))) (fun _ h9 => h9) rfl (tyX12_ok 37 (by decide)) rfl rfl (Nat.le_of_ble_eq_true rfl) rfl dX12_pay_2 (fun H locs hT hS => ?_)
  obtain ⟨y_1, hy_1, hT⟩ : ∃ z : Nat → Nat → Int32, z = up2 y (a 50) 37 (0 : Int32) ∧ tw (dC, dI) a k τ ln z g H := ⟨_, rfl, hT⟩
  have hG : ag τ [60, 102] y y_1 := by rw [hy_1]; exact hG.up (fx_50 hX) (by decide)
  have hW : IW (u 1) (u 2) (u 9) (y_1 (a 89)) := by rw [hy_1, up2_o (kd_ne (fx_89 hX) (fx_50 hX) (by decide))]; exact hW
  have hI := hI.put (f := 37) (x := (0 : Int32)) (by decide)
  rw [← hy_1] at hI
  refine lv_aload_n hx hb dX12_pay_5 rfl (lv_at hl 0 rfl) ?_
  refine lv_iload_n hx hb dX12_pay_6 rfl (lv_at hl 1 rfl) ?_
  have hFc := tw_free hF hS hA
  refine va_calli (va_runV (As := [.int p0]) (rest := []) ⟨hx, hb, hml, hown, hts⟩ (m_isPiece l dC dI ad av H.size a k τ ln y_1 g u p0 hI hW) (cwV 1 hts (gi_4 (List.mem_cons_of_mem _ (List.mem_append_left _ (List.mem_of_getElem? (i := 1) rfl))) (List.mem_cons_of_mem _ (List.mem_append_left _ (List.mem_of_getElem? (i := 2) rfl))) (List.mem_cons_of_mem _ (List.mem_append_left _ (List.mem_of_getElem? (i := 3) rfl))) (List.mem_cons_of_mem _ (List.mem_append_left _ (List.mem_of_getElem? (i := 4) rfl))) (fun _ hh => (List.mem_cons_of_mem _ (List.mem_append_right _ (List.mem_append_right _ (List.mem_append_left _ hh))))) gd_m_isPiece) rfl rfl rfl (by decide +kernel) ⟨Nat.le_of_ble_eq_true rfl, Nat.le_of_ble_eq_true rfl⟩) ⟨pw_blind, tw_recv hK hT (fx_50 hX) (by decide) cl_e60 rfl, pw_use hT hK hFc hS hM⟩ rfl rfl hl.1 rfl (lv_room (Nat.le_of_ble_eq_true rfl)) dX12_pay_7 ⟨Nat.le_of_ble_eq_true rfl, Nat.le_of_ble_eq_true rfl⟩) hS (fun q _ h => hFc q h) hFc (fun r0 r_2 t H locs ht hvm hw hB hz1 hk1 hS => ?_)
  refine W.widen (k := 0) (n := 0) (Nat.le_of_ble_eq_true rfl) (Nat.le_of_ble_eq_true rfl) ?_
  clear hvm hz1 hk1
  subst hw
  rcases hB with ⟨hre, hf_3, hf_4, hT⟩ | ⟨hre, hf_5, hT⟩
  · refine lq_top (v := 1) hre ?_
    rw [ht] at hT
    refine lv_if_eq (tgt := 21) hx hb dX12_pay_10 (by decide) (fun c_6 => absurd c_6 (by decide)) (fun c_6 => ?_)
    refine lv_aload_n hx hb dX12_pay_13 rfl (lv_at hl 0 rfl) ?_
    refine lv_iload_n hx hb dX12_pay_14 rfl (lv_at hl 1 rfl) ?_
    have hFc := tw_free hF hS hA
    refine va_calli (va_runV (As := [.int p0]) (rest := []) ⟨hx, hb, hml, hown, hts⟩ (m_payOf l dC dI ad av H.size a k τ ln y_1 g u p0 hI (by omega) (by omega) hW) (cwV 1 hts (gi_4 (List.mem_cons_of_mem _ (List.mem_append_left _ (List.mem_of_getElem? (i := 5) rfl))) (List.mem_cons_of_mem _ (List.mem_append_left _ (List.mem_of_getElem? (i := 6) rfl))) (List.mem_cons_of_mem _ (List.mem_append_left _ (List.mem_of_getElem? (i := 7) rfl))) (List.mem_cons_of_mem _ (List.mem_append_left _ (List.mem_of_getElem? (i := 4) rfl))) (fun _ hh => (List.mem_cons_of_mem _ (List.mem_append_right _ (List.mem_append_right _ (List.mem_append_right _ (List.mem_append_left _ hh)))))) gd_m_payOf) rfl rfl rfl (by decide +kernel) ⟨Nat.le_of_ble_eq_true rfl, Nat.le_of_ble_eq_true rfl⟩) ⟨pw_blind, tw_recv hK hT (fx_50 hX) (by decide) cl_e60 rfl, pw_use hT hK hFc hS hM⟩ rfl rfl hl.1 rfl (lv_room (Nat.le_of_ble_eq_true rfl)) dX12_pay_15 ⟨Nat.le_of_ble_eq_true rfl, Nat.le_of_ble_eq_true rfl⟩) hS (fun q _ h => hFc q h) hFc (fun r0 r_7 t H locs ht hvm hw hB hz1 hk1 hS => ?_)
    refine W.widen (k := 0) (n := 0) (Nat.le_of_ble_eq_true rfl) (Nat.le_of_ble_eq_true rfl) ?_
    clear hvm hz1 hk1
    subst hw
    obtain ⟨y_8, g_9, hgy_8, hggg_9, hI, hT⟩ := hB
    rw [ht] at hT
    have hG := hG.tr hgy_8 (by decide)
    have hGg := hGg.tr hggg_9
    have hW : IW (u 1) (u 2) (u 9) (y_8 (a 89)) := by rw [hgy_8.at (fx_89 hX) (by decide)]; exact hW
    refine lv_goto (tgt := 25) hx hb dX12_pay_18 (by decide) ?_
    exact W.iret (v := r_7) hx hb hr (fun t ht hW9 => ⟨⟨r_7, r_7, rfl, rfl, ⟨y_8, g_9, hG, hGg, hI, tw_at ht hT⟩⟩, hS.F ht⟩) hS.2.2 dX12_pay_25
  · refine lq_top (v := 0) hre ?_
    rw [ht] at hT
    refine lv_if_eq (tgt := 21) hx hb dX12_pay_10 (by decide) (fun c_10 => ?_) (fun c_10 => absurd c_10 (by decide))
    refine lv_aload_n hx hb dX12_pay_21 rfl (lv_at hl 0 rfl) ?_
    have hFc := tw_free hF hS hA
    refine va_calli (va_runV (As := []) (rest := []) ⟨hx, hb, hml, hown, hts⟩ (m_lost l dC dI ad av H.size a k τ ln y_1 g u  hI hW) (cwV 0 hts (gi_4 (List.mem_cons_of_mem _ (List.mem_append_left _ (List.mem_of_getElem? (i := 8) rfl))) (List.mem_cons_of_mem _ (List.mem_append_left _ (List.mem_of_getElem? (i := 9) rfl))) (List.mem_cons_of_mem _ (List.mem_append_left _ (List.mem_of_getElem? (i := 10) rfl))) (List.mem_cons_of_mem _ (List.mem_append_left _ (List.mem_of_getElem? (i := 4) rfl))) (fun _ hh => (List.mem_cons_of_mem _ (List.mem_append_right _ (List.mem_append_right _ (List.mem_append_right _ (List.mem_append_right _ (List.mem_append_left _ hh))))))) gd_m_lost) rfl rfl rfl (by decide +kernel) ⟨Nat.le_of_ble_eq_true rfl, Nat.le_of_ble_eq_true rfl⟩) ⟨pw_blind, tw_recv hK hT (fx_50 hX) (by decide) cl_e60 rfl, pw_use hT hK hFc hS hM⟩ rfl rfl hl.1 rfl (lv_room (Nat.le_of_ble_eq_true rfl)) dX12_pay_22 ⟨Nat.le_of_ble_eq_true rfl, Nat.le_of_ble_eq_true rfl⟩) hS (fun q _ h => hFc q h) hFc (fun r0 r_11 t H locs ht hvm hw hB hz1 hk1 hS => ?_)
    refine W.widen (k := 0) (n := 0) (Nat.le_of_ble_eq_true rfl) (Nat.le_of_ble_eq_true rfl) ?_
    clear hvm hz1 hk1
    subst hw
    obtain ⟨y_12, hgy_12, hI, hT⟩ := hB
    rw [ht] at hT
    have hG := hG.tr hgy_12 (by decide)
    have hW : IW (u 1) (u 2) (u 9) (y_12 (a 89)) := by rw [hgy_12.at (fx_89 hX) (by decide)]; exact hW
    exact W.iret (v := r_11) hx hb hr (fun t ht hW9 => ⟨⟨r_11, r_11, rfl, rfl, ⟨y_12, g, hG, hGg, hI, tw_at ht hT⟩⟩, hS.F ht⟩) hS.2.2 dX12_pay_25
def wo_m_earns : List Cond := [.fieldLink RX12 139 "TypingPoolModel" "thrown" "I", .methodLink RX12 160 yX12_isHand, .instanceMethod yX12_isHand, .selects RX12 yX12_isHand yX12_isHand, .initialized RX12, .methodLink RX12 145 yX12_in, .static yX12_in, .fieldLink RX12 149 "TypingPoolModel" "pieces" "I", .methodLink RX12 261 yX12_piece, .instanceMethod yX12_piece, .selects RX12 yX12_piece yX12_piece, .methodLink RX12 336 yX12_payOf, .instanceMethod yX12_payOf, .selects RX12 yX12_payOf yX12_payOf, .methodLink RX12 312 yX12_lost, .instanceMethod yX12_lost, .selects RX12 yX12_lost yX12_lost]
def wm_m_earns : List Cond := .code yX12_earns cX12_earns 5 (some .int) :: (wo_m_earns ++ (wsX120 ++ (wm_m_isHand ++ (wm_m_in ++ (wm_m_pieceG ++ (wm_m_payOf ++ (wm_m_lost ++ ([] : List Cond))))))))
theorem gd_m_earns : ∀ w ∈ wm_m_earns, goodWord w = true := gd_c rfl (gd_a (by decide) (gd_a gd_wsX120 (gd_a gd_m_isHand (gd_a gd_m_in (gd_a gd_m_pieceG (gd_a gd_m_payOf (gd_a gd_m_lost gd_nil)))))))
set_option maxRecDepth 20000 in
theorem im_m_earns : ∀ w ∈ wm_m_earns, w ∈ lw_tbl := im_c (in_r [.code yX12_earns cX12_earns 5 (some .int)] [1663] (by decide +kernel)) (in_app (in_r wo_m_earns [1278, 1436, 1438, 27, 86, 1420, 1421, 1260, 1556, 1558, 50, 1656, 1658, 60, 1588, 1590, 54] (by decide +kernel)) (in_app im_wsX120 (in_app im_m_isHand (in_app im_m_in (in_app im_m_pieceG (in_app im_m_payOf (in_app im_m_lost im_nil)))))))
set_option maxHeartbeats 4000000 in
set_option maxRecDepth 100000 in
theorem m_earns (l : Launch) (dC : Nat → ClassId) (dI : Nat → Nat → Nat) (ad av : Nat → Nat) (sz : Nat) (a : Nat → Nat) (k : Nat → ClassId) (τ ln : Nat → Nat) (y : Nat → Nat → Int32) (g : Nat → Nat → Option Nat) (u : Nat → Int) (p0 : Int32) (p1 : Int32) (hI : IM a u τ y) (hW : IW (u 1) (u 2) (u 9) (y (a 89))) : Met l yX12_earns wm_m_earns ({ frames := 387, cells := 0, slots := 0, locals := 25340 }) (pw_ ad av (dC, dI) sz [.ref (a 50), .int p0, .int p1] a k τ ln y g) (va_Qi (fun (r u : Int32) => u = r) (fun (r : Int32) (t : State) => (∃ (y' : Nat → Nat → Int32) (g' : Nat → Nat → Option Nat), ag τ [60, 102] y y' ∧ agg τ g g' ∧ IM a u τ y' ∧ tw (dC, dI) a k τ ln y' g' t.heap)) (fr τ sz)) 0 0 (fr τ sz) := by
  refine Met.ofW (cc := cX12_earns) (maxL := 5) (ret := (some .int)) (by decide) rfl ?_
  intro p e s m args below meth c s₁ B hml hv
  obtain ⟨rfl, hsz, hT, hK, hM⟩ := hv
  have hx := B.exec
  have hb := B.bytes
  have hr := B.returns
  have hts := atoms_spec (ws := wm_m_earns) B.pre
  have hown : s.vm.findClass RX12 = some m.cls := findClass_of_methodNamed B.named
  have hlocks := B.notSynchronized
  subst hsz
  generalize hAe : fr τ s.heap.size = A at hM ⊢
  have hA : ∀ q : Nat, s.heap.size ≤ q → A q := fun q h => by rw [← hAe]; exact Or.inr h
  have hF : ∀ q, τ q ≠ 0 → A q := fun q h => by rw [← hAe]; exact Or.inl h
  have hS : va_S A s.heap s.heap [] := va_S.rf
  have hX := hI.1
  have hR := im_r hI
  have hG : ag τ [60, 102] y y := ag.rf
  have hGg : agg τ g g := agg.rf
  have hl := lv_entry ([.ref (a 50), .int p0, .int p1]) (n := 5) (Nat.le_of_ble_eq_true rfl)
  rw [lg_entry_eq]
  generalize (lg_sl ([.ref (a 50), .int p0, .int p1]) ++ List.replicate (5 - (lg_sl ([.ref (a 50), .int p0, .int p1])).length) Slot.unset).toArray = ls at hl ⊢
  have hl : lv_has ls 5 [(0, .ref (a 50)), (1, .int p0), (2, .int p1)] := hl
  refine lv_aload_n hx hb dX12_earns_0 rfl (lv_at hl 0 rfl) ?_
  refine lv_iconst (v := 0) hx hb dX12_earns_1 (by decide) ?_
  refine tw_put (D := (dC, dI)) (x := 0) (ty := .int) (C := RX12) (T := TX12) (N := 58) hx hb hts (fun _ hh => (List.mem_cons_of_mem _ (List.mem_append_right _ (List.mem_append_left _ hh)))) tyX12 tyX12_ok nmX12 hown hK hT hF hS (fx_50 hX) (by decide) cl_e60 rfl 37 (by decide) (hts (.fieldLink RX12 139 "TypingPoolModel" "thrown" "I") (List.mem_cons_of_mem _ (List.mem_append_left _ (List.mem_of_getElem? (i := 0) rfl)))) (fun _ h9 => h9) rfl (tyX12_ok 37 (by decide)) rfl rfl (Nat.le_of_ble_eq_true rfl) rfl dX12_earns_2 (fun H locs hT hS => ?_)
  obtain ⟨y_1, hy_1, hT⟩ : ∃ z : Nat → Nat → Int32, z = up2 y (a 50) 37 (0 : Int32) ∧ tw (dC, dI) a k τ ln z g H := ⟨_, rfl, hT⟩
  have hG : ag τ [60, 102] y y_1 := by rw [hy_1]; exact hG.up (fx_50 hX) (by decide)
  have hW : IW (u 1) (u 2) (u 9) (y_1 (a 89)) := by rw [hy_1, up2_o (kd_ne (fx_89 hX) (fx_50 hX) (by decide))]; exact hW
  have hI := hI.put (f := 37) (x := (0 : Int32)) (by decide)
  rw [← hy_1] at hI
  refine lv_aload_n hx hb dX12_earns_5 rfl (lv_at hl 0 rfl) ?_
  refine lv_iload_n hx hb dX12_earns_6 rfl (lv_at hl 1 rfl) ?_
  have hFc := tw_free hF hS hA
  refine va_calli (va_runV (As := [.int p0]) (rest := []) ⟨hx, hb, hml, hown, hts⟩ (m_isHand l dC dI ad av H.size a k τ ln y_1 g u p0 hI hW) (cwV 1 hts (gi_4 (List.mem_cons_of_mem _ (List.mem_append_left _ (List.mem_of_getElem? (i := 1) rfl))) (List.mem_cons_of_mem _ (List.mem_append_left _ (List.mem_of_getElem? (i := 2) rfl))) (List.mem_cons_of_mem _ (List.mem_append_left _ (List.mem_of_getElem? (i := 3) rfl))) (List.mem_cons_of_mem _ (List.mem_append_left _ (List.mem_of_getElem? (i := 4) rfl))) (fun _ hh => (List.mem_cons_of_mem _ (List.mem_append_right _ (List.mem_append_right _ (List.mem_append_left _ hh))))) gd_m_isHand) rfl rfl rfl (by decide +kernel) ⟨Nat.le_of_ble_eq_true rfl, Nat.le_of_ble_eq_true rfl⟩) ⟨pw_blind, tw_recv hK hT (fx_50 hX) (by decide) cl_e60 rfl, pw_use hT hK hFc hS hM⟩ rfl rfl hl.1 rfl (lv_room (Nat.le_of_ble_eq_true rfl)) dX12_earns_7 ⟨Nat.le_of_ble_eq_true rfl, Nat.le_of_ble_eq_true rfl⟩) hS (fun q _ h => hFc q h) hFc (fun r0 r_2 t H locs ht hvm hw hB hz1 hk1 hS => ?_)
  refine W.widen (k := 0) (n := 0) (Nat.le_of_ble_eq_true rfl) (Nat.le_of_ble_eq_true rfl) ?_
  clear hvm hz1 hk1
  subst hw
  rcases hB with ⟨hre, hf_3, hf_4, hT⟩ | ⟨hre, hf_5, hT⟩
  · refine lq_top (v := 1) hre ?_
    rw [ht] at hT
    refine lv_if_eq (tgt := 23) hx hb dX12_earns_10 (by decide) (fun c_6 => absurd c_6 (by decide)) (fun c_6 => ?_)
    refine lv_iload_n hx hb dX12_earns_13 rfl (lv_at hl 2 rfl) ?_
    refine lv_iconst (v := (-1)) hx hb dX12_earns_14 (by decide) ?_
    refine lv_bipush (v := 9) hx hb dX12_earns_15 (by decide) ?_
    have hFc := tw_free hF hS hA
    have hp_7 : (-1 : Int32).toInt = (-1) := (zk (x := (-1)) (-1) rfl)
    have hp_8 : (9 : Int32).toInt = 9 := (zk (x := 9) 9 rfl)
    refine va_calli (va_runS (As := [.int p1, .int (-1), .int 9]) (rest := []) ⟨hx, hb, hml, hown, hts⟩ (m_in l dC dI ad av H.size a k τ ln y_1 g u p1 (-1 : Int32) (9 : Int32)  ) (va_cwS 3 hts (gi_3 (List.mem_cons_of_mem _ (List.mem_append_left _ (List.mem_of_getElem? (i := 5) rfl))) (List.mem_cons_of_mem _ (List.mem_append_left _ (List.mem_of_getElem? (i := 6) rfl))) (List.mem_cons_of_mem _ (List.mem_append_left _ (List.mem_of_getElem? (i := 4) rfl))) (fun _ hh => (List.mem_cons_of_mem _ (List.mem_append_right _ (List.mem_append_right _ (List.mem_append_right _ (List.mem_append_left _ hh)))))) gd_m_in) rfl rfl rfl (by decide +kernel) ⟨Nat.le_of_ble_eq_true rfl, Nat.le_of_ble_eq_true rfl⟩) ⟨pw_blind, pw_use hT hK hFc hS hM⟩ rfl rfl hl.1 rfl (lv_room (Nat.le_of_ble_eq_true rfl)) dX12_earns_17 ⟨Nat.le_of_ble_eq_true rfl, Nat.le_of_ble_eq_true rfl⟩) hS (fun q _ h => hFc q h) hFc (fun r0 r_9 t H locs ht hvm hw hB hz1 hk1 hS => ?_)
    refine W.widen (k := 0) (n := 0) (Nat.le_of_ble_eq_true rfl) (Nat.le_of_ble_eq_true rfl) ?_
    clear hvm hz1 hk1
    subst hw
    rcases hB with ⟨hre, hf_10, hf_11, hT⟩ | ⟨hre, hf_12, hT⟩
    · refine lq_top (v := 1) hre ?_
      rw [ht] at hT
      try simp only [hp_7, hp_8] at hf_10 hf_11
      clear hp_7 hp_8
      refine lv_if_ne (tgt := 28) hx hb dX12_earns_20 (by decide) (fun c_13 => ?_) (fun c_13 => absurd c_13 (by decide))
      refine lv_iconst (v := 0) hx hb dX12_earns_28 (by decide) ?_
      refine lv_istore_n (lv' := [(3, .int 0), (0, .ref (a 50)), (1, .int p0), (2, .int p1)]) hx hb dX12_earns_29 rfl hl (by decide) rfl (fun ls hl => ?_)
      refine lv_iconst (v := 0) hx hb dX12_earns_30 (by decide) ?_
      refine lv_istore (lv' := [(4, .int 0), (3, .int 0), (0, .ref (a 50)), (1, .int p0), (2, .int p1)]) hx hb dX12_earns_31 hl (by decide) rfl (fun ls hl => ?_)
      have loop_33 : ∀ (n : Nat) (w3 : Int32) (i4 : Int32) (y_L33 : Nat → Nat → Int32) (g_L33 : Nat → Nat → Option Nat) (H : Heap) (locs : List Loc) (ls : Array Slot), (u 2 - i4.toInt).toNat < n → ag τ [60, 102] y y_L33 → IM a u τ y_L33 → agg τ g g_L33 → IW (u 1) (u 2) (u 9) (y_L33 (a 89)) → 0 ≤ i4.toInt → i4.toInt ≤ u 2 → tw (dC, dI) a k τ ln y_L33 g_L33 H → va_S A s.heap H locs → lv_has ls 5 [(0, .ref (a 50)), (1, .int p0), (2, .int p1), (3, .int w3), (4, .int i4)] → W p l e (headSpec wm_m_earns ({ frames := 387, cells := 0, slots := 0, locals := 25340 })).room s m ([.ref (a 50), .int p0, .int p1] : List Value).toArray below meth c H locs 0 0 (MQ below (va_Qi (fun (r u : Int32) => u = r) (fun (r : Int32) (t : State) => (∃ (y' : Nat → Nat → Int32) (g' : Nat → Nat → Option Nat), ag τ [60, 102] y y' ∧ agg τ g g' ∧ IM a u τ y' ∧ tw (dC, dI) a k τ ln y' g' t.heap)) A) ([.ref (a 50), .int p0, .int p1] : List Value).toArray s 0 0 A) (F0 m 33 ls []) := by
        intro n
        induction n with
        | zero => intro w3 i4 y_L33 g_L33 H locs ls hlt; exact absurd hlt (Nat.not_lt_zero _)
        | succ n ih_33 =>
          intro w3 i4 y_L33 g_L33 H locs ls hlt hG hI hGg hW hi33_0 hi33_1 hT hS hl
          refine lv_iload hx hb dX12_earns_33 (lv_at hl 4 rfl) ?_
          refine lv_aload_n hx hb dX12_earns_35 rfl (lv_at hl 0 rfl) ?_
          refine tw_get (D := (dC, dI)) (v := .int (y_L33 (a 50) 19)) (C := RX12) (T := TX12) (N := 58) hx hb hts (fun _ hh => (List.mem_cons_of_mem _ (List.mem_append_right _ (List.mem_append_left _ hh)))) hown hK hT (fx_50 hX) (by decide) cl_e60 rfl 19 (by decide) (hts (.fieldLink RX12 149 "TypingPoolModel" "pieces" "I") (List.mem_cons_of_mem _ (List.mem_append_left _ (List.mem_of_getElem? (i := 7) rfl)))) (fun _ h9 => h9) rfl dX12_earns_36 ?_
          have hc_14 := im_2 hI
          refine lv_icmp_ge (tgt := 99) hx hb dX12_earns_39 (by decide) (fun c_15 => ?_) (fun c_15 => ?_)
          · have nc_15 := z_le hc_14 rfl c_15
            refine lv_iload_n hx hb dX12_earns_99 rfl (lv_at hl 3 rfl) ?_
            exact W.iret (v := w3) hx hb hr (fun t ht hW9 => ⟨⟨w3, w3, rfl, rfl, ⟨y_L33, g_L33, hG, hGg, hI, tw_at ht hT⟩⟩, hS.F ht⟩) hS.2.2 dX12_earns_100
          · have nc_15 := z_nle hc_14 rfl c_15
            refine lv_aload_n hx hb dX12_earns_42 rfl (lv_at hl 0 rfl) ?_
            refine lv_iload hx hb dX12_earns_43 (lv_at hl 4 rfl) ?_
            refine lv_iconst (v := 0) hx hb dX12_earns_45 (by decide) ?_
            have hFc := tw_free hF hS hA
            have hp_16 : (0 : Int32).toInt = 0 := (zk (x := 0) 0 rfl)
            refine va_calli (va_runV (As := [.int i4, .int 0]) (rest := []) ⟨hx, hb, hml, hown, hts⟩ (m_pieceG l dC dI ad av H.size a k τ ln y_L33 g_L33 u i4 (0 : Int32) hI (by omega) (by omega) (by decide) (by decide) hW) (cwV 2 hts (gi_4 (List.mem_cons_of_mem _ (List.mem_append_left _ (List.mem_of_getElem? (i := 8) rfl))) (List.mem_cons_of_mem _ (List.mem_append_left _ (List.mem_of_getElem? (i := 9) rfl))) (List.mem_cons_of_mem _ (List.mem_append_left _ (List.mem_of_getElem? (i := 10) rfl))) (List.mem_cons_of_mem _ (List.mem_append_left _ (List.mem_of_getElem? (i := 4) rfl))) (fun _ hh => (List.mem_cons_of_mem _ (List.mem_append_right _ (List.mem_append_right _ (List.mem_append_right _ (List.mem_append_right _ (List.mem_append_left _ hh))))))) gd_m_pieceG) rfl rfl rfl (by decide +kernel) ⟨Nat.le_of_ble_eq_true rfl, Nat.le_of_ble_eq_true rfl⟩) ⟨pw_blind, tw_recv hK hT (fx_50 hX) (by decide) cl_e60 rfl, pw_use hT hK hFc hS hM⟩ rfl rfl hl.1 rfl (lv_room (Nat.le_of_ble_eq_true rfl)) dX12_earns_46 ⟨Nat.le_of_ble_eq_true rfl, Nat.le_of_ble_eq_true rfl⟩) hS (fun q _ h => hFc q h) hFc (fun r0 r_17 t H locs ht hvm hw hB hz1 hk1 hS => ?_)
            refine W.widen (k := 0) (n := 0) (Nat.le_of_ble_eq_true rfl) (Nat.le_of_ble_eq_true rfl) ?_
            clear hvm hz1 hk1
            subst hw
            obtain ⟨hf_18, hT⟩ := hB
            rw [ht] at hT
            try simp only [hp_16] at hf_18
            clear hp_16
            refine lv_iload_n hx hb dX12_earns_49 rfl (lv_at hl 1 rfl) ?_
            refine lv_icmp_ne (tgt := 93) hx hb dX12_earns_50 (by decide) (fun c_19 => ?_) (fun c_19 => ?_)
            · have nc_19 := z_ne rfl rfl c_19
              obtain ⟨x_20, ex_20⟩ : ∃ y : Int32, y = i4 + Int32.ofInt 1 := ⟨_, rfl⟩
              have hx_20 := z_add ex_20 rfl (zk (x := Int32.ofInt 1) 1 rfl) (by omega) (by omega)
              refine lv_iinc (v := x_20) (lv' := [(4, .int x_20), (0, .ref (a 50)), (1, .int p0), (2, .int p1), (3, .int w3)]) hx hb dX12_earns_93 hl (k := 4) rfl ex_20.symm (by decide) rfl (fun ls hl => ?_)
              refine lv_goto (tgt := 33) hx hb dX12_earns_96 (by decide) ?_
              exact ih_33  w3 x_20 y_L33 g_L33 H _ ls (by omega) hG hI hGg hW (by omega) (by omega) hT hS (lv_sub hl [1, 2, 3, 4, 0] rfl)
            · have nc_19 := z_eq rfl rfl c_19
              refine lv_aload_n hx hb dX12_earns_53 rfl (lv_at hl 0 rfl) ?_
              refine lv_iload hx hb dX12_earns_54 (lv_at hl 4 rfl) ?_
              refine lv_iconst (v := 2) hx hb dX12_earns_56 (by decide) ?_
              have hFc := tw_free hF hS hA
              have hp_21 : (2 : Int32).toInt = 2 := (zk (x := 2) 2 rfl)
              refine va_calli (va_runV (As := [.int i4, .int 2]) (rest := []) ⟨hx, hb, hml, hown, hts⟩ (m_pieceG l dC dI ad av H.size a k τ ln y_L33 g_L33 u i4 (2 : Int32) hI (by omega) (by omega) (by decide) (by decide) hW) (cwV 2 hts (gi_4 (List.mem_cons_of_mem _ (List.mem_append_left _ (List.mem_of_getElem? (i := 8) rfl))) (List.mem_cons_of_mem _ (List.mem_append_left _ (List.mem_of_getElem? (i := 9) rfl))) (List.mem_cons_of_mem _ (List.mem_append_left _ (List.mem_of_getElem? (i := 10) rfl))) (List.mem_cons_of_mem _ (List.mem_append_left _ (List.mem_of_getElem? (i := 4) rfl))) (fun _ hh => (List.mem_cons_of_mem _ (List.mem_append_right _ (List.mem_append_right _ (List.mem_append_right _ (List.mem_append_right _ (List.mem_append_left _ hh))))))) gd_m_pieceG) rfl rfl rfl (by decide +kernel) ⟨Nat.le_of_ble_eq_true rfl, Nat.le_of_ble_eq_true rfl⟩) ⟨pw_blind, tw_recv hK hT (fx_50 hX) (by decide) cl_e60 rfl, pw_use hT hK hFc hS hM⟩ rfl rfl hl.1 rfl (lv_room (Nat.le_of_ble_eq_true rfl)) dX12_earns_57 ⟨Nat.le_of_ble_eq_true rfl, Nat.le_of_ble_eq_true rfl⟩) hS (fun q _ h => hFc q h) hFc (fun r0 r_22 t H locs ht hvm hw hB hz1 hk1 hS => ?_)
              refine W.widen (k := 0) (n := 0) (Nat.le_of_ble_eq_true rfl) (Nat.le_of_ble_eq_true rfl) ?_
              clear hvm hz1 hk1
              subst hw
              obtain ⟨hf_23, hT⟩ := hB
              rw [ht] at hT
              try simp only [hp_21] at hf_23
              clear hp_21
              refine lv_iconst (v := (-1)) hx hb dX12_earns_60 (by decide) ?_
              refine lv_icmp_eq (tgt := 93) hx hb dX12_earns_61 (by decide) (fun c_24 => ?_) (fun c_24 => ?_)
              · have nc_24 := z_eq rfl (zk (x := (-1)) (-1) rfl) c_24
                obtain ⟨x_25, ex_25⟩ : ∃ y : Int32, y = i4 + Int32.ofInt 1 := ⟨_, rfl⟩
                have hx_25 := z_add ex_25 rfl (zk (x := Int32.ofInt 1) 1 rfl) (by omega) (by omega)
                refine lv_iinc (v := x_25) (lv' := [(4, .int x_25), (0, .ref (a 50)), (1, .int p0), (2, .int p1), (3, .int w3)]) hx hb dX12_earns_93 hl (k := 4) rfl ex_25.symm (by decide) rfl (fun ls hl => ?_)
                refine lv_goto (tgt := 33) hx hb dX12_earns_96 (by decide) ?_
                exact ih_33  w3 x_25 y_L33 g_L33 H _ ls (by omega) hG hI hGg hW (by omega) (by omega) hT hS (lv_sub hl [1, 2, 3, 4, 0] rfl)
              · have nc_24 := z_ne rfl (zk (x := (-1)) (-1) rfl) c_24
                refine lv_iload_n hx hb dX12_earns_64 rfl (lv_at hl 2 rfl) ?_
                refine lv_iconst (v := (-1)) hx hb dX12_earns_65 (by decide) ?_
                refine lv_icmp_eq (tgt := 84) hx hb dX12_earns_66 (by decide) (fun c_26 => ?_) (fun c_26 => ?_)
                · have nc_26 := z_eq rfl (zk (x := (-1)) (-1) rfl) c_26
                  refine lv_iload_n hx hb dX12_earns_84 rfl (lv_at hl 3 rfl) ?_
                  refine lv_aload_n hx hb dX12_earns_85 rfl (lv_at hl 0 rfl) ?_
                  refine lv_iload hx hb dX12_earns_86 (lv_at hl 4 rfl) ?_
                  have hFc := tw_free hF hS hA
                  refine va_calli (va_runV (As := [.int i4]) (rest := [.int w3]) ⟨hx, hb, hml, hown, hts⟩ (m_payOf l dC dI ad av H.size a k τ ln y_L33 g_L33 u i4 hI (by omega) (by omega) hW) (cwV 1 hts (gi_4 (List.mem_cons_of_mem _ (List.mem_append_left _ (List.mem_of_getElem? (i := 11) rfl))) (List.mem_cons_of_mem _ (List.mem_append_left _ (List.mem_of_getElem? (i := 12) rfl))) (List.mem_cons_of_mem _ (List.mem_append_left _ (List.mem_of_getElem? (i := 13) rfl))) (List.mem_cons_of_mem _ (List.mem_append_left _ (List.mem_of_getElem? (i := 4) rfl))) (fun _ hh => (List.mem_cons_of_mem _ (List.mem_append_right _ (List.mem_append_right _ (List.mem_append_right _ (List.mem_append_right _ (List.mem_append_right _ (List.mem_append_left _ hh)))))))) gd_m_payOf) rfl rfl rfl (by decide +kernel) ⟨Nat.le_of_ble_eq_true rfl, Nat.le_of_ble_eq_true rfl⟩) ⟨pw_blind, tw_recv hK hT (fx_50 hX) (by decide) cl_e60 rfl, pw_use hT hK hFc hS hM⟩ rfl rfl hl.1 rfl (lv_room (Nat.le_of_ble_eq_true rfl)) dX12_earns_88 ⟨Nat.le_of_ble_eq_true rfl, Nat.le_of_ble_eq_true rfl⟩) hS (fun q _ h => hFc q h) hFc (fun r0 r_27 t H locs ht hvm hw hB hz1 hk1 hS => ?_)
                  refine W.widen (k := 0) (n := 0) (Nat.le_of_ble_eq_true rfl) (Nat.le_of_ble_eq_true rfl) ?_
                  clear hvm hz1 hk1
                  subst hw
                  obtain ⟨y_28, g_29, hgy_28, hggg_29, hI, hT⟩ := hB
                  rw [ht] at hT
                  have hG := hG.tr hgy_28 (by decide)
                  have hGg := hGg.tr hggg_29
                  have hW : IW (u 1) (u 2) (u 9) (y_28 (a 89)) := by rw [hgy_28.at (fx_89 hX) (by decide)]; exact hW
                  clear hc_14
                  refine lv_iadd hx hb dX12_earns_91 ?_
                  refine lv_topi (fun x_30 ex_30 => ?_)
                  refine lv_istore_n (lv' := [(3, .int x_30), (0, .ref (a 50)), (1, .int p0), (2, .int p1), (4, .int i4)]) hx hb dX12_earns_92 rfl hl (by decide) rfl (fun ls hl => ?_)
                  obtain ⟨x_31, ex_31⟩ : ∃ y : Int32, y = i4 + Int32.ofInt 1 := ⟨_, rfl⟩
                  have hx_31 := z_add ex_31 rfl (zk (x := Int32.ofInt 1) 1 rfl) (by omega) (by omega)
                  refine lv_iinc (v := x_31) (lv' := [(4, .int x_31), (3, .int x_30), (0, .ref (a 50)), (1, .int p0), (2, .int p1)]) hx hb dX12_earns_93 hl (k := 4) rfl ex_31.symm (by decide) rfl (fun ls hl => ?_)
                  refine lv_goto (tgt := 33) hx hb dX12_earns_96 (by decide) ?_
                  exact ih_33  x_30 x_31 y_28 g_29 H _ ls (by omega) hG hI hGg hW (by omega) (by omega) hT hS (lv_sub hl [2, 3, 4, 1, 0] rfl)
                · have nc_26 := z_ne rfl (zk (x := (-1)) (-1) rfl) c_26
                  refine lv_aload_n hx hb dX12_earns_69 rfl (lv_at hl 0 rfl) ?_
                  refine lv_iload hx hb dX12_earns_70 (lv_at hl 4 rfl) ?_
                  refine lv_iconst (v := 2) hx hb dX12_earns_72 (by decide) ?_
                  have hFc := tw_free hF hS hA
                  have hp_32 : (2 : Int32).toInt = 2 := (zk (x := 2) 2 rfl)
                  refine va_calli (va_runV (As := [.int i4, .int 2]) (rest := []) ⟨hx, hb, hml, hown, hts⟩ (m_pieceG l dC dI ad av H.size a k τ ln y_L33 g_L33 u i4 (2 : Int32) hI (by omega) (by omega) (by decide) (by decide) hW) (cwV 2 hts (gi_4 (List.mem_cons_of_mem _ (List.mem_append_left _ (List.mem_of_getElem? (i := 8) rfl))) (List.mem_cons_of_mem _ (List.mem_append_left _ (List.mem_of_getElem? (i := 9) rfl))) (List.mem_cons_of_mem _ (List.mem_append_left _ (List.mem_of_getElem? (i := 10) rfl))) (List.mem_cons_of_mem _ (List.mem_append_left _ (List.mem_of_getElem? (i := 4) rfl))) (fun _ hh => (List.mem_cons_of_mem _ (List.mem_append_right _ (List.mem_append_right _ (List.mem_append_right _ (List.mem_append_right _ (List.mem_append_left _ hh))))))) gd_m_pieceG) rfl rfl rfl (by decide +kernel) ⟨Nat.le_of_ble_eq_true rfl, Nat.le_of_ble_eq_true rfl⟩) ⟨pw_blind, tw_recv hK hT (fx_50 hX) (by decide) cl_e60 rfl, pw_use hT hK hFc hS hM⟩ rfl rfl hl.1 rfl (lv_room (Nat.le_of_ble_eq_true rfl)) dX12_earns_73 ⟨Nat.le_of_ble_eq_true rfl, Nat.le_of_ble_eq_true rfl⟩) hS (fun q _ h => hFc q h) hFc (fun r0 r_33 t H locs ht hvm hw hB hz1 hk1 hS => ?_)
                  refine W.widen (k := 0) (n := 0) (Nat.le_of_ble_eq_true rfl) (Nat.le_of_ble_eq_true rfl) ?_
                  clear hvm hz1 hk1
                  subst hw
                  obtain ⟨hf_34, hT⟩ := hB
                  rw [ht] at hT
                  try simp only [hp_32] at hf_34
                  clear hp_32
                  refine lv_sipush (v := 480) hx hb dX12_earns_76 (by decide) ?_
                  refine lv_idiv hx hb dX12_earns_79 (by decide) ?_
                  refine lv_topi (fun x_35 ex_35 => ?_)
                  refine lv_iload_n hx hb dX12_earns_80 rfl (lv_at hl 2 rfl) ?_
                  refine lv_icmp_ne (tgt := 93) hx hb dX12_earns_81 (by decide) (fun c_36 => ?_) (fun c_36 => ?_)
                  · have nc_36 := z_ne rfl rfl c_36
                    obtain ⟨x_37, ex_37⟩ : ∃ y : Int32, y = i4 + Int32.ofInt 1 := ⟨_, rfl⟩
                    have hx_37 := z_add ex_37 rfl (zk (x := Int32.ofInt 1) 1 rfl) (by omega) (by omega)
                    refine lv_iinc (v := x_37) (lv' := [(4, .int x_37), (0, .ref (a 50)), (1, .int p0), (2, .int p1), (3, .int w3)]) hx hb dX12_earns_93 hl (k := 4) rfl ex_37.symm (by decide) rfl (fun ls hl => ?_)
                    refine lv_goto (tgt := 33) hx hb dX12_earns_96 (by decide) ?_
                    exact ih_33  w3 x_37 y_L33 g_L33 H _ ls (by omega) hG hI hGg hW (by omega) (by omega) hT hS (lv_sub hl [1, 2, 3, 4, 0] rfl)
                  · have nc_36 := z_eq rfl rfl c_36
                    refine lv_iload_n hx hb dX12_earns_84 rfl (lv_at hl 3 rfl) ?_
                    refine lv_aload_n hx hb dX12_earns_85 rfl (lv_at hl 0 rfl) ?_
                    refine lv_iload hx hb dX12_earns_86 (lv_at hl 4 rfl) ?_
                    have hFc := tw_free hF hS hA
                    refine va_calli (va_runV (As := [.int i4]) (rest := [.int w3]) ⟨hx, hb, hml, hown, hts⟩ (m_payOf l dC dI ad av H.size a k τ ln y_L33 g_L33 u i4 hI (by omega) (by omega) hW) (cwV 1 hts (gi_4 (List.mem_cons_of_mem _ (List.mem_append_left _ (List.mem_of_getElem? (i := 11) rfl))) (List.mem_cons_of_mem _ (List.mem_append_left _ (List.mem_of_getElem? (i := 12) rfl))) (List.mem_cons_of_mem _ (List.mem_append_left _ (List.mem_of_getElem? (i := 13) rfl))) (List.mem_cons_of_mem _ (List.mem_append_left _ (List.mem_of_getElem? (i := 4) rfl))) (fun _ hh => (List.mem_cons_of_mem _ (List.mem_append_right _ (List.mem_append_right _ (List.mem_append_right _ (List.mem_append_right _ (List.mem_append_right _ (List.mem_append_left _ hh)))))))) gd_m_payOf) rfl rfl rfl (by decide +kernel) ⟨Nat.le_of_ble_eq_true rfl, Nat.le_of_ble_eq_true rfl⟩) ⟨pw_blind, tw_recv hK hT (fx_50 hX) (by decide) cl_e60 rfl, pw_use hT hK hFc hS hM⟩ rfl rfl hl.1 rfl (lv_room (Nat.le_of_ble_eq_true rfl)) dX12_earns_88 ⟨Nat.le_of_ble_eq_true rfl, Nat.le_of_ble_eq_true rfl⟩) hS (fun q _ h => hFc q h) hFc (fun r0 r_38 t H locs ht hvm hw hB hz1 hk1 hS => ?_)
                    refine W.widen (k := 0) (n := 0) (Nat.le_of_ble_eq_true rfl) (Nat.le_of_ble_eq_true rfl) ?_
                    clear hvm hz1 hk1
                    subst hw
                    obtain ⟨y_39, g_40, hgy_39, hggg_40, hI, hT⟩ := hB
                    rw [ht] at hT
                    have hG := hG.tr hgy_39 (by decide)
                    have hGg := hGg.tr hggg_40
                    have hW : IW (u 1) (u 2) (u 9) (y_39 (a 89)) := by rw [hgy_39.at (fx_89 hX) (by decide)]; exact hW
                    clear hc_14
                    refine lv_iadd hx hb dX12_earns_91 ?_
                    refine lv_topi (fun x_41 ex_41 => ?_)
                    refine lv_istore_n (lv' := [(3, .int x_41), (0, .ref (a 50)), (1, .int p0), (2, .int p1), (4, .int i4)]) hx hb dX12_earns_92 rfl hl (by decide) rfl (fun ls hl => ?_)
                    obtain ⟨x_42, ex_42⟩ : ∃ y : Int32, y = i4 + Int32.ofInt 1 := ⟨_, rfl⟩
                    have hx_42 := z_add ex_42 rfl (zk (x := Int32.ofInt 1) 1 rfl) (by omega) (by omega)
                    refine lv_iinc (v := x_42) (lv' := [(4, .int x_42), (3, .int x_41), (0, .ref (a 50)), (1, .int p0), (2, .int p1)]) hx hb dX12_earns_93 hl (k := 4) rfl ex_42.symm (by decide) rfl (fun ls hl => ?_)
                    refine lv_goto (tgt := 33) hx hb dX12_earns_96 (by decide) ?_
                    exact ih_33  x_41 x_42 y_39 g_40 H _ ls (by omega) hG hI hGg hW (by omega) (by omega) hT hS (lv_sub hl [2, 3, 4, 1, 0] rfl)
      have hp_43 : (0 : Int32).toInt = 0 := (zk (x := 0) 0 rfl)
      have hp_44 : (0 : Int32).toInt = 0 := (zk (x := 0) 0 rfl)
      exact loop_33 _ (0 : Int32) (0 : Int32) y_1 g H _ ls (Nat.lt_succ_self _) hG hI hGg hW (by omega) (by omega) hT hS (lv_sub hl [2, 3, 4, 1, 0] rfl)
    · refine lq_top (v := 0) hre ?_
      rw [ht] at hT
      try simp only [hp_7, hp_8] at hf_12
      clear hp_7 hp_8
      refine lv_if_ne (tgt := 28) hx hb dX12_earns_20 (by decide) (fun c_45 => absurd c_45 (by decide)) (fun c_45 => ?_)
      refine lv_aload_n hx hb dX12_earns_23 rfl (lv_at hl 0 rfl) ?_
      have hFc := tw_free hF hS hA
      refine va_calli (va_runV (As := []) (rest := []) ⟨hx, hb, hml, hown, hts⟩ (m_lost l dC dI ad av H.size a k τ ln y_1 g u  hI hW) (cwV 0 hts (gi_4 (List.mem_cons_of_mem _ (List.mem_append_left _ (List.mem_of_getElem? (i := 14) rfl))) (List.mem_cons_of_mem _ (List.mem_append_left _ (List.mem_of_getElem? (i := 15) rfl))) (List.mem_cons_of_mem _ (List.mem_append_left _ (List.mem_of_getElem? (i := 16) rfl))) (List.mem_cons_of_mem _ (List.mem_append_left _ (List.mem_of_getElem? (i := 4) rfl))) (fun _ hh => (List.mem_cons_of_mem _ (List.mem_append_right _ (List.mem_append_right _ (List.mem_append_right _ (List.mem_append_right _ (List.mem_append_right _ (List.mem_append_right _ (List.mem_append_left _ hh))))))))) gd_m_lost) rfl rfl rfl (by decide +kernel) ⟨Nat.le_of_ble_eq_true rfl, Nat.le_of_ble_eq_true rfl⟩) ⟨pw_blind, tw_recv hK hT (fx_50 hX) (by decide) cl_e60 rfl, pw_use hT hK hFc hS hM⟩ rfl rfl hl.1 rfl (lv_room (Nat.le_of_ble_eq_true rfl)) dX12_earns_24 ⟨Nat.le_of_ble_eq_true rfl, Nat.le_of_ble_eq_true rfl⟩) hS (fun q _ h => hFc q h) hFc (fun r0 r_46 t H locs ht hvm hw hB hz1 hk1 hS => ?_)
      refine W.widen (k := 0) (n := 0) (Nat.le_of_ble_eq_true rfl) (Nat.le_of_ble_eq_true rfl) ?_
      clear hvm hz1 hk1
      subst hw
      obtain ⟨y_47, hgy_47, hI, hT⟩ := hB
      rw [ht] at hT
      have hG := hG.tr hgy_47 (by decide)
      have hW : IW (u 1) (u 2) (u 9) (y_47 (a 89)) := by rw [hgy_47.at (fx_89 hX) (by decide)]; exact hW
      exact W.iret (v := r_46) hx hb hr (fun t ht hW9 => ⟨⟨r_46, r_46, rfl, rfl, ⟨y_47, g, hG, hGg, hI, tw_at ht hT⟩⟩, hS.F ht⟩) hS.2.2 dX12_earns_27
  · refine lq_top (v := 0) hre ?_
    rw [ht] at hT
    refine lv_if_eq (tgt := 23) hx hb dX12_earns_10 (by decide) (fun c_48 => ?_) (fun c_48 => absurd c_48 (by decide))
    refine lv_aload_n hx hb dX12_earns_23 rfl (lv_at hl 0 rfl) ?_
    have hFc := tw_free hF hS hA
    refine va_calli (va_runV (As := []) (rest := []) ⟨hx, hb, hml, hown, hts⟩ (m_lost l dC dI ad av H.size a k τ ln y_1 g u  hI hW) (cwV 0 hts (gi_4 (List.mem_cons_of_mem _ (List.mem_append_left _ (List.mem_of_getElem? (i := 14) rfl))) (List.mem_cons_of_mem _ (List.mem_append_left _ (List.mem_of_getElem? (i := 15) rfl))) (List.mem_cons_of_mem _ (List.mem_append_left _ (List.mem_of_getElem? (i := 16) rfl))) (List.mem_cons_of_mem _ (List.mem_append_left _ (List.mem_of_getElem? (i := 4) rfl))) (fun _ hh => (List.mem_cons_of_mem _ (List.mem_append_right _ (List.mem_append_right _ (List.mem_append_right _ (List.mem_append_right _ (List.mem_append_right _ (List.mem_append_right _ (List.mem_append_left _ hh))))))))) gd_m_lost) rfl rfl rfl (by decide +kernel) ⟨Nat.le_of_ble_eq_true rfl, Nat.le_of_ble_eq_true rfl⟩) ⟨pw_blind, tw_recv hK hT (fx_50 hX) (by decide) cl_e60 rfl, pw_use hT hK hFc hS hM⟩ rfl rfl hl.1 rfl (lv_room (Nat.le_of_ble_eq_true rfl)) dX12_earns_24 ⟨Nat.le_of_ble_eq_true rfl, Nat.le_of_ble_eq_true rfl⟩) hS (fun q _ h => hFc q h) hFc (fun r0 r_49 t H locs ht hvm hw hB hz1 hk1 hS => ?_)
    refine W.widen (k := 0) (n := 0) (Nat.le_of_ble_eq_true rfl) (Nat.le_of_ble_eq_true rfl) ?_
    clear hvm hz1 hk1
    subst hw
    obtain ⟨y_50, hgy_50, hI, hT⟩ := hB
    rw [ht] at hT
    have hG := hG.tr hgy_50 (by decide)
    have hW : IW (u 1) (u 2) (u 9) (y_50 (a 89)) := by rw [hgy_50.at (fx_89 hX) (by decide)]; exact hW
    exact W.iret (v := r_49) hx hb hr (fun t ht hW9 => ⟨⟨r_49, r_49, rfl, rfl, ⟨y_50, g, hG, hGg, hI, tw_at ht hT⟩⟩, hS.F ht⟩) hS.2.2 dX12_earns_27
def wo_m_quick : List Cond := [.fieldLink RX12 139 "TypingPoolModel" "thrown" "I", .methodLink RX12 160 yX12_isHand, .instanceMethod yX12_isHand, .selects RX12 yX12_isHand yX12_isHand, .initialized RX12, .methodLink RX12 145 yX12_in, .static yX12_in, .methodLink RX12 272 yX12_get, .instanceMethod yX12_get, .selects RX12 yX12_get yX12_get, .fieldLink RX12 149 "TypingPoolModel" "pieces" "I", .methodLink RX12 261 yX12_piece, .instanceMethod yX12_piece, .selects RX12 yX12_piece yX12_piece, .methodLink RX12 173 yX12_work, .instanceMethod yX12_work, .selects RX12 yX12_work yX12_work]
def wm_m_quick : List Cond := .code yX12_quick cX12_quick 5 (some .int) :: (wo_m_quick ++ (wsX120 ++ (wm_m_isHand ++ (wm_m_in ++ (wm_m_get ++ (wm_m_pieceG ++ (wm_m_work ++ ([] : List Cond))))))))
theorem gd_m_quick : ∀ w ∈ wm_m_quick, goodWord w = true := gd_c rfl (gd_a (by decide) (gd_a gd_wsX120 (gd_a gd_m_isHand (gd_a gd_m_in (gd_a gd_m_get (gd_a gd_m_pieceG (gd_a gd_m_work gd_nil)))))))
set_option maxRecDepth 20000 in
theorem im_m_quick : ∀ w ∈ wm_m_quick, w ∈ lw_tbl := im_c (in_r [.code yX12_quick cX12_quick 5 (some .int)] [1675] (by decide +kernel)) (in_app (in_r wo_m_quick [1278, 1436, 1438, 27, 86, 1420, 1421, 1540, 1542, 46, 1260, 1556, 1558, 50, 1452, 1454, 30] (by decide +kernel)) (in_app im_wsX120 (in_app im_m_isHand (in_app im_m_in (in_app im_m_get (in_app im_m_pieceG (in_app im_m_work im_nil)))))))
set_option maxHeartbeats 4000000 in
set_option maxRecDepth 100000 in
theorem m_quick (l : Launch) (dC : Nat → ClassId) (dI : Nat → Nat → Nat) (ad av : Nat → Nat) (sz : Nat) (a : Nat → Nat) (k : Nat → ClassId) (τ ln : Nat → Nat) (y : Nat → Nat → Int32) (g : Nat → Nat → Option Nat) (u : Nat → Int) (p0 : Int32) (p1 : Int32) (hI : IM a u τ y) (hW : IW (u 1) (u 2) (u 9) (y (a 89))) : Met l yX12_quick wm_m_quick ({ frames := 2, cells := 0, slots := 0, locals := 120 }) (pw_ ad av (dC, dI) sz [.ref (a 50), .int p0, .int p1] a k τ ln y g) (va_Qi (fun (r u : Int32) => u = r) (fun (r : Int32) (t : State) => (∃ (y' : Nat → Nat → Int32) (g' : Nat → Nat → Option Nat), ag τ [60] y y' ∧ agg τ g g' ∧ IM a u τ y' ∧ tw (dC, dI) a k τ ln y' g' t.heap)) (fr τ sz)) 0 0 (fr τ sz) := by
  refine Met.ofW (cc := cX12_quick) (maxL := 5) (ret := (some .int)) (by decide) rfl ?_
  intro p e s m args below meth c s₁ B hml hv
  obtain ⟨rfl, hsz, hT, hK, hM⟩ := hv
  have hx := B.exec
  have hb := B.bytes
  have hr := B.returns
  have hts := atoms_spec (ws := wm_m_quick) B.pre
  have hown : s.vm.findClass RX12 = some m.cls := findClass_of_methodNamed B.named
  have hlocks := B.notSynchronized
  subst hsz
  generalize hAe : fr τ s.heap.size = A at hM ⊢
  have hA : ∀ q : Nat, s.heap.size ≤ q → A q := fun q h => by rw [← hAe]; exact Or.inr h
  have hF : ∀ q, τ q ≠ 0 → A q := fun q h => by rw [← hAe]; exact Or.inl h
  have hS : va_S A s.heap s.heap [] := va_S.rf
  have hX := hI.1
  have hR := im_r hI
  have hG : ag τ [60] y y := ag.rf
  have hGg : agg τ g g := agg.rf
  have hl := lv_entry ([.ref (a 50), .int p0, .int p1]) (n := 5) (Nat.le_of_ble_eq_true rfl)
  rw [lg_entry_eq]
  generalize (lg_sl ([.ref (a 50), .int p0, .int p1]) ++ List.replicate (5 - (lg_sl ([.ref (a 50), .int p0, .int p1])).length) Slot.unset).toArray = ls at hl ⊢
  have hl : lv_has ls 5 [(0, .ref (a 50)), (1, .int p0), (2, .int p1)] := hl
  refine lv_aload_n hx hb dX12_quick_0 rfl (lv_at hl 0 rfl) ?_
  refine lv_iconst (v := 0) hx hb dX12_quick_1 (by decide) ?_
  refine tw_put (D := (dC, dI)) (x := 0) (ty := .int) (C := RX12) (T := TX12) (N := 58) hx hb hts (fun _ hh => (List.mem_cons_of_mem _ (List.mem_append_right _ (List.mem_append_left _ hh)))) tyX12 tyX12_ok nmX12 hown hK hT hF hS (fx_50 hX) (by decide) cl_e60 rfl 37 (by decide) (hts (.fieldLink RX12 139 "TypingPoolModel" "thrown" "I") (List.mem_cons_of_mem _ (List.mem_append_left _ (List.mem_of_getElem? (i := 0) rfl)))) (fun _ h9 => h9) rfl (tyX12_ok 37 (by decide)) rfl rfl (Nat.le_of_ble_eq_true rfl) rfl dX12_quick_2 (fun H locs hT hS => ?_)
  obtain ⟨y_1, hy_1, hT⟩ : ∃ z : Nat → Nat → Int32, z = up2 y (a 50) 37 (0 : Int32) ∧ tw (dC, dI) a k τ ln z g H := ⟨_, rfl, hT⟩
  have hG : ag τ [60] y y_1 := by rw [hy_1]; exact hG.up (fx_50 hX) (by decide)
  have hW : IW (u 1) (u 2) (u 9) (y_1 (a 89)) := by rw [hy_1, up2_o (kd_ne (fx_89 hX) (fx_50 hX) (by decide))]; exact hW
  have hI := hI.put (f := 37) (x := (0 : Int32)) (by decide)
  rw [← hy_1] at hI
  refine lv_aload_n hx hb dX12_quick_5 rfl (lv_at hl 0 rfl) ?_
  refine lv_iload_n hx hb dX12_quick_6 rfl (lv_at hl 1 rfl) ?_
  have hFc := tw_free hF hS hA
  refine va_calli (va_runV (As := [.int p0]) (rest := []) ⟨hx, hb, hml, hown, hts⟩ (m_isHand l dC dI ad av H.size a k τ ln y_1 g u p0 hI hW) (cwV 1 hts (gi_4 (List.mem_cons_of_mem _ (List.mem_append_left _ (List.mem_of_getElem? (i := 1) rfl))) (List.mem_cons_of_mem _ (List.mem_append_left _ (List.mem_of_getElem? (i := 2) rfl))) (List.mem_cons_of_mem _ (List.mem_append_left _ (List.mem_of_getElem? (i := 3) rfl))) (List.mem_cons_of_mem _ (List.mem_append_left _ (List.mem_of_getElem? (i := 4) rfl))) (fun _ hh => (List.mem_cons_of_mem _ (List.mem_append_right _ (List.mem_append_right _ (List.mem_append_left _ hh))))) gd_m_isHand) rfl rfl rfl (by decide +kernel) ⟨Nat.le_of_ble_eq_true rfl, Nat.le_of_ble_eq_true rfl⟩) ⟨pw_blind, tw_recv hK hT (fx_50 hX) (by decide) cl_e60 rfl, pw_use hT hK hFc hS hM⟩ rfl rfl hl.1 rfl (lv_room (Nat.le_of_ble_eq_true rfl)) dX12_quick_7 ⟨Nat.le_of_ble_eq_true rfl, Nat.le_of_ble_eq_true rfl⟩) hS (fun q _ h => hFc q h) hFc (fun r0 r_2 t H locs ht hvm hw hB hz1 hk1 hS => ?_)
  refine W.widen (k := 0) (n := 0) (Nat.le_of_ble_eq_true rfl) (Nat.le_of_ble_eq_true rfl) ?_
  clear hvm hz1 hk1
  subst hw
  rcases hB with ⟨hre, hf_3, hf_4, hT⟩ | ⟨hre, hf_5, hT⟩
  · refine lq_top (v := 1) hre ?_
    rw [ht] at hT
    refine lv_if_eq (tgt := 31) hx hb dX12_quick_10 (by decide) (fun c_6 => absurd c_6 (by decide)) (fun c_6 => ?_)
    refine lv_iload_n hx hb dX12_quick_13 rfl (lv_at hl 2 rfl) ?_
    refine lv_iconst (v := 0) hx hb dX12_quick_14 (by decide) ?_
    refine lv_iconst (v := 1) hx hb dX12_quick_15 (by decide) ?_
    have hFc := tw_free hF hS hA
    have hp_7 : (0 : Int32).toInt = 0 := (zk (x := 0) 0 rfl)
    have hp_8 : (1 : Int32).toInt = 1 := (zk (x := 1) 1 rfl)
    refine va_calli (va_runS (As := [.int p1, .int 0, .int 1]) (rest := []) ⟨hx, hb, hml, hown, hts⟩ (m_in l dC dI ad av H.size a k τ ln y_1 g u p1 (0 : Int32) (1 : Int32)  ) (va_cwS 3 hts (gi_3 (List.mem_cons_of_mem _ (List.mem_append_left _ (List.mem_of_getElem? (i := 5) rfl))) (List.mem_cons_of_mem _ (List.mem_append_left _ (List.mem_of_getElem? (i := 6) rfl))) (List.mem_cons_of_mem _ (List.mem_append_left _ (List.mem_of_getElem? (i := 4) rfl))) (fun _ hh => (List.mem_cons_of_mem _ (List.mem_append_right _ (List.mem_append_right _ (List.mem_append_right _ (List.mem_append_left _ hh)))))) gd_m_in) rfl rfl rfl (by decide +kernel) ⟨Nat.le_of_ble_eq_true rfl, Nat.le_of_ble_eq_true rfl⟩) ⟨pw_blind, pw_use hT hK hFc hS hM⟩ rfl rfl hl.1 rfl (lv_room (Nat.le_of_ble_eq_true rfl)) dX12_quick_16 ⟨Nat.le_of_ble_eq_true rfl, Nat.le_of_ble_eq_true rfl⟩) hS (fun q _ h => hFc q h) hFc (fun r0 r_9 t H locs ht hvm hw hB hz1 hk1 hS => ?_)
    refine W.widen (k := 0) (n := 0) (Nat.le_of_ble_eq_true rfl) (Nat.le_of_ble_eq_true rfl) ?_
    clear hvm hz1 hk1
    subst hw
    rcases hB with ⟨hre, hf_10, hf_11, hT⟩ | ⟨hre, hf_12, hT⟩
    · refine lq_top (v := 1) hre ?_
      rw [ht] at hT
      try simp only [hp_7, hp_8] at hf_10 hf_11
      clear hp_7 hp_8
      refine lv_if_eq (tgt := 31) hx hb dX12_quick_19 (by decide) (fun c_13 => absurd c_13 (by decide)) (fun c_13 => ?_)
      refine lv_aload_n hx hb dX12_quick_22 rfl (lv_at hl 0 rfl) ?_
      refine lv_iload_n hx hb dX12_quick_23 rfl (lv_at hl 1 rfl) ?_
      refine lv_iconst (v := 3) hx hb dX12_quick_24 (by decide) ?_
      have hFc := tw_free hF hS hA
      have hp_14 : (3 : Int32).toInt = 3 := (zk (x := 3) 3 rfl)
      refine va_calli (va_runV (As := [.int p0, .int 3]) (rest := []) ⟨hx, hb, hml, hown, hts⟩ (m_get l dC dI ad av H.size a k τ ln y_1 g u p0 (3 : Int32) hI (by omega) (by omega) (by decide) (by decide) hW) (cwV 2 hts (gi_4 (List.mem_cons_of_mem _ (List.mem_append_left _ (List.mem_of_getElem? (i := 7) rfl))) (List.mem_cons_of_mem _ (List.mem_append_left _ (List.mem_of_getElem? (i := 8) rfl))) (List.mem_cons_of_mem _ (List.mem_append_left _ (List.mem_of_getElem? (i := 9) rfl))) (List.mem_cons_of_mem _ (List.mem_append_left _ (List.mem_of_getElem? (i := 4) rfl))) (fun _ hh => (List.mem_cons_of_mem _ (List.mem_append_right _ (List.mem_append_right _ (List.mem_append_right _ (List.mem_append_right _ (List.mem_append_left _ hh))))))) gd_m_get) rfl rfl rfl (by decide +kernel) ⟨Nat.le_of_ble_eq_true rfl, Nat.le_of_ble_eq_true rfl⟩) ⟨pw_blind, tw_recv hK hT (fx_50 hX) (by decide) cl_e60 rfl, pw_use hT hK hFc hS hM⟩ rfl rfl hl.1 rfl (lv_room (Nat.le_of_ble_eq_true rfl)) dX12_quick_25 ⟨Nat.le_of_ble_eq_true rfl, Nat.le_of_ble_eq_true rfl⟩) hS (fun q _ h => hFc q h) hFc (fun r0 r_15 t H locs ht hvm hw hB hz1 hk1 hS => ?_)
      refine W.widen (k := 0) (n := 0) (Nat.le_of_ble_eq_true rfl) (Nat.le_of_ble_eq_true rfl) ?_
      clear hvm hz1 hk1
      subst hw
      obtain ⟨hf_16, hT⟩ := hB
      rw [ht] at hT
      try simp only [hp_14] at hf_16
      clear hp_14
      refine lv_if_ne (tgt := 33) hx hb dX12_quick_28 (by decide) (fun c_17 => ?_) (fun c_17 => ?_)
      · have nc_17 := z_ne rfl (zk (x := 0) 0 rfl) c_17
        refine lv_iload_n hx hb dX12_quick_33 rfl (lv_at hl 2 rfl) ?_
        refine lv_if_ne (tgt := 54) hx hb dX12_quick_34 (by decide) (fun c_18 => ?_) (fun c_18 => ?_)
        · have nc_18 := z_ne rfl (zk (x := 0) 0 rfl) c_18
          refine lv_iconst (v := 0) hx hb dX12_quick_54 (by decide) ?_
          refine lv_istore_n (lv' := [(3, .int 0), (0, .ref (a 50)), (1, .int p0), (2, .int p1)]) hx hb dX12_quick_55 rfl hl (by decide) rfl (fun ls hl => ?_)
          refine lv_iconst (v := 0) hx hb dX12_quick_56 (by decide) ?_
          refine lv_istore (lv' := [(4, .int 0), (3, .int 0), (0, .ref (a 50)), (1, .int p0), (2, .int p1)]) hx hb dX12_quick_57 hl (by decide) rfl (fun ls hl => ?_)
          have loop_59 : ∀ (n : Nat) (w3 : Int32) (i4 : Int32) (y_L59 : Nat → Nat → Int32) (g_L59 : Nat → Nat → Option Nat) (H : Heap) (locs : List Loc) (ls : Array Slot), (u 2 - i4.toInt).toNat < n → ag τ [60] y y_L59 → IM a u τ y_L59 → agg τ g g_L59 → IW (u 1) (u 2) (u 9) (y_L59 (a 89)) → 0 ≤ i4.toInt → i4.toInt ≤ u 2 → (y_L59 (a 89) (1 + 6 * p0.toInt + 3).toNat).toInt ≠ 0 → tw (dC, dI) a k τ ln y_L59 g_L59 H → va_S A s.heap H locs → lv_has ls 5 [(0, .ref (a 50)), (1, .int p0), (2, .int p1), (3, .int w3), (4, .int i4)] → W p l e (headSpec wm_m_quick ({ frames := 2, cells := 0, slots := 0, locals := 120 })).room s m ([.ref (a 50), .int p0, .int p1] : List Value).toArray below meth c H locs 0 0 (MQ below (va_Qi (fun (r u : Int32) => u = r) (fun (r : Int32) (t : State) => (∃ (y' : Nat → Nat → Int32) (g' : Nat → Nat → Option Nat), ag τ [60] y y' ∧ agg τ g g' ∧ IM a u τ y' ∧ tw (dC, dI) a k τ ln y' g' t.heap)) A) ([.ref (a 50), .int p0, .int p1] : List Value).toArray s 0 0 A) (F0 m 59 ls []) := by
            intro n
            induction n with
            | zero => intro w3 i4 y_L59 g_L59 H locs ls hlt; exact absurd hlt (Nat.not_lt_zero _)
            | succ n ih_59 =>
              intro w3 i4 y_L59 g_L59 H locs ls hlt hG hI hGg hW hi59_0 hi59_1 hi59_2 hT hS hl
              refine lv_iload hx hb dX12_quick_59 (lv_at hl 4 rfl) ?_
              refine lv_aload_n hx hb dX12_quick_61 rfl (lv_at hl 0 rfl) ?_
              refine tw_get (D := (dC, dI)) (v := .int (y_L59 (a 50) 19)) (C := RX12) (T := TX12) (N := 58) hx hb hts (fun _ hh => (List.mem_cons_of_mem _ (List.mem_append_right _ (List.mem_append_left _ hh)))) hown hK hT (fx_50 hX) (by decide) cl_e60 rfl 19 (by decide) (hts (.fieldLink RX12 149 "TypingPoolModel" "pieces" "I") (List.mem_cons_of_mem _ (List.mem_append_left _ (List.mem_of_getElem? (i := 10) rfl)))) (fun _ h9 => h9) rfl dX12_quick_62 ?_
              have hc_19 := im_2 hI
              refine lv_icmp_ge (tgt := 111) hx hb dX12_quick_65 (by decide) (fun c_20 => ?_) (fun c_20 => ?_)
              · have nc_20 := z_le hc_19 rfl c_20
                refine lv_iload_n hx hb dX12_quick_111 rfl (lv_at hl 3 rfl) ?_
                refine lv_sipush (v := 1000) hx hb dX12_quick_112 (by decide) ?_
                refine lv_imul hx hb dX12_quick_115 ?_
                refine lv_topi (fun x_21 ex_21 => ?_)
                refine lv_aload_n hx hb dX12_quick_116 rfl (lv_at hl 0 rfl) ?_
                refine lv_iload_n hx hb dX12_quick_117 rfl (lv_at hl 1 rfl) ?_
                refine lv_iconst (v := 3) hx hb dX12_quick_118 (by decide) ?_
                have hFc := tw_free hF hS hA
                have hp_22 : (3 : Int32).toInt = 3 := (zk (x := 3) 3 rfl)
                refine va_calli (va_runV (As := [.int p0, .int 3]) (rest := [.int x_21]) ⟨hx, hb, hml, hown, hts⟩ (m_get l dC dI ad av H.size a k τ ln y_L59 g_L59 u p0 (3 : Int32) hI (by omega) (by omega) (by decide) (by decide) hW) (cwV 2 hts (gi_4 (List.mem_cons_of_mem _ (List.mem_append_left _ (List.mem_of_getElem? (i := 7) rfl))) (List.mem_cons_of_mem _ (List.mem_append_left _ (List.mem_of_getElem? (i := 8) rfl))) (List.mem_cons_of_mem _ (List.mem_append_left _ (List.mem_of_getElem? (i := 9) rfl))) (List.mem_cons_of_mem _ (List.mem_append_left _ (List.mem_of_getElem? (i := 4) rfl))) (fun _ hh => (List.mem_cons_of_mem _ (List.mem_append_right _ (List.mem_append_right _ (List.mem_append_right _ (List.mem_append_right _ (List.mem_append_left _ hh))))))) gd_m_get) rfl rfl rfl (by decide +kernel) ⟨Nat.le_of_ble_eq_true rfl, Nat.le_of_ble_eq_true rfl⟩) ⟨pw_blind, tw_recv hK hT (fx_50 hX) (by decide) cl_e60 rfl, pw_use hT hK hFc hS hM⟩ rfl rfl hl.1 rfl (lv_room (Nat.le_of_ble_eq_true rfl)) dX12_quick_119 ⟨Nat.le_of_ble_eq_true rfl, Nat.le_of_ble_eq_true rfl⟩) hS (fun q _ h => hFc q h) hFc (fun r0 r_23 t H locs ht hvm hw hB hz1 hk1 hS => ?_)
                refine W.widen (k := 0) (n := 0) (Nat.le_of_ble_eq_true rfl) (Nat.le_of_ble_eq_true rfl) ?_
                clear hvm hz1 hk1
                subst hw
                obtain ⟨hf_24, hT⟩ := hB
                rw [ht] at hT
                try simp only [hp_22] at hf_24
                clear hp_22
                refine lv_idiv hx hb dX12_quick_122 (z_n0 rfl (by omega)) ?_
                refine lv_topi (fun x_25 ex_25 => ?_)
                exact W.iret (v := x_25) hx hb hr (fun t ht hW9 => ⟨⟨x_25, x_25, rfl, rfl, ⟨y_L59, g_L59, hG, hGg, hI, tw_at ht hT⟩⟩, hS.F ht⟩) hS.2.2 dX12_quick_123
              · have nc_20 := z_nle hc_19 rfl c_20
                refine lv_aload_n hx hb dX12_quick_68 rfl (lv_at hl 0 rfl) ?_
                refine lv_iload hx hb dX12_quick_69 (lv_at hl 4 rfl) ?_
                refine lv_iconst (v := 0) hx hb dX12_quick_71 (by decide) ?_
                have hFc := tw_free hF hS hA
                have hp_26 : (0 : Int32).toInt = 0 := (zk (x := 0) 0 rfl)
                refine va_calli (va_runV (As := [.int i4, .int 0]) (rest := []) ⟨hx, hb, hml, hown, hts⟩ (m_pieceG l dC dI ad av H.size a k τ ln y_L59 g_L59 u i4 (0 : Int32) hI (by omega) (by omega) (by decide) (by decide) hW) (cwV 2 hts (gi_4 (List.mem_cons_of_mem _ (List.mem_append_left _ (List.mem_of_getElem? (i := 11) rfl))) (List.mem_cons_of_mem _ (List.mem_append_left _ (List.mem_of_getElem? (i := 12) rfl))) (List.mem_cons_of_mem _ (List.mem_append_left _ (List.mem_of_getElem? (i := 13) rfl))) (List.mem_cons_of_mem _ (List.mem_append_left _ (List.mem_of_getElem? (i := 4) rfl))) (fun _ hh => (List.mem_cons_of_mem _ (List.mem_append_right _ (List.mem_append_right _ (List.mem_append_right _ (List.mem_append_right _ (List.mem_append_right _ (List.mem_append_left _ hh)))))))) gd_m_pieceG) rfl rfl rfl (by decide +kernel) ⟨Nat.le_of_ble_eq_true rfl, Nat.le_of_ble_eq_true rfl⟩) ⟨pw_blind, tw_recv hK hT (fx_50 hX) (by decide) cl_e60 rfl, pw_use hT hK hFc hS hM⟩ rfl rfl hl.1 rfl (lv_room (Nat.le_of_ble_eq_true rfl)) dX12_quick_72 ⟨Nat.le_of_ble_eq_true rfl, Nat.le_of_ble_eq_true rfl⟩) hS (fun q _ h => hFc q h) hFc (fun r0 r_27 t H locs ht hvm hw hB hz1 hk1 hS => ?_)
                refine W.widen (k := 0) (n := 0) (Nat.le_of_ble_eq_true rfl) (Nat.le_of_ble_eq_true rfl) ?_
                clear hvm hz1 hk1
                subst hw
                obtain ⟨hf_28, hT⟩ := hB
                rw [ht] at hT
                try simp only [hp_26] at hf_28
                clear hp_26
                refine lv_iload_n hx hb dX12_quick_75 rfl (lv_at hl 1 rfl) ?_
                refine lv_icmp_ne (tgt := 105) hx hb dX12_quick_76 (by decide) (fun c_29 => ?_) (fun c_29 => ?_)
                · have nc_29 := z_ne rfl rfl c_29
                  obtain ⟨x_30, ex_30⟩ : ∃ y : Int32, y = i4 + Int32.ofInt 1 := ⟨_, rfl⟩
                  have hx_30 := z_add ex_30 rfl (zk (x := Int32.ofInt 1) 1 rfl) (by omega) (by omega)
                  refine lv_iinc (v := x_30) (lv' := [(4, .int x_30), (0, .ref (a 50)), (1, .int p0), (2, .int p1), (3, .int w3)]) hx hb dX12_quick_105 hl (k := 4) rfl ex_30.symm (by decide) rfl (fun ls hl => ?_)
                  refine lv_goto (tgt := 59) hx hb dX12_quick_108 (by decide) ?_
                  exact ih_59  w3 x_30 y_L59 g_L59 H _ ls (by omega) hG hI hGg hW (by omega) (by omega) (by omega) hT hS (lv_sub hl [1, 2, 3, 4, 0] rfl)
                · have nc_29 := z_eq rfl rfl c_29
                  refine lv_aload_n hx hb dX12_quick_79 rfl (lv_at hl 0 rfl) ?_
                  refine lv_iload hx hb dX12_quick_80 (lv_at hl 4 rfl) ?_
                  refine lv_iconst (v := 2) hx hb dX12_quick_82 (by decide) ?_
                  have hFc := tw_free hF hS hA
                  have hp_31 : (2 : Int32).toInt = 2 := (zk (x := 2) 2 rfl)
                  refine va_calli (va_runV (As := [.int i4, .int 2]) (rest := []) ⟨hx, hb, hml, hown, hts⟩ (m_pieceG l dC dI ad av H.size a k τ ln y_L59 g_L59 u i4 (2 : Int32) hI (by omega) (by omega) (by decide) (by decide) hW) (cwV 2 hts (gi_4 (List.mem_cons_of_mem _ (List.mem_append_left _ (List.mem_of_getElem? (i := 11) rfl))) (List.mem_cons_of_mem _ (List.mem_append_left _ (List.mem_of_getElem? (i := 12) rfl))) (List.mem_cons_of_mem _ (List.mem_append_left _ (List.mem_of_getElem? (i := 13) rfl))) (List.mem_cons_of_mem _ (List.mem_append_left _ (List.mem_of_getElem? (i := 4) rfl))) (fun _ hh => (List.mem_cons_of_mem _ (List.mem_append_right _ (List.mem_append_right _ (List.mem_append_right _ (List.mem_append_right _ (List.mem_append_right _ (List.mem_append_left _ hh)))))))) gd_m_pieceG) rfl rfl rfl (by decide +kernel) ⟨Nat.le_of_ble_eq_true rfl, Nat.le_of_ble_eq_true rfl⟩) ⟨pw_blind, tw_recv hK hT (fx_50 hX) (by decide) cl_e60 rfl, pw_use hT hK hFc hS hM⟩ rfl rfl hl.1 rfl (lv_room (Nat.le_of_ble_eq_true rfl)) dX12_quick_83 ⟨Nat.le_of_ble_eq_true rfl, Nat.le_of_ble_eq_true rfl⟩) hS (fun q _ h => hFc q h) hFc (fun r0 r_32 t H locs ht hvm hw hB hz1 hk1 hS => ?_)
                  refine W.widen (k := 0) (n := 0) (Nat.le_of_ble_eq_true rfl) (Nat.le_of_ble_eq_true rfl) ?_
                  clear hvm hz1 hk1
                  subst hw
                  obtain ⟨hf_33, hT⟩ := hB
                  rw [ht] at hT
                  try simp only [hp_31] at hf_33
                  clear hp_31
                  refine lv_iconst (v := (-1)) hx hb dX12_quick_86 (by decide) ?_
                  refine lv_icmp_eq (tgt := 105) hx hb dX12_quick_87 (by decide) (fun c_34 => ?_) (fun c_34 => ?_)
                  · have nc_34 := z_eq rfl (zk (x := (-1)) (-1) rfl) c_34
                    obtain ⟨x_35, ex_35⟩ : ∃ y : Int32, y = i4 + Int32.ofInt 1 := ⟨_, rfl⟩
                    have hx_35 := z_add ex_35 rfl (zk (x := Int32.ofInt 1) 1 rfl) (by omega) (by omega)
                    refine lv_iinc (v := x_35) (lv' := [(4, .int x_35), (0, .ref (a 50)), (1, .int p0), (2, .int p1), (3, .int w3)]) hx hb dX12_quick_105 hl (k := 4) rfl ex_35.symm (by decide) rfl (fun ls hl => ?_)
                    refine lv_goto (tgt := 59) hx hb dX12_quick_108 (by decide) ?_
                    exact ih_59  w3 x_35 y_L59 g_L59 H _ ls (by omega) hG hI hGg hW (by omega) (by omega) (by omega) hT hS (lv_sub hl [1, 2, 3, 4, 0] rfl)
                  · have nc_34 := z_ne rfl (zk (x := (-1)) (-1) rfl) c_34
                    refine lv_iload_n hx hb dX12_quick_90 rfl (lv_at hl 3 rfl) ?_
                    refine lv_aload_n hx hb dX12_quick_91 rfl (lv_at hl 0 rfl) ?_
                    refine lv_iload hx hb dX12_quick_92 (lv_at hl 4 rfl) ?_
                    have hFc := tw_free hF hS hA
                    refine va_calli (va_runV (As := [.int i4]) (rest := [.int w3]) ⟨hx, hb, hml, hown, hts⟩ (m_work l dC dI ad av H.size a k τ ln y_L59 g_L59 u i4 hI (by omega) (by omega) (vb_at (im_a63 hI) (x := i4) rfl (by omega) (by omega)) (vb_at (im_a69 hI) (x := i4) rfl (by omega) (by omega)) hW) (cwV 1 hts (gi_4 (List.mem_cons_of_mem _ (List.mem_append_left _ (List.mem_of_getElem? (i := 14) rfl))) (List.mem_cons_of_mem _ (List.mem_append_left _ (List.mem_of_getElem? (i := 15) rfl))) (List.mem_cons_of_mem _ (List.mem_append_left _ (List.mem_of_getElem? (i := 16) rfl))) (List.mem_cons_of_mem _ (List.mem_append_left _ (List.mem_of_getElem? (i := 4) rfl))) (fun _ hh => (List.mem_cons_of_mem _ (List.mem_append_right _ (List.mem_append_right _ (List.mem_append_right _ (List.mem_append_right _ (List.mem_append_right _ (List.mem_append_right _ (List.mem_append_left _ hh))))))))) gd_m_work) rfl rfl rfl (by decide +kernel) ⟨Nat.le_of_ble_eq_true rfl, Nat.le_of_ble_eq_true rfl⟩) ⟨pw_blind, tw_recv hK hT (fx_50 hX) (by decide) cl_e60 rfl, pw_use hT hK hFc hS hM⟩ rfl rfl hl.1 rfl (lv_room (Nat.le_of_ble_eq_true rfl)) dX12_quick_94 ⟨Nat.le_of_ble_eq_true rfl, Nat.le_of_ble_eq_true rfl⟩) hS (fun q _ h => hFc q h) hFc (fun r0 r_36 t H locs ht hvm hw hB hz1 hk1 hS => ?_)
                    refine W.widen (k := 0) (n := 0) (Nat.le_of_ble_eq_true rfl) (Nat.le_of_ble_eq_true rfl) ?_
                    clear hvm hz1 hk1
                    subst hw
                    obtain ⟨hf_37, hf_38, hT⟩ := hB
                    rw [ht] at hT
                    refine lv_bipush (v := 59) hx hb dX12_quick_97 (by decide) ?_
                    refine lv_iadd hx hb dX12_quick_99 ?_
                    refine lv_topi (fun x_39 ex_39 => ?_)
                    have hx_39 := z_add ex_39 rfl (zk (x := 59) 59 rfl) (by omega) (by omega)
                    refine lv_bipush (v := 60) hx hb dX12_quick_100 (by decide) ?_
                    refine lv_idiv hx hb dX12_quick_102 (by decide) ?_
                    refine lv_topi (fun x_40 ex_40 => ?_)
                    refine lv_iadd hx hb dX12_quick_103 ?_
                    refine lv_topi (fun x_41 ex_41 => ?_)
                    refine lv_istore_n (lv' := [(3, .int x_41), (0, .ref (a 50)), (1, .int p0), (2, .int p1), (4, .int i4)]) hx hb dX12_quick_104 rfl hl (by decide) rfl (fun ls hl => ?_)
                    obtain ⟨x_42, ex_42⟩ : ∃ y : Int32, y = i4 + Int32.ofInt 1 := ⟨_, rfl⟩
                    have hx_42 := z_add ex_42 rfl (zk (x := Int32.ofInt 1) 1 rfl) (by omega) (by omega)
                    refine lv_iinc (v := x_42) (lv' := [(4, .int x_42), (3, .int x_41), (0, .ref (a 50)), (1, .int p0), (2, .int p1)]) hx hb dX12_quick_105 hl (k := 4) rfl ex_42.symm (by decide) rfl (fun ls hl => ?_)
                    refine lv_goto (tgt := 59) hx hb dX12_quick_108 (by decide) ?_
                    exact ih_59  x_41 x_42 y_L59 g_L59 H _ ls (by omega) hG hI hGg hW (by omega) (by omega) (by omega) hT hS (lv_sub hl [2, 3, 4, 1, 0] rfl)
          have hp_43 : (0 : Int32).toInt = 0 := (zk (x := 0) 0 rfl)
          have hp_44 : (0 : Int32).toInt = 0 := (zk (x := 0) 0 rfl)
          exact loop_59 _ (0 : Int32) (0 : Int32) y_1 g H _ ls (Nat.lt_succ_self _) hG hI hGg hW (by omega) (by omega) (by omega) hT hS (lv_sub hl [2, 3, 4, 1, 0] rfl)
        · have nc_18 := z_eq rfl (zk (x := 0) 0 rfl) c_18
          refine lv_aload_n hx hb dX12_quick_37 rfl (lv_at hl 0 rfl) ?_
          refine lv_iload_n hx hb dX12_quick_38 rfl (lv_at hl 1 rfl) ?_
          refine lv_iconst (v := 4) hx hb dX12_quick_39 (by decide) ?_
          have hFc := tw_free hF hS hA
          have hp_45 : (4 : Int32).toInt = 4 := (zk (x := 4) 4 rfl)
          refine va_calli (va_runV (As := [.int p0, .int 4]) (rest := []) ⟨hx, hb, hml, hown, hts⟩ (m_get l dC dI ad av H.size a k τ ln y_1 g u p0 (4 : Int32) hI (by omega) (by omega) (by decide) (by decide) hW) (cwV 2 hts (gi_4 (List.mem_cons_of_mem _ (List.mem_append_left _ (List.mem_of_getElem? (i := 7) rfl))) (List.mem_cons_of_mem _ (List.mem_append_left _ (List.mem_of_getElem? (i := 8) rfl))) (List.mem_cons_of_mem _ (List.mem_append_left _ (List.mem_of_getElem? (i := 9) rfl))) (List.mem_cons_of_mem _ (List.mem_append_left _ (List.mem_of_getElem? (i := 4) rfl))) (fun _ hh => (List.mem_cons_of_mem _ (List.mem_append_right _ (List.mem_append_right _ (List.mem_append_right _ (List.mem_append_right _ (List.mem_append_left _ hh))))))) gd_m_get) rfl rfl rfl (by decide +kernel) ⟨Nat.le_of_ble_eq_true rfl, Nat.le_of_ble_eq_true rfl⟩) ⟨pw_blind, tw_recv hK hT (fx_50 hX) (by decide) cl_e60 rfl, pw_use hT hK hFc hS hM⟩ rfl rfl hl.1 rfl (lv_room (Nat.le_of_ble_eq_true rfl)) dX12_quick_40 ⟨Nat.le_of_ble_eq_true rfl, Nat.le_of_ble_eq_true rfl⟩) hS (fun q _ h => hFc q h) hFc (fun r0 r_46 t H locs ht hvm hw hB hz1 hk1 hS => ?_)
          refine W.widen (k := 0) (n := 0) (Nat.le_of_ble_eq_true rfl) (Nat.le_of_ble_eq_true rfl) ?_
          clear hvm hz1 hk1
          subst hw
          obtain ⟨hf_47, hT⟩ := hB
          rw [ht] at hT
          try simp only [hp_45] at hf_47
          clear hp_45
          refine lv_bipush (v := 60) hx hb dX12_quick_43 (by decide) ?_
          refine lv_imul hx hb dX12_quick_45 ?_
          refine lv_topi (fun x_48 ex_48 => ?_)
          refine lv_aload_n hx hb dX12_quick_46 rfl (lv_at hl 0 rfl) ?_
          refine lv_iload_n hx hb dX12_quick_47 rfl (lv_at hl 1 rfl) ?_
          refine lv_iconst (v := 3) hx hb dX12_quick_48 (by decide) ?_
          have hFc := tw_free hF hS hA
          have hp_49 : (3 : Int32).toInt = 3 := (zk (x := 3) 3 rfl)
          refine va_calli (va_runV (As := [.int p0, .int 3]) (rest := [.int x_48]) ⟨hx, hb, hml, hown, hts⟩ (m_get l dC dI ad av H.size a k τ ln y_1 g u p0 (3 : Int32) hI (by omega) (by omega) (by decide) (by decide) hW) (cwV 2 hts (gi_4 (List.mem_cons_of_mem _ (List.mem_append_left _ (List.mem_of_getElem? (i := 7) rfl))) (List.mem_cons_of_mem _ (List.mem_append_left _ (List.mem_of_getElem? (i := 8) rfl))) (List.mem_cons_of_mem _ (List.mem_append_left _ (List.mem_of_getElem? (i := 9) rfl))) (List.mem_cons_of_mem _ (List.mem_append_left _ (List.mem_of_getElem? (i := 4) rfl))) (fun _ hh => (List.mem_cons_of_mem _ (List.mem_append_right _ (List.mem_append_right _ (List.mem_append_right _ (List.mem_append_right _ (List.mem_append_left _ hh))))))) gd_m_get) rfl rfl rfl (by decide +kernel) ⟨Nat.le_of_ble_eq_true rfl, Nat.le_of_ble_eq_true rfl⟩) ⟨pw_blind, tw_recv hK hT (fx_50 hX) (by decide) cl_e60 rfl, pw_use hT hK hFc hS hM⟩ rfl rfl hl.1 rfl (lv_room (Nat.le_of_ble_eq_true rfl)) dX12_quick_49 ⟨Nat.le_of_ble_eq_true rfl, Nat.le_of_ble_eq_true rfl⟩) hS (fun q _ h => hFc q h) hFc (fun r0 r_50 t H locs ht hvm hw hB hz1 hk1 hS => ?_)
          refine W.widen (k := 0) (n := 0) (Nat.le_of_ble_eq_true rfl) (Nat.le_of_ble_eq_true rfl) ?_
          clear hvm hz1 hk1
          subst hw
          obtain ⟨hf_51, hT⟩ := hB
          rw [ht] at hT
          try simp only [hp_49] at hf_51
          clear hp_49
          refine lv_idiv hx hb dX12_quick_52 (z_n0 rfl (by omega)) ?_
          refine lv_topi (fun x_52 ex_52 => ?_)
          exact W.iret (v := x_52) hx hb hr (fun t ht hW9 => ⟨⟨x_52, x_52, rfl, rfl, ⟨y_1, g, hG, hGg, hI, tw_at ht hT⟩⟩, hS.F ht⟩) hS.2.2 dX12_quick_53
      · have nc_17 := z_eq rfl (zk (x := 0) 0 rfl) c_17
        refine lv_iconst (v := (-1)) hx hb dX12_quick_31 (by decide) ?_
        exact W.iret (v := (-1)) hx hb hr (fun t ht hW9 => ⟨⟨(-1), (-1), rfl, rfl, ⟨y_1, g, hG, hGg, hI, tw_at ht hT⟩⟩, hS.F ht⟩) hS.2.2 dX12_quick_32
    · refine lq_top (v := 0) hre ?_
      rw [ht] at hT
      try simp only [hp_7, hp_8] at hf_12
      clear hp_7 hp_8
      refine lv_if_eq (tgt := 31) hx hb dX12_quick_19 (by decide) (fun c_53 => ?_) (fun c_53 => absurd c_53 (by decide))
      refine lv_iconst (v := (-1)) hx hb dX12_quick_31 (by decide) ?_
      exact W.iret (v := (-1)) hx hb hr (fun t ht hW9 => ⟨⟨(-1), (-1), rfl, rfl, ⟨y_1, g, hG, hGg, hI, tw_at ht hT⟩⟩, hS.F ht⟩) hS.2.2 dX12_quick_32
  · refine lq_top (v := 0) hre ?_
    rw [ht] at hT
    refine lv_if_eq (tgt := 31) hx hb dX12_quick_10 (by decide) (fun c_54 => ?_) (fun c_54 => absurd c_54 (by decide))
    refine lv_iconst (v := (-1)) hx hb dX12_quick_31 (by decide) ?_
    exact W.iret (v := (-1)) hx hb hr (fun t ht hW9 => ⟨⟨(-1), (-1), rfl, rfl, ⟨y_1, g, hG, hGg, hI, tw_at ht hT⟩⟩, hS.F ht⟩) hS.2.2 dX12_quick_32
def wo_m_claims : List Cond := [.fieldLink RX12 139 "TypingPoolModel" "thrown" "I", .methodLink RX12 145 yX12_in, .static yX12_in, .initialized RX12, .fieldLink RX12 149 "TypingPoolModel" "pieces" "I", .fieldLink RX12 31 "TypingPoolModel" "department" "[I", .fieldLink RX12 46 "TypingPoolModel" "comes" "[I", .methodLink RX12 164 yX12_now, .instanceMethod yX12_now, .selects RX12 yX12_now yX12_now, .fieldLink RX12 37 "TypingPoolModel" "lines" "[I", .fieldLink RX12 43 "TypingPoolModel" "claim" "[I", .fieldLink RX12 49 "TypingPoolModel" "due" "[I", .methodLink RX12 318 yX12_late, .instanceMethod yX12_late, .selects RX12 yX12_late yX12_late, .methodLink RX12 339 yX12_waited, .instanceMethod yX12_waited, .selects RX12 yX12_waited yX12_waited]
def wm_m_claims : List Cond := .code yX12_claims cX12_claims 5 (some .int) :: (wo_m_claims ++ (wsX120 ++ (wm_m_in ++ (wm_m_now ++ (wm_m_late ++ (wm_m_waited ++ ([] : List Cond)))))))
theorem gd_m_claims : ∀ w ∈ wm_m_claims, goodWord w = true := gd_c rfl (gd_a (by decide) (gd_a gd_wsX120 (gd_a gd_m_in (gd_a gd_m_now (gd_a gd_m_late (gd_a gd_m_waited gd_nil))))))
set_option maxRecDepth 20000 in
theorem im_m_claims : ∀ w ∈ wm_m_claims, w ∈ lw_tbl := im_c (in_r [.code yX12_claims cX12_claims 5 (some .int)] [1679] (by decide +kernel)) (in_app (in_r wo_m_claims [1278, 1420, 1421, 86, 1260, 1251, 1256, 1440, 1442, 28, 1253, 1255, 1257, 1600, 1602, 56, 1680, 1682, 61] (by decide +kernel)) (in_app im_wsX120 (in_app im_m_in (in_app im_m_now (in_app im_m_late (in_app im_m_waited im_nil))))))
set_option maxHeartbeats 4000000 in
set_option maxRecDepth 100000 in
theorem m_claims (l : Launch) (dC : Nat → ClassId) (dI : Nat → Nat → Nat) (ad av : Nat → Nat) (sz : Nat) (a : Nat → Nat) (k : Nat → ClassId) (τ ln : Nat → Nat) (y : Nat → Nat → Int32) (g : Nat → Nat → Option Nat) (u : Nat → Int) (p0 : Int32) (p1 : Int32) (hI : IM a u τ y) (hW : IW (u 1) (u 2) (u 9) (y (a 89))) : Met l yX12_claims wm_m_claims ({ frames := 3, cells := 0, slots := 0, locals := 140 }) (pw_ ad av (dC, dI) sz [.ref (a 50), .int p0, .int p1] a k τ ln y g) (va_Qi (fun (r u : Int32) => u = r) (fun (r : Int32) (t : State) => (∃ (y' : Nat → Nat → Int32) (g' : Nat → Nat → Option Nat), ag τ [60] y y' ∧ agg τ g g' ∧ IM a u τ y' ∧ tw (dC, dI) a k τ ln y' g' t.heap)) (fr τ sz)) 0 0 (fr τ sz) := by
  refine Met.ofW (cc := cX12_claims) (maxL := 5) (ret := (some .int)) (by decide) rfl ?_
  intro p e s m args below meth c s₁ B hml hv
  obtain ⟨rfl, hsz, hT, hK, hM⟩ := hv
  have hx := B.exec
  have hb := B.bytes
  have hr := B.returns
  have hts := atoms_spec (ws := wm_m_claims) B.pre
  have hown : s.vm.findClass RX12 = some m.cls := findClass_of_methodNamed B.named
  have hlocks := B.notSynchronized
  subst hsz
  generalize hAe : fr τ s.heap.size = A at hM ⊢
  have hA : ∀ q : Nat, s.heap.size ≤ q → A q := fun q h => by rw [← hAe]; exact Or.inr h
  have hF : ∀ q, τ q ≠ 0 → A q := fun q h => by rw [← hAe]; exact Or.inl h
  have hS : va_S A s.heap s.heap [] := va_S.rf
  have hX := hI.1
  have hR := im_r hI
  have hG : ag τ [60] y y := ag.rf
  have hGg : agg τ g g := agg.rf
  have hl := lv_entry ([.ref (a 50), .int p0, .int p1]) (n := 5) (Nat.le_of_ble_eq_true rfl)
  rw [lg_entry_eq]
  generalize (lg_sl ([.ref (a 50), .int p0, .int p1]) ++ List.replicate (5 - (lg_sl ([.ref (a 50), .int p0, .int p1])).length) Slot.unset).toArray = ls at hl ⊢
  have hl : lv_has ls 5 [(0, .ref (a 50)), (1, .int p0), (2, .int p1)] := hl
  refine lv_aload_n hx hb dX12_claims_0 rfl (lv_at hl 0 rfl) ?_
  refine lv_iconst (v := 0) hx hb dX12_claims_1 (by decide) ?_
  refine tw_put (D := (dC, dI)) (x := 0) (ty := .int) (C := RX12) (T := TX12) (N := 58) hx hb hts (fun _ hh => (List.mem_cons_of_mem _ (List.mem_append_right _ (List.mem_append_left _ hh)))) tyX12 tyX12_ok nmX12 hown hK hT hF hS (fx_50 hX) (by decide) cl_e60 rfl 37 (by decide) (hts (.fieldLink RX12 139 "TypingPoolModel" "thrown" "I") (List.mem_cons_of_mem _ (List.mem_append_left _ (List.mem_of_getElem? (i := 0) rfl)))) (fun _ h9 => h9) rfl (tyX12_ok 37 (by decide)) rfl rfl (Nat.le_of_ble_eq_true rfl) rfl dX12_claims_2 (fun H locs hT hS => ?_)
  obtain ⟨y_1, hy_1, hT⟩ : ∃ z : Nat → Nat → Int32, z = up2 y (a 50) 37 (0 : Int32) ∧ tw (dC, dI) a k τ ln z g H := ⟨_, rfl, hT⟩
  have hG : ag τ [60] y y_1 := by rw [hy_1]; exact hG.up (fx_50 hX) (by decide)
  have hW : IW (u 1) (u 2) (u 9) (y_1 (a 89)) := by rw [hy_1, up2_o (kd_ne (fx_89 hX) (fx_50 hX) (by decide))]; exact hW
  have hI := hI.put (f := 37) (x := (0 : Int32)) (by decide)
  rw [← hy_1] at hI
  refine lv_iload_n hx hb dX12_claims_5 rfl (lv_at hl 1 rfl) ?_
  refine lv_iconst (v := 0) hx hb dX12_claims_6 (by decide) ?_
  refine lv_bipush (v := 7) hx hb dX12_claims_7 (by decide) ?_
  have hFc := tw_free hF hS hA
  have hp_2 : (0 : Int32).toInt = 0 := (zk (x := 0) 0 rfl)
  have hp_3 : (7 : Int32).toInt = 7 := (zk (x := 7) 7 rfl)
  refine va_calli (va_runS (As := [.int p0, .int 0, .int 7]) (rest := []) ⟨hx, hb, hml, hown, hts⟩ (m_in l dC dI ad av H.size a k τ ln y_1 g u p0 (0 : Int32) (7 : Int32)  ) (va_cwS 3 hts (gi_3 (List.mem_cons_of_mem _ (List.mem_append_left _ (List.mem_of_getElem? (i := 1) rfl))) (List.mem_cons_of_mem _ (List.mem_append_left _ (List.mem_of_getElem? (i := 2) rfl))) (List.mem_cons_of_mem _ (List.mem_append_left _ (List.mem_of_getElem? (i := 3) rfl))) (fun _ hh => (List.mem_cons_of_mem _ (List.mem_append_right _ (List.mem_append_right _ (List.mem_append_left _ hh))))) gd_m_in) rfl rfl rfl (by decide +kernel) ⟨Nat.le_of_ble_eq_true rfl, Nat.le_of_ble_eq_true rfl⟩) ⟨pw_blind, pw_use hT hK hFc hS hM⟩ rfl rfl hl.1 rfl (lv_room (Nat.le_of_ble_eq_true rfl)) dX12_claims_9 ⟨Nat.le_of_ble_eq_true rfl, Nat.le_of_ble_eq_true rfl⟩) hS (fun q _ h => hFc q h) hFc (fun r0 r_4 t H locs ht hvm hw hB hz1 hk1 hS => ?_)
  refine W.widen (k := 0) (n := 0) (Nat.le_of_ble_eq_true rfl) (Nat.le_of_ble_eq_true rfl) ?_
  clear hvm hz1 hk1
  subst hw
  rcases hB with ⟨hre, hf_5, hf_6, hT⟩ | ⟨hre, hf_7, hT⟩
  · refine lq_top (v := 1) hre ?_
    rw [ht] at hT
    try simp only [hp_2, hp_3] at hf_5 hf_6
    clear hp_2 hp_3
    refine lv_if_eq (tgt := 24) hx hb dX12_claims_12 (by decide) (fun c_8 => absurd c_8 (by decide)) (fun c_8 => ?_)
    refine lv_iload_n hx hb dX12_claims_15 rfl (lv_at hl 2 rfl) ?_
    refine lv_iconst (v := 0) hx hb dX12_claims_16 (by decide) ?_
    refine lv_iconst (v := 4) hx hb dX12_claims_17 (by decide) ?_
    have hFc := tw_free hF hS hA
    have hp_9 : (0 : Int32).toInt = 0 := (zk (x := 0) 0 rfl)
    have hp_10 : (4 : Int32).toInt = 4 := (zk (x := 4) 4 rfl)
    refine va_calli (va_runS (As := [.int p1, .int 0, .int 4]) (rest := []) ⟨hx, hb, hml, hown, hts⟩ (m_in l dC dI ad av H.size a k τ ln y_1 g u p1 (0 : Int32) (4 : Int32)  ) (va_cwS 3 hts (gi_3 (List.mem_cons_of_mem _ (List.mem_append_left _ (List.mem_of_getElem? (i := 1) rfl))) (List.mem_cons_of_mem _ (List.mem_append_left _ (List.mem_of_getElem? (i := 2) rfl))) (List.mem_cons_of_mem _ (List.mem_append_left _ (List.mem_of_getElem? (i := 3) rfl))) (fun _ hh => (List.mem_cons_of_mem _ (List.mem_append_right _ (List.mem_append_right _ (List.mem_append_left _ hh))))) gd_m_in) rfl rfl rfl (by decide +kernel) ⟨Nat.le_of_ble_eq_true rfl, Nat.le_of_ble_eq_true rfl⟩) ⟨pw_blind, pw_use hT hK hFc hS hM⟩ rfl rfl hl.1 rfl (lv_room (Nat.le_of_ble_eq_true rfl)) dX12_claims_18 ⟨Nat.le_of_ble_eq_true rfl, Nat.le_of_ble_eq_true rfl⟩) hS (fun q _ h => hFc q h) hFc (fun r0 r_11 t H locs ht hvm hw hB hz1 hk1 hS => ?_)
    refine W.widen (k := 0) (n := 0) (Nat.le_of_ble_eq_true rfl) (Nat.le_of_ble_eq_true rfl) ?_
    clear hvm hz1 hk1
    subst hw
    rcases hB with ⟨hre, hf_12, hf_13, hT⟩ | ⟨hre, hf_14, hT⟩
    · refine lq_top (v := 1) hre ?_
      rw [ht] at hT
      try simp only [hp_9, hp_10] at hf_12 hf_13
      clear hp_9 hp_10
      refine lv_if_ne (tgt := 26) hx hb dX12_claims_21 (by decide) (fun c_15 => ?_) (fun c_15 => absurd c_15 (by decide))
      refine lv_iload_n hx hb dX12_claims_26 rfl (lv_at hl 2 rfl) ?_
      refine lv_if_ne (tgt := 36) hx hb dX12_claims_27 (by decide) (fun c_16 => ?_) (fun c_16 => ?_)
      · have nc_16 := z_ne rfl (zk (x := 0) 0 rfl) c_16
        refine lv_iconst (v := 0) hx hb dX12_claims_36 (by decide) ?_
        refine lv_istore_n (lv' := [(3, .int 0), (0, .ref (a 50)), (1, .int p0), (2, .int p1)]) hx hb dX12_claims_37 rfl hl (by decide) rfl (fun ls hl => ?_)
        refine lv_iconst (v := 0) hx hb dX12_claims_38 (by decide) ?_
        refine lv_istore (lv' := [(4, .int 0), (3, .int 0), (0, .ref (a 50)), (1, .int p0), (2, .int p1)]) hx hb dX12_claims_39 hl (by decide) rfl (fun ls hl => ?_)
        have loop_41 : ∀ (n : Nat) (w3 : Int32) (i4 : Int32) (y_L41 : Nat → Nat → Int32) (g_L41 : Nat → Nat → Option Nat) (H : Heap) (locs : List Loc) (ls : Array Slot), (u 2 - i4.toInt).toNat < n → ag τ [60] y y_L41 → IM a u τ y_L41 → agg τ g g_L41 → IW (u 1) (u 2) (u 9) (y_L41 (a 89)) → 0 ≤ i4.toInt → i4.toInt ≤ u 2 → tw (dC, dI) a k τ ln y_L41 g_L41 H → va_S A s.heap H locs → lv_has ls 5 [(0, .ref (a 50)), (1, .int p0), (2, .int p1), (3, .int w3), (4, .int i4)] → W p l e (headSpec wm_m_claims ({ frames := 3, cells := 0, slots := 0, locals := 140 })).room s m ([.ref (a 50), .int p0, .int p1] : List Value).toArray below meth c H locs 0 0 (MQ below (va_Qi (fun (r u : Int32) => u = r) (fun (r : Int32) (t : State) => (∃ (y' : Nat → Nat → Int32) (g' : Nat → Nat → Option Nat), ag τ [60] y y' ∧ agg τ g g' ∧ IM a u τ y' ∧ tw (dC, dI) a k τ ln y' g' t.heap)) A) ([.ref (a 50), .int p0, .int p1] : List Value).toArray s 0 0 A) (F0 m 41 ls []) := by
          intro n
          induction n with
          | zero => intro w3 i4 y_L41 g_L41 H locs ls hlt; exact absurd hlt (Nat.not_lt_zero _)
          | succ n ih_41 =>
            intro w3 i4 y_L41 g_L41 H locs ls hlt hG hI hGg hW hi41_0 hi41_1 hT hS hl
            refine lv_iload hx hb dX12_claims_41 (lv_at hl 4 rfl) ?_
            refine lv_aload_n hx hb dX12_claims_43 rfl (lv_at hl 0 rfl) ?_
            refine tw_get (D := (dC, dI)) (v := .int (y_L41 (a 50) 19)) (C := RX12) (T := TX12) (N := 58) hx hb hts (fun _ hh => (List.mem_cons_of_mem _ (List.mem_append_right _ (List.mem_append_left _ hh)))) hown hK hT (fx_50 hX) (by decide) cl_e60 rfl 19 (by decide) (hts (.fieldLink RX12 149 "TypingPoolModel" "pieces" "I") (List.mem_cons_of_mem _ (List.mem_append_left _ (List.mem_of_getElem? (i := 4) rfl)))) (fun _ h9 => h9) rfl dX12_claims_44 ?_
            have hc_17 := im_2 hI
            refine lv_icmp_ge (tgt := 167) hx hb dX12_claims_47 (by decide) (fun c_18 => ?_) (fun c_18 => ?_)
            · have nc_18 := z_le hc_17 rfl c_18
              refine lv_iload_n hx hb dX12_claims_167 rfl (lv_at hl 3 rfl) ?_
              exact W.iret (v := w3) hx hb hr (fun t ht hW9 => ⟨⟨w3, w3, rfl, rfl, ⟨y_L41, g_L41, hG, hGg, hI, tw_at ht hT⟩⟩, hS.F ht⟩) hS.2.2 dX12_claims_168
            · have nc_18 := z_nle hc_17 rfl c_18
              refine lv_aload_n hx hb dX12_claims_50 rfl (lv_at hl 0 rfl) ?_
              refine tw_get (D := (dC, dI)) (v := .ref (a 61)) (C := RX12) (T := TX12) (N := 58) hx hb hts (fun _ hh => (List.mem_cons_of_mem _ (List.mem_append_right _ (List.mem_append_left _ hh)))) hown hK hT (fx_50 hX) (by decide) cl_e60 rfl 10 (by decide) (hts (.fieldLink RX12 31 "TypingPoolModel" "department" "[I") (List.mem_cons_of_mem _ (List.mem_append_left _ (List.mem_of_getElem? (i := 5) rfl)))) (fun _ h9 => h9) rfl dX12_claims_51 ?_
              refine lv_iload hx hb dX12_claims_54 (lv_at hl 4 rfl) ?_
              refine tw_iald hx hb hK hT 0 (fx_61 hX) (by decide) cl_e71 rfl (z_in rfl (by omega) (by omega)) dX12_claims_56 ?_
              refine lv_iload_n hx hb dX12_claims_57 rfl (lv_at hl 1 rfl) ?_
              refine lv_icmp_eq (tgt := 64) hx hb dX12_claims_58 (by decide) (fun c_19 => ?_) (fun c_19 => ?_)
              · have nc_19 := z_eq rfl rfl c_19
                refine lv_iload_n hx hb dX12_claims_64 rfl (lv_at hl 2 rfl) ?_
                refine lv_iconst (v := 1) hx hb dX12_claims_65 (by decide) ?_
                refine lv_icmp_eq (tgt := 121) hx hb dX12_claims_66 (by decide) (fun c_20 => ?_) (fun c_20 => ?_)
                · have nc_20 := z_eq rfl (zk (x := 1) 1 rfl) c_20
                  obtain ⟨x_21, ex_21⟩ : ∃ y : Int32, y = w3 + Int32.ofInt 1 := ⟨_, rfl⟩
                  refine lv_iinc (v := x_21) (lv' := [(3, .int x_21), (0, .ref (a 50)), (1, .int p0), (2, .int p1), (4, .int i4)]) hx hb dX12_claims_121 hl (k := 3) rfl ex_21.symm (by decide) rfl (fun ls hl => ?_)
                  refine lv_iload_n hx hb dX12_claims_124 rfl (lv_at hl 3 rfl) ?_
                  refine lv_iconst (v := 4) hx hb dX12_claims_125 (by decide) ?_
                  refine lv_icmp_ne (tgt := 161) hx hb dX12_claims_126 (by decide) (fun c_22 => ?_) (fun c_22 => ?_)
                  · have nc_22 := z_ne rfl (zk (x := 4) 4 rfl) c_22
                    obtain ⟨x_23, ex_23⟩ : ∃ y : Int32, y = i4 + Int32.ofInt 1 := ⟨_, rfl⟩
                    have hx_23 := z_add ex_23 rfl (zk (x := Int32.ofInt 1) 1 rfl) (by omega) (by omega)
                    refine lv_iinc (v := x_23) (lv' := [(4, .int x_23), (3, .int x_21), (0, .ref (a 50)), (1, .int p0), (2, .int p1)]) hx hb dX12_claims_161 hl (k := 4) rfl ex_23.symm (by decide) rfl (fun ls hl => ?_)
                    refine lv_goto (tgt := 41) hx hb dX12_claims_164 (by decide) ?_
                    exact ih_41  x_21 x_23 y_L41 g_L41 H _ ls (by omega) hG hI hGg hW (by omega) (by omega) hT hS (lv_sub hl [2, 3, 4, 1, 0] rfl)
                  · have nc_22 := z_eq rfl (zk (x := 4) 4 rfl) c_22
                    refine lv_aload_n hx hb dX12_claims_129 rfl (lv_at hl 1 rfl) ?_
                    refine tw_get (D := (dC, dI)) (v := .ref (a 66)) (C := RX12) (T := TX12) (N := 58) hx hb hts (fun _ hh => (List.mem_cons_of_mem _ (List.mem_append_right _ (List.mem_append_left _ hh)))) hown hK hT (fx_50 hX) (by decide) cl_e60 rfl 15 (by decide) (hts (.fieldLink RX12 46 "TypingPoolModel" "comes" "[I") (List.mem_cons_of_mem _ (List.mem_append_left _ (List.mem_of_getElem? (i := 6) rfl)))) (fun _ h9 => h9) rfl dX12_claims_130 ?_
                    refine lv_iload hx hb dX12_claims_133 (lv_at hl 4 rfl) ?_
                    refine tw_iald hx hb hK hT 0 (fx_66 hX) (by decide) cl_e76 rfl (z_in rfl (by omega) (by omega)) dX12_claims_135 ?_
                    refine lv_sipush (v := 480) hx hb dX12_claims_136 (by decide) ?_
                    refine lv_idiv hx hb dX12_claims_139 (by decide) ?_
                    refine lv_topi (fun x_24 ex_24 => ?_)
                    refine lv_aload_n hx hb dX12_claims_140 rfl (lv_at hl 1 rfl) ?_
                    have hFc := tw_free hF hS hA
                    refine va_calli (va_runV (As := []) (rest := [.int x_24]) ⟨hx, hb, hml, hown, hts⟩ (m_now l dC dI ad av H.size a k τ ln y_L41 g_L41 u  hI hW) (cwV 0 hts (gi_4 (List.mem_cons_of_mem _ (List.mem_append_left _ (List.mem_of_getElem? (i := 7) rfl))) (List.mem_cons_of_mem _ (List.mem_append_left _ (List.mem_of_getElem? (i := 8) rfl))) (List.mem_cons_of_mem _ (List.mem_append_left _ (List.mem_of_getElem? (i := 9) rfl))) (List.mem_cons_of_mem _ (List.mem_append_left _ (List.mem_of_getElem? (i := 3) rfl))) (fun _ hh => (List.mem_cons_of_mem _ (List.mem_append_right _ (List.mem_append_right _ (List.mem_append_right _ (List.mem_append_left _ hh)))))) gd_m_now) rfl rfl rfl (by decide +kernel) ⟨Nat.le_of_ble_eq_true rfl, Nat.le_of_ble_eq_true rfl⟩) ⟨pw_blind, tw_recv hK hT (fx_50 hX) (by decide) cl_e60 rfl, pw_use hT hK hFc hS hM⟩ rfl rfl hl.1 rfl (lv_room (Nat.le_of_ble_eq_true rfl)) dX12_claims_141 ⟨Nat.le_of_ble_eq_true rfl, Nat.le_of_ble_eq_true rfl⟩) hS (fun q _ h => hFc q h) hFc (fun r0 r_25 t H locs ht hvm hw hB hz1 hk1 hS => ?_)
                    refine W.widen (k := 0) (n := 0) (Nat.le_of_ble_eq_true rfl) (Nat.le_of_ble_eq_true rfl) ?_
                    clear hvm hz1 hk1
                    subst hw
                    obtain ⟨hf_26, hT⟩ := hB
                    rw [ht] at hT
                    refine lv_sipush (v := 480) hx hb dX12_claims_144 (by decide) ?_
                    refine lv_idiv hx hb dX12_claims_147 (by decide) ?_
                    refine lv_topi (fun x_27 ex_27 => ?_)
                    refine lv_icmp_ne (tgt := 161) hx hb dX12_claims_148 (by decide) (fun c_28 => ?_) (fun c_28 => ?_)
                    · have nc_28 := z_ne rfl rfl c_28
                      obtain ⟨x_29, ex_29⟩ : ∃ y : Int32, y = i4 + Int32.ofInt 1 := ⟨_, rfl⟩
                      have hx_29 := z_add ex_29 rfl (zk (x := Int32.ofInt 1) 1 rfl) (by omega) (by omega)
                      refine lv_iinc (v := x_29) (lv' := [(4, .int x_29), (3, .int x_21), (0, .ref (a 50)), (1, .int p0), (2, .int p1)]) hx hb dX12_claims_161 hl (k := 4) rfl ex_29.symm (by decide) rfl (fun ls hl => ?_)
                      refine lv_goto (tgt := 41) hx hb dX12_claims_164 (by decide) ?_
                      exact ih_41  x_21 x_29 y_L41 g_L41 H _ ls (by omega) hG hI hGg hW (by omega) (by omega) hT hS (lv_sub hl [2, 3, 4, 1, 0] rfl)
                    · have nc_28 := z_eq rfl rfl c_28
                      refine lv_iload_n hx hb dX12_claims_151 rfl (lv_at hl 0 rfl) ?_
                      refine lv_aload_n hx hb dX12_claims_152 rfl (lv_at hl 1 rfl) ?_
                      refine tw_get (D := (dC, dI)) (v := .ref (a 63)) (C := RX12) (T := TX12) (N := 58) hx hb hts (fun _ hh => (List.mem_cons_of_mem _ (List.mem_append_right _ (List.mem_append_left _ hh)))) hown hK hT (fx_50 hX) (by decide) cl_e60 rfl 12 (by decide) (hts (.fieldLink RX12 37 "TypingPoolModel" "lines" "[I") (List.mem_cons_of_mem _ (List.mem_append_left _ (List.mem_of_getElem? (i := 10) rfl)))) (fun _ h9 => h9) rfl dX12_claims_153 ?_
                      refine lv_iload hx hb dX12_claims_156 (lv_at hl 4 rfl) ?_
                      refine tw_iald hx hb hK hT 0 (fx_63 hX) (by decide) cl_e73 rfl (z_in rfl (by omega) (by omega)) dX12_claims_158 ?_
                      have hv_30 := vb_at (im_a63 hI) (x := i4) rfl (by omega) (by omega)
                      refine lv_iadd hx hb dX12_claims_159 ?_
                      refine lv_topi (fun x_31 ex_31 => ?_)
                      refine lv_istore_n (lv' := [(3, .int x_31), (0, .ref (a 50)), (1, .int p0), (2, .int p1), (4, .int i4)]) hx hb dX12_claims_160 rfl hl (by decide) rfl (fun ls hl => ?_)
                      obtain ⟨x_32, ex_32⟩ : ∃ y : Int32, y = i4 + Int32.ofInt 1 := ⟨_, rfl⟩
                      have hx_32 := z_add ex_32 rfl (zk (x := Int32.ofInt 1) 1 rfl) (by omega) (by omega)
                      refine lv_iinc (v := x_32) (lv' := [(4, .int x_32), (3, .int x_31), (0, .ref (a 50)), (1, .int p0), (2, .int p1)]) hx hb dX12_claims_161 hl (k := 4) rfl ex_32.symm (by decide) rfl (fun ls hl => ?_)
                      refine lv_goto (tgt := 41) hx hb dX12_claims_164 (by decide) ?_
                      exact ih_41  x_31 x_32 y_L41 g_L41 H _ ls (by omega) hG hI hGg hW (by omega) (by omega) hT hS (lv_sub hl [2, 3, 4, 1, 0] rfl)
                · have nc_20 := z_ne rfl (zk (x := 1) 1 rfl) c_20
                  refine lv_iload_n hx hb dX12_claims_69 rfl (lv_at hl 2 rfl) ?_
                  refine lv_iconst (v := 2) hx hb dX12_claims_70 (by decide) ?_
                  refine lv_icmp_ne (tgt := 83) hx hb dX12_claims_71 (by decide) (fun c_33 => ?_) (fun c_33 => ?_)
                  · have nc_33 := z_ne rfl (zk (x := 2) 2 rfl) c_33
                    refine lv_iload_n hx hb dX12_claims_83 rfl (lv_at hl 2 rfl) ?_
                    refine lv_iconst (v := 3) hx hb dX12_claims_84 (by decide) ?_
                    refine lv_icmp_ne (tgt := 124) hx hb dX12_claims_85 (by decide) (fun c_34 => ?_) (fun c_34 => ?_)
                    · have nc_34 := z_ne rfl (zk (x := 3) 3 rfl) c_34
                      refine lv_iload_n hx hb dX12_claims_124 rfl (lv_at hl 2 rfl) ?_
                      refine lv_iconst (v := 4) hx hb dX12_claims_125 (by decide) ?_
                      refine lv_icmp_ne (tgt := 161) hx hb dX12_claims_126 (by decide) (fun c_35 => ?_) (fun c_35 => ?_)
                      · have nc_35 := z_ne rfl (zk (x := 4) 4 rfl) c_35
                        obtain ⟨x_36, ex_36⟩ : ∃ y : Int32, y = i4 + Int32.ofInt 1 := ⟨_, rfl⟩
                        have hx_36 := z_add ex_36 rfl (zk (x := Int32.ofInt 1) 1 rfl) (by omega) (by omega)
                        refine lv_iinc (v := x_36) (lv' := [(4, .int x_36), (0, .ref (a 50)), (1, .int p0), (2, .int p1), (3, .int w3)]) hx hb dX12_claims_161 hl (k := 4) rfl ex_36.symm (by decide) rfl (fun ls hl => ?_)
                        refine lv_goto (tgt := 41) hx hb dX12_claims_164 (by decide) ?_
                        exact ih_41  w3 x_36 y_L41 g_L41 H _ ls (by omega) hG hI hGg hW (by omega) (by omega) hT hS (lv_sub hl [1, 2, 3, 4, 0] rfl)
                      · have nc_35 := z_eq rfl (zk (x := 4) 4 rfl) c_35
                        refine lv_aload_n hx hb dX12_claims_129 rfl (lv_at hl 0 rfl) ?_
                        refine tw_get (D := (dC, dI)) (v := .ref (a 66)) (C := RX12) (T := TX12) (N := 58) hx hb hts (fun _ hh => (List.mem_cons_of_mem _ (List.mem_append_right _ (List.mem_append_left _ hh)))) hown hK hT (fx_50 hX) (by decide) cl_e60 rfl 15 (by decide) (hts (.fieldLink RX12 46 "TypingPoolModel" "comes" "[I") (List.mem_cons_of_mem _ (List.mem_append_left _ (List.mem_of_getElem? (i := 6) rfl)))) (fun _ h9 => h9) rfl dX12_claims_130 ?_
                        refine lv_iload hx hb dX12_claims_133 (lv_at hl 4 rfl) ?_
                        refine tw_iald hx hb hK hT 0 (fx_66 hX) (by decide) cl_e76 rfl (z_in rfl (by omega) (by omega)) dX12_claims_135 ?_
                        refine lv_sipush (v := 480) hx hb dX12_claims_136 (by decide) ?_
                        refine lv_idiv hx hb dX12_claims_139 (by decide) ?_
                        refine lv_topi (fun x_37 ex_37 => ?_)
                        refine lv_aload_n hx hb dX12_claims_140 rfl (lv_at hl 0 rfl) ?_
                        have hFc := tw_free hF hS hA
                        refine va_calli (va_runV (As := []) (rest := [.int x_37]) ⟨hx, hb, hml, hown, hts⟩ (m_now l dC dI ad av H.size a k τ ln y_L41 g_L41 u  hI hW) (cwV 0 hts (gi_4 (List.mem_cons_of_mem _ (List.mem_append_left _ (List.mem_of_getElem? (i := 7) rfl))) (List.mem_cons_of_mem _ (List.mem_append_left _ (List.mem_of_getElem? (i := 8) rfl))) (List.mem_cons_of_mem _ (List.mem_append_left _ (List.mem_of_getElem? (i := 9) rfl))) (List.mem_cons_of_mem _ (List.mem_append_left _ (List.mem_of_getElem? (i := 3) rfl))) (fun _ hh => (List.mem_cons_of_mem _ (List.mem_append_right _ (List.mem_append_right _ (List.mem_append_right _ (List.mem_append_left _ hh)))))) gd_m_now) rfl rfl rfl (by decide +kernel) ⟨Nat.le_of_ble_eq_true rfl, Nat.le_of_ble_eq_true rfl⟩) ⟨pw_blind, tw_recv hK hT (fx_50 hX) (by decide) cl_e60 rfl, pw_use hT hK hFc hS hM⟩ rfl rfl hl.1 rfl (lv_room (Nat.le_of_ble_eq_true rfl)) dX12_claims_141 ⟨Nat.le_of_ble_eq_true rfl, Nat.le_of_ble_eq_true rfl⟩) hS (fun q _ h => hFc q h) hFc (fun r0 r_38 t H locs ht hvm hw hB hz1 hk1 hS => ?_)
                        refine W.widen (k := 0) (n := 0) (Nat.le_of_ble_eq_true rfl) (Nat.le_of_ble_eq_true rfl) ?_
                        clear hvm hz1 hk1
                        subst hw
                        obtain ⟨hf_39, hT⟩ := hB
                        rw [ht] at hT
                        refine lv_sipush (v := 480) hx hb dX12_claims_144 (by decide) ?_
                        refine lv_idiv hx hb dX12_claims_147 (by decide) ?_
                        refine lv_topi (fun x_40 ex_40 => ?_)
                        refine lv_icmp_ne (tgt := 161) hx hb dX12_claims_148 (by decide) (fun c_41 => ?_) (fun c_41 => ?_)
                        · have nc_41 := z_ne rfl rfl c_41
                          obtain ⟨x_42, ex_42⟩ : ∃ y : Int32, y = i4 + Int32.ofInt 1 := ⟨_, rfl⟩
                          have hx_42 := z_add ex_42 rfl (zk (x := Int32.ofInt 1) 1 rfl) (by omega) (by omega)
                          refine lv_iinc (v := x_42) (lv' := [(4, .int x_42), (0, .ref (a 50)), (1, .int p0), (2, .int p1), (3, .int w3)]) hx hb dX12_claims_161 hl (k := 4) rfl ex_42.symm (by decide) rfl (fun ls hl => ?_)
                          refine lv_goto (tgt := 41) hx hb dX12_claims_164 (by decide) ?_
                          exact ih_41  w3 x_42 y_L41 g_L41 H _ ls (by omega) hG hI hGg hW (by omega) (by omega) hT hS (lv_sub hl [1, 2, 3, 4, 0] rfl)
                        · have nc_41 := z_eq rfl rfl c_41
                          refine lv_iload_n hx hb dX12_claims_151 rfl (lv_at hl 3 rfl) ?_
                          refine lv_aload_n hx hb dX12_claims_152 rfl (lv_at hl 0 rfl) ?_
                          refine tw_get (D := (dC, dI)) (v := .ref (a 63)) (C := RX12) (T := TX12) (N := 58) hx hb hts (fun _ hh => (List.mem_cons_of_mem _ (List.mem_append_right _ (List.mem_append_left _ hh)))) hown hK hT (fx_50 hX) (by decide) cl_e60 rfl 12 (by decide) (hts (.fieldLink RX12 37 "TypingPoolModel" "lines" "[I") (List.mem_cons_of_mem _ (List.mem_append_left _ (List.mem_of_getElem? (i := 10) rfl)))) (fun _ h9 => h9) rfl dX12_claims_153 ?_
                          refine lv_iload hx hb dX12_claims_156 (lv_at hl 4 rfl) ?_
                          refine tw_iald hx hb hK hT 0 (fx_63 hX) (by decide) cl_e73 rfl (z_in rfl (by omega) (by omega)) dX12_claims_158 ?_
                          have hv_43 := vb_at (im_a63 hI) (x := i4) rfl (by omega) (by omega)
                          refine lv_iadd hx hb dX12_claims_159 ?_
                          refine lv_topi (fun x_44 ex_44 => ?_)
                          refine lv_istore_n (lv' := [(3, .int x_44), (0, .ref (a 50)), (1, .int p0), (2, .int p1), (4, .int i4)]) hx hb dX12_claims_160 rfl hl (by decide) rfl (fun ls hl => ?_)
                          obtain ⟨x_45, ex_45⟩ : ∃ y : Int32, y = i4 + Int32.ofInt 1 := ⟨_, rfl⟩
                          have hx_45 := z_add ex_45 rfl (zk (x := Int32.ofInt 1) 1 rfl) (by omega) (by omega)
                          refine lv_iinc (v := x_45) (lv' := [(4, .int x_45), (3, .int x_44), (0, .ref (a 50)), (1, .int p0), (2, .int p1)]) hx hb dX12_claims_161 hl (k := 4) rfl ex_45.symm (by decide) rfl (fun ls hl => ?_)
                          refine lv_goto (tgt := 41) hx hb dX12_claims_164 (by decide) ?_
                          exact ih_41  x_44 x_45 y_L41 g_L41 H _ ls (by omega) hG hI hGg hW (by omega) (by omega) hT hS (lv_sub hl [2, 3, 4, 1, 0] rfl)
                    · have nc_34 := z_eq rfl (zk (x := 3) 3 rfl) c_34
                      refine lv_aload_n hx hb dX12_claims_88 rfl (lv_at hl 0 rfl) ?_
                      refine tw_get (D := (dC, dI)) (v := .ref (a 65)) (C := RX12) (T := TX12) (N := 58) hx hb hts (fun _ hh => (List.mem_cons_of_mem _ (List.mem_append_right _ (List.mem_append_left _ hh)))) hown hK hT (fx_50 hX) (by decide) cl_e60 rfl 14 (by decide) (hts (.fieldLink RX12 43 "TypingPoolModel" "claim" "[I") (List.mem_cons_of_mem _ (List.mem_append_left _ (List.mem_of_getElem? (i := 11) rfl)))) (fun _ h9 => h9) rfl dX12_claims_89 ?_
                      refine lv_iload hx hb dX12_claims_92 (lv_at hl 4 rfl) ?_
                      refine tw_iald hx hb hK hT 0 (fx_65 hX) (by decide) cl_e75 rfl (z_in rfl (by omega) (by omega)) dX12_claims_94 ?_
                      refine lv_bipush (v := 7) hx hb dX12_claims_95 (by decide) ?_
                      refine lv_icmp_lt (tgt := 124) hx hb dX12_claims_97 (by decide) (fun c_46 => ?_) (fun c_46 => ?_)
                      · have nc_46 := z_lt rfl (zk (x := 7) 7 rfl) c_46
                        refine lv_iload_n hx hb dX12_claims_124 rfl (lv_at hl 2 rfl) ?_
                        refine lv_iconst (v := 4) hx hb dX12_claims_125 (by decide) ?_
                        refine lv_icmp_ne (tgt := 161) hx hb dX12_claims_126 (by decide) (fun c_47 => ?_) (fun c_47 => ?_)
                        · have nc_47 := z_ne rfl (zk (x := 4) 4 rfl) c_47
                          obtain ⟨x_48, ex_48⟩ : ∃ y : Int32, y = i4 + Int32.ofInt 1 := ⟨_, rfl⟩
                          have hx_48 := z_add ex_48 rfl (zk (x := Int32.ofInt 1) 1 rfl) (by omega) (by omega)
                          refine lv_iinc (v := x_48) (lv' := [(4, .int x_48), (0, .ref (a 50)), (1, .int p0), (2, .int p1), (3, .int w3)]) hx hb dX12_claims_161 hl (k := 4) rfl ex_48.symm (by decide) rfl (fun ls hl => ?_)
                          refine lv_goto (tgt := 41) hx hb dX12_claims_164 (by decide) ?_
                          exact ih_41  w3 x_48 y_L41 g_L41 H _ ls (by omega) hG hI hGg hW (by omega) (by omega) hT hS (lv_sub hl [1, 2, 3, 4, 0] rfl)
                        · have nc_47 := z_eq rfl (zk (x := 4) 4 rfl) c_47
                          refine lv_aload_n hx hb dX12_claims_129 rfl (lv_at hl 0 rfl) ?_
                          refine tw_get (D := (dC, dI)) (v := .ref (a 66)) (C := RX12) (T := TX12) (N := 58) hx hb hts (fun _ hh => (List.mem_cons_of_mem _ (List.mem_append_right _ (List.mem_append_left _ hh)))) hown hK hT (fx_50 hX) (by decide) cl_e60 rfl 15 (by decide) (hts (.fieldLink RX12 46 "TypingPoolModel" "comes" "[I") (List.mem_cons_of_mem _ (List.mem_append_left _ (List.mem_of_getElem? (i := 6) rfl)))) (fun _ h9 => h9) rfl dX12_claims_130 ?_
                          refine lv_iload hx hb dX12_claims_133 (lv_at hl 4 rfl) ?_
                          refine tw_iald hx hb hK hT 0 (fx_66 hX) (by decide) cl_e76 rfl (z_in rfl (by omega) (by omega)) dX12_claims_135 ?_
                          refine lv_sipush (v := 480) hx hb dX12_claims_136 (by decide) ?_
                          refine lv_idiv hx hb dX12_claims_139 (by decide) ?_
                          refine lv_topi (fun x_49 ex_49 => ?_)
                          refine lv_aload_n hx hb dX12_claims_140 rfl (lv_at hl 0 rfl) ?_
                          have hFc := tw_free hF hS hA
                          refine va_calli (va_runV (As := []) (rest := [.int x_49]) ⟨hx, hb, hml, hown, hts⟩ (m_now l dC dI ad av H.size a k τ ln y_L41 g_L41 u  hI hW) (cwV 0 hts (gi_4 (List.mem_cons_of_mem _ (List.mem_append_left _ (List.mem_of_getElem? (i := 7) rfl))) (List.mem_cons_of_mem _ (List.mem_append_left _ (List.mem_of_getElem? (i := 8) rfl))) (List.mem_cons_of_mem _ (List.mem_append_left _ (List.mem_of_getElem? (i := 9) rfl))) (List.mem_cons_of_mem _ (List.mem_append_left _ (List.mem_of_getElem? (i := 3) rfl))) (fun _ hh => (List.mem_cons_of_mem _ (List.mem_append_right _ (List.mem_append_right _ (List.mem_append_right _ (List.mem_append_left _ hh)))))) gd_m_now) rfl rfl rfl (by decide +kernel) ⟨Nat.le_of_ble_eq_true rfl, Nat.le_of_ble_eq_true rfl⟩) ⟨pw_blind, tw_recv hK hT (fx_50 hX) (by decide) cl_e60 rfl, pw_use hT hK hFc hS hM⟩ rfl rfl hl.1 rfl (lv_room (Nat.le_of_ble_eq_true rfl)) dX12_claims_141 ⟨Nat.le_of_ble_eq_true rfl, Nat.le_of_ble_eq_true rfl⟩) hS (fun q _ h => hFc q h) hFc (fun r0 r_50 t H locs ht hvm hw hB hz1 hk1 hS => ?_)
                          refine W.widen (k := 0) (n := 0) (Nat.le_of_ble_eq_true rfl) (Nat.le_of_ble_eq_true rfl) ?_
                          clear hvm hz1 hk1
                          subst hw
                          obtain ⟨hf_51, hT⟩ := hB
                          rw [ht] at hT
                          refine lv_sipush (v := 480) hx hb dX12_claims_144 (by decide) ?_
                          refine lv_idiv hx hb dX12_claims_147 (by decide) ?_
                          refine lv_topi (fun x_52 ex_52 => ?_)
                          refine lv_icmp_ne (tgt := 161) hx hb dX12_claims_148 (by decide) (fun c_53 => ?_) (fun c_53 => ?_)
                          · have nc_53 := z_ne rfl rfl c_53
                            obtain ⟨x_54, ex_54⟩ : ∃ y : Int32, y = i4 + Int32.ofInt 1 := ⟨_, rfl⟩
                            have hx_54 := z_add ex_54 rfl (zk (x := Int32.ofInt 1) 1 rfl) (by omega) (by omega)
                            refine lv_iinc (v := x_54) (lv' := [(4, .int x_54), (0, .ref (a 50)), (1, .int p0), (2, .int p1), (3, .int w3)]) hx hb dX12_claims_161 hl (k := 4) rfl ex_54.symm (by decide) rfl (fun ls hl => ?_)
                            refine lv_goto (tgt := 41) hx hb dX12_claims_164 (by decide) ?_
                            exact ih_41  w3 x_54 y_L41 g_L41 H _ ls (by omega) hG hI hGg hW (by omega) (by omega) hT hS (lv_sub hl [1, 2, 3, 4, 0] rfl)
                          · have nc_53 := z_eq rfl rfl c_53
                            refine lv_iload_n hx hb dX12_claims_151 rfl (lv_at hl 3 rfl) ?_
                            refine lv_aload_n hx hb dX12_claims_152 rfl (lv_at hl 0 rfl) ?_
                            refine tw_get (D := (dC, dI)) (v := .ref (a 63)) (C := RX12) (T := TX12) (N := 58) hx hb hts (fun _ hh => (List.mem_cons_of_mem _ (List.mem_append_right _ (List.mem_append_left _ hh)))) hown hK hT (fx_50 hX) (by decide) cl_e60 rfl 12 (by decide) (hts (.fieldLink RX12 37 "TypingPoolModel" "lines" "[I") (List.mem_cons_of_mem _ (List.mem_append_left _ (List.mem_of_getElem? (i := 10) rfl)))) (fun _ h9 => h9) rfl dX12_claims_153 ?_
                            refine lv_iload hx hb dX12_claims_156 (lv_at hl 4 rfl) ?_
                            refine tw_iald hx hb hK hT 0 (fx_63 hX) (by decide) cl_e73 rfl (z_in rfl (by omega) (by omega)) dX12_claims_158 ?_
                            have hv_55 := vb_at (im_a63 hI) (x := i4) rfl (by omega) (by omega)
                            refine lv_iadd hx hb dX12_claims_159 ?_
                            refine lv_topi (fun x_56 ex_56 => ?_)
                            refine lv_istore_n (lv' := [(3, .int x_56), (0, .ref (a 50)), (1, .int p0), (2, .int p1), (4, .int i4)]) hx hb dX12_claims_160 rfl hl (by decide) rfl (fun ls hl => ?_)
                            obtain ⟨x_57, ex_57⟩ : ∃ y : Int32, y = i4 + Int32.ofInt 1 := ⟨_, rfl⟩
                            have hx_57 := z_add ex_57 rfl (zk (x := Int32.ofInt 1) 1 rfl) (by omega) (by omega)
                            refine lv_iinc (v := x_57) (lv' := [(4, .int x_57), (3, .int x_56), (0, .ref (a 50)), (1, .int p0), (2, .int p1)]) hx hb dX12_claims_161 hl (k := 4) rfl ex_57.symm (by decide) rfl (fun ls hl => ?_)
                            refine lv_goto (tgt := 41) hx hb dX12_claims_164 (by decide) ?_
                            exact ih_41  x_56 x_57 y_L41 g_L41 H _ ls (by omega) hG hI hGg hW (by omega) (by omega) hT hS (lv_sub hl [2, 3, 4, 1, 0] rfl)
                      · have nc_46 := z_nlt rfl (zk (x := 7) 7 rfl) c_46
                        refine lv_aload_n hx hb dX12_claims_100 rfl (lv_at hl 0 rfl) ?_
                        refine tw_get (D := (dC, dI)) (v := .ref (a 67)) (C := RX12) (T := TX12) (N := 58) hx hb hts (fun _ hh => (List.mem_cons_of_mem _ (List.mem_append_right _ (List.mem_append_left _ hh)))) hown hK hT (fx_50 hX) (by decide) cl_e60 rfl 16 (by decide) (hts (.fieldLink RX12 49 "TypingPoolModel" "due" "[I") (List.mem_cons_of_mem _ (List.mem_append_left _ (List.mem_of_getElem? (i := 12) rfl)))) (fun _ h9 => h9) rfl dX12_claims_101 ?_
                        refine lv_iload hx hb dX12_claims_104 (lv_at hl 4 rfl) ?_
                        refine tw_iald hx hb hK hT 0 (fx_67 hX) (by decide) cl_e77 rfl (z_in rfl (by omega) (by omega)) dX12_claims_106 ?_
                        refine lv_aload_n hx hb dX12_claims_107 rfl (lv_at hl 0 rfl) ?_
                        refine tw_get (D := (dC, dI)) (v := .ref (a 66)) (C := RX12) (T := TX12) (N := 58) hx hb hts (fun _ hh => (List.mem_cons_of_mem _ (List.mem_append_right _ (List.mem_append_left _ hh)))) hown hK hT (fx_50 hX) (by decide) cl_e60 rfl 15 (by decide) (hts (.fieldLink RX12 46 "TypingPoolModel" "comes" "[I") (List.mem_cons_of_mem _ (List.mem_append_left _ (List.mem_of_getElem? (i := 6) rfl)))) (fun _ h9 => h9) rfl dX12_claims_108 ?_
                        refine lv_iload hx hb dX12_claims_111 (lv_at hl 4 rfl) ?_
                        refine tw_iald hx hb hK hT 0 (fx_66 hX) (by decide) cl_e76 rfl (z_in rfl (by omega) (by omega)) dX12_claims_113 ?_
                        refine lv_isub hx hb dX12_claims_114 ?_
                        refine lv_topi (fun x_58 ex_58 => ?_)
                        refine lv_sipush (v := 480) hx hb dX12_claims_115 (by decide) ?_
                        refine lv_icmp_lt (tgt := 124) hx hb dX12_claims_118 (by decide) (fun c_59 => ?_) (fun c_59 => ?_)
                        · have nc_59 := z_lt rfl (zk (x := 480) 480 rfl) c_59
                          refine lv_iload_n hx hb dX12_claims_124 rfl (lv_at hl 2 rfl) ?_
                          refine lv_iconst (v := 4) hx hb dX12_claims_125 (by decide) ?_
                          refine lv_icmp_ne (tgt := 161) hx hb dX12_claims_126 (by decide) (fun c_60 => ?_) (fun c_60 => ?_)
                          · have nc_60 := z_ne rfl (zk (x := 4) 4 rfl) c_60
                            obtain ⟨x_61, ex_61⟩ : ∃ y : Int32, y = i4 + Int32.ofInt 1 := ⟨_, rfl⟩
                            have hx_61 := z_add ex_61 rfl (zk (x := Int32.ofInt 1) 1 rfl) (by omega) (by omega)
                            refine lv_iinc (v := x_61) (lv' := [(4, .int x_61), (0, .ref (a 50)), (1, .int p0), (2, .int p1), (3, .int w3)]) hx hb dX12_claims_161 hl (k := 4) rfl ex_61.symm (by decide) rfl (fun ls hl => ?_)
                            refine lv_goto (tgt := 41) hx hb dX12_claims_164 (by decide) ?_
                            exact ih_41  w3 x_61 y_L41 g_L41 H _ ls (by omega) hG hI hGg hW (by omega) (by omega) hT hS (lv_sub hl [1, 2, 3, 4, 0] rfl)
                          · have nc_60 := z_eq rfl (zk (x := 4) 4 rfl) c_60
                            refine lv_aload_n hx hb dX12_claims_129 rfl (lv_at hl 0 rfl) ?_
                            refine tw_get (D := (dC, dI)) (v := .ref (a 66)) (C := RX12) (T := TX12) (N := 58) hx hb hts (fun _ hh => (List.mem_cons_of_mem _ (List.mem_append_right _ (List.mem_append_left _ hh)))) hown hK hT (fx_50 hX) (by decide) cl_e60 rfl 15 (by decide) (hts (.fieldLink RX12 46 "TypingPoolModel" "comes" "[I") (List.mem_cons_of_mem _ (List.mem_append_left _ (List.mem_of_getElem? (i := 6) rfl)))) (fun _ h9 => h9) rfl dX12_claims_130 ?_
                            refine lv_iload hx hb dX12_claims_133 (lv_at hl 4 rfl) ?_
                            refine tw_iald hx hb hK hT 0 (fx_66 hX) (by decide) cl_e76 rfl (z_in rfl (by omega) (by omega)) dX12_claims_135 ?_
                            refine lv_sipush (v := 480) hx hb dX12_claims_136 (by decide) ?_
                            refine lv_idiv hx hb dX12_claims_139 (by decide) ?_
                            refine lv_topi (fun x_62 ex_62 => ?_)
                            refine lv_aload_n hx hb dX12_claims_140 rfl (lv_at hl 0 rfl) ?_
                            have hFc := tw_free hF hS hA
                            refine va_calli (va_runV (As := []) (rest := [.int x_62]) ⟨hx, hb, hml, hown, hts⟩ (m_now l dC dI ad av H.size a k τ ln y_L41 g_L41 u  hI hW) (cwV 0 hts (gi_4 (List.mem_cons_of_mem _ (List.mem_append_left _ (List.mem_of_getElem? (i := 7) rfl))) (List.mem_cons_of_mem _ (List.mem_append_left _ (List.mem_of_getElem? (i := 8) rfl))) (List.mem_cons_of_mem _ (List.mem_append_left _ (List.mem_of_getElem? (i := 9) rfl))) (List.mem_cons_of_mem _ (List.mem_append_left _ (List.mem_of_getElem? (i := 3) rfl))) (fun _ hh => (List.mem_cons_of_mem _ (List.mem_append_right _ (List.mem_append_right _ (List.mem_append_right _ (List.mem_append_left _ hh)))))) gd_m_now) rfl rfl rfl (by decide +kernel) ⟨Nat.le_of_ble_eq_true rfl, Nat.le_of_ble_eq_true rfl⟩) ⟨pw_blind, tw_recv hK hT (fx_50 hX) (by decide) cl_e60 rfl, pw_use hT hK hFc hS hM⟩ rfl rfl hl.1 rfl (lv_room (Nat.le_of_ble_eq_true rfl)) dX12_claims_141 ⟨Nat.le_of_ble_eq_true rfl, Nat.le_of_ble_eq_true rfl⟩) hS (fun q _ h => hFc q h) hFc (fun r0 r_63 t H locs ht hvm hw hB hz1 hk1 hS => ?_)
                            refine W.widen (k := 0) (n := 0) (Nat.le_of_ble_eq_true rfl) (Nat.le_of_ble_eq_true rfl) ?_
                            clear hvm hz1 hk1
                            subst hw
                            obtain ⟨hf_64, hT⟩ := hB
                            rw [ht] at hT
                            refine lv_sipush (v := 480) hx hb dX12_claims_144 (by decide) ?_
                            refine lv_idiv hx hb dX12_claims_147 (by decide) ?_
                            refine lv_topi (fun x_65 ex_65 => ?_)
                            refine lv_icmp_ne (tgt := 161) hx hb dX12_claims_148 (by decide) (fun c_66 => ?_) (fun c_66 => ?_)
                            · have nc_66 := z_ne rfl rfl c_66
                              obtain ⟨x_67, ex_67⟩ : ∃ y : Int32, y = i4 + Int32.ofInt 1 := ⟨_, rfl⟩
                              have hx_67 := z_add ex_67 rfl (zk (x := Int32.ofInt 1) 1 rfl) (by omega) (by omega)
                              refine lv_iinc (v := x_67) (lv' := [(4, .int x_67), (0, .ref (a 50)), (1, .int p0), (2, .int p1), (3, .int w3)]) hx hb dX12_claims_161 hl (k := 4) rfl ex_67.symm (by decide) rfl (fun ls hl => ?_)
                              refine lv_goto (tgt := 41) hx hb dX12_claims_164 (by decide) ?_
                              exact ih_41  w3 x_67 y_L41 g_L41 H _ ls (by omega) hG hI hGg hW (by omega) (by omega) hT hS (lv_sub hl [1, 2, 3, 4, 0] rfl)
                            · have nc_66 := z_eq rfl rfl c_66
                              refine lv_iload_n hx hb dX12_claims_151 rfl (lv_at hl 3 rfl) ?_
                              refine lv_aload_n hx hb dX12_claims_152 rfl (lv_at hl 0 rfl) ?_
                              refine tw_get (D := (dC, dI)) (v := .ref (a 63)) (C := RX12) (T := TX12) (N := 58) hx hb hts (fun _ hh => (List.mem_cons_of_mem _ (List.mem_append_right _ (List.mem_append_left _ hh)))) hown hK hT (fx_50 hX) (by decide) cl_e60 rfl 12 (by decide) (hts (.fieldLink RX12 37 "TypingPoolModel" "lines" "[I") (List.mem_cons_of_mem _ (List.mem_append_left _ (List.mem_of_getElem? (i := 10) rfl)))) (fun _ h9 => h9) rfl dX12_claims_153 ?_
                              refine lv_iload hx hb dX12_claims_156 (lv_at hl 4 rfl) ?_
                              refine tw_iald hx hb hK hT 0 (fx_63 hX) (by decide) cl_e73 rfl (z_in rfl (by omega) (by omega)) dX12_claims_158 ?_
                              have hv_68 := vb_at (im_a63 hI) (x := i4) rfl (by omega) (by omega)
                              refine lv_iadd hx hb dX12_claims_159 ?_
                              refine lv_topi (fun x_69 ex_69 => ?_)
                              refine lv_istore_n (lv' := [(3, .int x_69), (0, .ref (a 50)), (1, .int p0), (2, .int p1), (4, .int i4)]) hx hb dX12_claims_160 rfl hl (by decide) rfl (fun ls hl => ?_)
                              obtain ⟨x_70, ex_70⟩ : ∃ y : Int32, y = i4 + Int32.ofInt 1 := ⟨_, rfl⟩
                              have hx_70 := z_add ex_70 rfl (zk (x := Int32.ofInt 1) 1 rfl) (by omega) (by omega)
                              refine lv_iinc (v := x_70) (lv' := [(4, .int x_70), (3, .int x_69), (0, .ref (a 50)), (1, .int p0), (2, .int p1)]) hx hb dX12_claims_161 hl (k := 4) rfl ex_70.symm (by decide) rfl (fun ls hl => ?_)
                              refine lv_goto (tgt := 41) hx hb dX12_claims_164 (by decide) ?_
                              exact ih_41  x_69 x_70 y_L41 g_L41 H _ ls (by omega) hG hI hGg hW (by omega) (by omega) hT hS (lv_sub hl [2, 3, 4, 1, 0] rfl)
                        · have nc_59 := z_nlt rfl (zk (x := 480) 480 rfl) c_59
                          obtain ⟨x_71, ex_71⟩ : ∃ y : Int32, y = w3 + Int32.ofInt 1 := ⟨_, rfl⟩
                          refine lv_iinc (v := x_71) (lv' := [(3, .int x_71), (0, .ref (a 50)), (1, .int p0), (2, .int p1), (4, .int i4)]) hx hb dX12_claims_121 hl (k := 3) rfl ex_71.symm (by decide) rfl (fun ls hl => ?_)
                          refine lv_iload_n hx hb dX12_claims_124 rfl (lv_at hl 3 rfl) ?_
                          refine lv_iconst (v := 4) hx hb dX12_claims_125 (by decide) ?_
                          refine lv_icmp_ne (tgt := 161) hx hb dX12_claims_126 (by decide) (fun c_72 => ?_) (fun c_72 => ?_)
                          · have nc_72 := z_ne rfl (zk (x := 4) 4 rfl) c_72
                            obtain ⟨x_73, ex_73⟩ : ∃ y : Int32, y = i4 + Int32.ofInt 1 := ⟨_, rfl⟩
                            have hx_73 := z_add ex_73 rfl (zk (x := Int32.ofInt 1) 1 rfl) (by omega) (by omega)
                            refine lv_iinc (v := x_73) (lv' := [(4, .int x_73), (3, .int x_71), (0, .ref (a 50)), (1, .int p0), (2, .int p1)]) hx hb dX12_claims_161 hl (k := 4) rfl ex_73.symm (by decide) rfl (fun ls hl => ?_)
                            refine lv_goto (tgt := 41) hx hb dX12_claims_164 (by decide) ?_
                            exact ih_41  x_71 x_73 y_L41 g_L41 H _ ls (by omega) hG hI hGg hW (by omega) (by omega) hT hS (lv_sub hl [2, 3, 4, 1, 0] rfl)
                          · have nc_72 := z_eq rfl (zk (x := 4) 4 rfl) c_72
                            refine lv_aload_n hx hb dX12_claims_129 rfl (lv_at hl 1 rfl) ?_
                            refine tw_get (D := (dC, dI)) (v := .ref (a 66)) (C := RX12) (T := TX12) (N := 58) hx hb hts (fun _ hh => (List.mem_cons_of_mem _ (List.mem_append_right _ (List.mem_append_left _ hh)))) hown hK hT (fx_50 hX) (by decide) cl_e60 rfl 15 (by decide) (hts (.fieldLink RX12 46 "TypingPoolModel" "comes" "[I") (List.mem_cons_of_mem _ (List.mem_append_left _ (List.mem_of_getElem? (i := 6) rfl)))) (fun _ h9 => h9) rfl dX12_claims_130 ?_
                            refine lv_iload hx hb dX12_claims_133 (lv_at hl 4 rfl) ?_
                            refine tw_iald hx hb hK hT 0 (fx_66 hX) (by decide) cl_e76 rfl (z_in rfl (by omega) (by omega)) dX12_claims_135 ?_
                            refine lv_sipush (v := 480) hx hb dX12_claims_136 (by decide) ?_
                            refine lv_idiv hx hb dX12_claims_139 (by decide) ?_
                            refine lv_topi (fun x_74 ex_74 => ?_)
                            refine lv_aload_n hx hb dX12_claims_140 rfl (lv_at hl 1 rfl) ?_
                            have hFc := tw_free hF hS hA
                            refine va_calli (va_runV (As := []) (rest := [.int x_74]) ⟨hx, hb, hml, hown, hts⟩ (m_now l dC dI ad av H.size a k τ ln y_L41 g_L41 u  hI hW) (cwV 0 hts (gi_4 (List.mem_cons_of_mem _ (List.mem_append_left _ (List.mem_of_getElem? (i := 7) rfl))) (List.mem_cons_of_mem _ (List.mem_append_left _ (List.mem_of_getElem? (i := 8) rfl))) (List.mem_cons_of_mem _ (List.mem_append_left _ (List.mem_of_getElem? (i := 9) rfl))) (List.mem_cons_of_mem _ (List.mem_append_left _ (List.mem_of_getElem? (i := 3) rfl))) (fun _ hh => (List.mem_cons_of_mem _ (List.mem_append_right _ (List.mem_append_right _ (List.mem_append_right _ (List.mem_append_left _ hh)))))) gd_m_now) rfl rfl rfl (by decide +kernel) ⟨Nat.le_of_ble_eq_true rfl, Nat.le_of_ble_eq_true rfl⟩) ⟨pw_blind, tw_recv hK hT (fx_50 hX) (by decide) cl_e60 rfl, pw_use hT hK hFc hS hM⟩ rfl rfl hl.1 rfl (lv_room (Nat.le_of_ble_eq_true rfl)) dX12_claims_141 ⟨Nat.le_of_ble_eq_true rfl, Nat.le_of_ble_eq_true rfl⟩) hS (fun q _ h => hFc q h) hFc (fun r0 r_75 t H locs ht hvm hw hB hz1 hk1 hS => ?_)
                            refine W.widen (k := 0) (n := 0) (Nat.le_of_ble_eq_true rfl) (Nat.le_of_ble_eq_true rfl) ?_
                            clear hvm hz1 hk1
                            subst hw
                            obtain ⟨hf_76, hT⟩ := hB
                            rw [ht] at hT
                            refine lv_sipush (v := 480) hx hb dX12_claims_144 (by decide) ?_
                            refine lv_idiv hx hb dX12_claims_147 (by decide) ?_
                            refine lv_topi (fun x_77 ex_77 => ?_)
                            refine lv_icmp_ne (tgt := 161) hx hb dX12_claims_148 (by decide) (fun c_78 => ?_) (fun c_78 => ?_)
                            · have nc_78 := z_ne rfl rfl c_78
                              obtain ⟨x_79, ex_79⟩ : ∃ y : Int32, y = i4 + Int32.ofInt 1 := ⟨_, rfl⟩
                              have hx_79 := z_add ex_79 rfl (zk (x := Int32.ofInt 1) 1 rfl) (by omega) (by omega)
                              refine lv_iinc (v := x_79) (lv' := [(4, .int x_79), (3, .int x_71), (0, .ref (a 50)), (1, .int p0), (2, .int p1)]) hx hb dX12_claims_161 hl (k := 4) rfl ex_79.symm (by decide) rfl (fun ls hl => ?_)
                              refine lv_goto (tgt := 41) hx hb dX12_claims_164 (by decide) ?_
                              exact ih_41  x_71 x_79 y_L41 g_L41 H _ ls (by omega) hG hI hGg hW (by omega) (by omega) hT hS (lv_sub hl [2, 3, 4, 1, 0] rfl)
                            · have nc_78 := z_eq rfl rfl c_78
                              refine lv_iload_n hx hb dX12_claims_151 rfl (lv_at hl 0 rfl) ?_
                              refine lv_aload_n hx hb dX12_claims_152 rfl (lv_at hl 1 rfl) ?_
                              refine tw_get (D := (dC, dI)) (v := .ref (a 63)) (C := RX12) (T := TX12) (N := 58) hx hb hts (fun _ hh => (List.mem_cons_of_mem _ (List.mem_append_right _ (List.mem_append_left _ hh)))) hown hK hT (fx_50 hX) (by decide) cl_e60 rfl 12 (by decide) (hts (.fieldLink RX12 37 "TypingPoolModel" "lines" "[I") (List.mem_cons_of_mem _ (List.mem_append_left _ (List.mem_of_getElem? (i := 10) rfl)))) (fun _ h9 => h9) rfl dX12_claims_153 ?_
                              refine lv_iload hx hb dX12_claims_156 (lv_at hl 4 rfl) ?_
                              refine tw_iald hx hb hK hT 0 (fx_63 hX) (by decide) cl_e73 rfl (z_in rfl (by omega) (by omega)) dX12_claims_158 ?_
                              have hv_80 := vb_at (im_a63 hI) (x := i4) rfl (by omega) (by omega)
                              refine lv_iadd hx hb dX12_claims_159 ?_
                              refine lv_topi (fun x_81 ex_81 => ?_)
                              refine lv_istore_n (lv' := [(3, .int x_81), (0, .ref (a 50)), (1, .int p0), (2, .int p1), (4, .int i4)]) hx hb dX12_claims_160 rfl hl (by decide) rfl (fun ls hl => ?_)
                              obtain ⟨x_82, ex_82⟩ : ∃ y : Int32, y = i4 + Int32.ofInt 1 := ⟨_, rfl⟩
                              have hx_82 := z_add ex_82 rfl (zk (x := Int32.ofInt 1) 1 rfl) (by omega) (by omega)
                              refine lv_iinc (v := x_82) (lv' := [(4, .int x_82), (3, .int x_81), (0, .ref (a 50)), (1, .int p0), (2, .int p1)]) hx hb dX12_claims_161 hl (k := 4) rfl ex_82.symm (by decide) rfl (fun ls hl => ?_)
                              refine lv_goto (tgt := 41) hx hb dX12_claims_164 (by decide) ?_
                              exact ih_41  x_81 x_82 y_L41 g_L41 H _ ls (by omega) hG hI hGg hW (by omega) (by omega) hT hS (lv_sub hl [2, 3, 4, 1, 0] rfl)
                  · have nc_33 := z_eq rfl (zk (x := 2) 2 rfl) c_33
                    refine lv_aload_n hx hb dX12_claims_74 rfl (lv_at hl 0 rfl) ?_
                    refine lv_iload hx hb dX12_claims_75 (lv_at hl 4 rfl) ?_
                    have hFc := tw_free hF hS hA
                    refine va_calli (va_runV (As := [.int i4]) (rest := []) ⟨hx, hb, hml, hown, hts⟩ (m_late l dC dI ad av H.size a k τ ln y_L41 g_L41 u i4 hI (by omega) (by omega) hW) (cwV 1 hts (gi_4 (List.mem_cons_of_mem _ (List.mem_append_left _ (List.mem_of_getElem? (i := 13) rfl))) (List.mem_cons_of_mem _ (List.mem_append_left _ (List.mem_of_getElem? (i := 14) rfl))) (List.mem_cons_of_mem _ (List.mem_append_left _ (List.mem_of_getElem? (i := 15) rfl))) (List.mem_cons_of_mem _ (List.mem_append_left _ (List.mem_of_getElem? (i := 3) rfl))) (fun _ hh => (List.mem_cons_of_mem _ (List.mem_append_right _ (List.mem_append_right _ (List.mem_append_right _ (List.mem_append_right _ (List.mem_append_left _ hh))))))) gd_m_late) rfl rfl rfl (by decide +kernel) ⟨Nat.le_of_ble_eq_true rfl, Nat.le_of_ble_eq_true rfl⟩) ⟨pw_blind, tw_recv hK hT (fx_50 hX) (by decide) cl_e60 rfl, pw_use hT hK hFc hS hM⟩ rfl rfl hl.1 rfl (lv_room (Nat.le_of_ble_eq_true rfl)) dX12_claims_77 ⟨Nat.le_of_ble_eq_true rfl, Nat.le_of_ble_eq_true rfl⟩) hS (fun q _ h => hFc q h) hFc (fun r0 r_83 t H locs ht hvm hw hB hz1 hk1 hS => ?_)
                    refine W.widen (k := 0) (n := 0) (Nat.le_of_ble_eq_true rfl) (Nat.le_of_ble_eq_true rfl) ?_
                    clear hvm hz1 hk1
                    subst hw
                    have hT := hB
                    rw [ht] at hT
                    refine lv_if_gt (tgt := 121) hx hb dX12_claims_80 (by decide) (fun c_84 => ?_) (fun c_84 => ?_)
                    · have nc_84 := z_lt (zk (x := 0) 0 rfl) rfl c_84
                      obtain ⟨x_85, ex_85⟩ : ∃ y : Int32, y = w3 + Int32.ofInt 1 := ⟨_, rfl⟩
                      refine lv_iinc (v := x_85) (lv' := [(3, .int x_85), (0, .ref (a 50)), (1, .int p0), (2, .int p1), (4, .int i4)]) hx hb dX12_claims_121 hl (k := 3) rfl ex_85.symm (by decide) rfl (fun ls hl => ?_)
                      refine lv_iload_n hx hb dX12_claims_124 rfl (lv_at hl 3 rfl) ?_
                      refine lv_iconst (v := 4) hx hb dX12_claims_125 (by decide) ?_
                      refine lv_icmp_ne (tgt := 161) hx hb dX12_claims_126 (by decide) (fun c_86 => ?_) (fun c_86 => ?_)
                      · have nc_86 := z_ne rfl (zk (x := 4) 4 rfl) c_86
                        obtain ⟨x_87, ex_87⟩ : ∃ y : Int32, y = i4 + Int32.ofInt 1 := ⟨_, rfl⟩
                        have hx_87 := z_add ex_87 rfl (zk (x := Int32.ofInt 1) 1 rfl) (by omega) (by omega)
                        refine lv_iinc (v := x_87) (lv' := [(4, .int x_87), (3, .int x_85), (0, .ref (a 50)), (1, .int p0), (2, .int p1)]) hx hb dX12_claims_161 hl (k := 4) rfl ex_87.symm (by decide) rfl (fun ls hl => ?_)
                        refine lv_goto (tgt := 41) hx hb dX12_claims_164 (by decide) ?_
                        exact ih_41  x_85 x_87 y_L41 g_L41 H _ ls (by omega) hG hI hGg hW (by omega) (by omega) hT hS (lv_sub hl [2, 3, 4, 1, 0] rfl)
                      · have nc_86 := z_eq rfl (zk (x := 4) 4 rfl) c_86
                        refine lv_aload_n hx hb dX12_claims_129 rfl (lv_at hl 1 rfl) ?_
                        refine tw_get (D := (dC, dI)) (v := .ref (a 66)) (C := RX12) (T := TX12) (N := 58) hx hb hts (fun _ hh => (List.mem_cons_of_mem _ (List.mem_append_right _ (List.mem_append_left _ hh)))) hown hK hT (fx_50 hX) (by decide) cl_e60 rfl 15 (by decide) (hts (.fieldLink RX12 46 "TypingPoolModel" "comes" "[I") (List.mem_cons_of_mem _ (List.mem_append_left _ (List.mem_of_getElem? (i := 6) rfl)))) (fun _ h9 => h9) rfl dX12_claims_130 ?_
                        refine lv_iload hx hb dX12_claims_133 (lv_at hl 4 rfl) ?_
                        refine tw_iald hx hb hK hT 0 (fx_66 hX) (by decide) cl_e76 rfl (z_in rfl (by omega) (by omega)) dX12_claims_135 ?_
                        refine lv_sipush (v := 480) hx hb dX12_claims_136 (by decide) ?_
                        refine lv_idiv hx hb dX12_claims_139 (by decide) ?_
                        refine lv_topi (fun x_88 ex_88 => ?_)
                        refine lv_aload_n hx hb dX12_claims_140 rfl (lv_at hl 1 rfl) ?_
                        have hFc := tw_free hF hS hA
                        refine va_calli (va_runV (As := []) (rest := [.int x_88]) ⟨hx, hb, hml, hown, hts⟩ (m_now l dC dI ad av H.size a k τ ln y_L41 g_L41 u  hI hW) (cwV 0 hts (gi_4 (List.mem_cons_of_mem _ (List.mem_append_left _ (List.mem_of_getElem? (i := 7) rfl))) (List.mem_cons_of_mem _ (List.mem_append_left _ (List.mem_of_getElem? (i := 8) rfl))) (List.mem_cons_of_mem _ (List.mem_append_left _ (List.mem_of_getElem? (i := 9) rfl))) (List.mem_cons_of_mem _ (List.mem_append_left _ (List.mem_of_getElem? (i := 3) rfl))) (fun _ hh => (List.mem_cons_of_mem _ (List.mem_append_right _ (List.mem_append_right _ (List.mem_append_right _ (List.mem_append_left _ hh)))))) gd_m_now) rfl rfl rfl (by decide +kernel) ⟨Nat.le_of_ble_eq_true rfl, Nat.le_of_ble_eq_true rfl⟩) ⟨pw_blind, tw_recv hK hT (fx_50 hX) (by decide) cl_e60 rfl, pw_use hT hK hFc hS hM⟩ rfl rfl hl.1 rfl (lv_room (Nat.le_of_ble_eq_true rfl)) dX12_claims_141 ⟨Nat.le_of_ble_eq_true rfl, Nat.le_of_ble_eq_true rfl⟩) hS (fun q _ h => hFc q h) hFc (fun r0 r_89 t H locs ht hvm hw hB hz1 hk1 hS => ?_)
                        refine W.widen (k := 0) (n := 0) (Nat.le_of_ble_eq_true rfl) (Nat.le_of_ble_eq_true rfl) ?_
                        clear hvm hz1 hk1
                        subst hw
                        obtain ⟨hf_90, hT⟩ := hB
                        rw [ht] at hT
                        refine lv_sipush (v := 480) hx hb dX12_claims_144 (by decide) ?_
                        refine lv_idiv hx hb dX12_claims_147 (by decide) ?_
                        refine lv_topi (fun x_91 ex_91 => ?_)
                        refine lv_icmp_ne (tgt := 161) hx hb dX12_claims_148 (by decide) (fun c_92 => ?_) (fun c_92 => ?_)
                        · have nc_92 := z_ne rfl rfl c_92
                          obtain ⟨x_93, ex_93⟩ : ∃ y : Int32, y = i4 + Int32.ofInt 1 := ⟨_, rfl⟩
                          have hx_93 := z_add ex_93 rfl (zk (x := Int32.ofInt 1) 1 rfl) (by omega) (by omega)
                          refine lv_iinc (v := x_93) (lv' := [(4, .int x_93), (3, .int x_85), (0, .ref (a 50)), (1, .int p0), (2, .int p1)]) hx hb dX12_claims_161 hl (k := 4) rfl ex_93.symm (by decide) rfl (fun ls hl => ?_)
                          refine lv_goto (tgt := 41) hx hb dX12_claims_164 (by decide) ?_
                          exact ih_41  x_85 x_93 y_L41 g_L41 H _ ls (by omega) hG hI hGg hW (by omega) (by omega) hT hS (lv_sub hl [2, 3, 4, 1, 0] rfl)
                        · have nc_92 := z_eq rfl rfl c_92
                          refine lv_iload_n hx hb dX12_claims_151 rfl (lv_at hl 0 rfl) ?_
                          refine lv_aload_n hx hb dX12_claims_152 rfl (lv_at hl 1 rfl) ?_
                          refine tw_get (D := (dC, dI)) (v := .ref (a 63)) (C := RX12) (T := TX12) (N := 58) hx hb hts (fun _ hh => (List.mem_cons_of_mem _ (List.mem_append_right _ (List.mem_append_left _ hh)))) hown hK hT (fx_50 hX) (by decide) cl_e60 rfl 12 (by decide) (hts (.fieldLink RX12 37 "TypingPoolModel" "lines" "[I") (List.mem_cons_of_mem _ (List.mem_append_left _ (List.mem_of_getElem? (i := 10) rfl)))) (fun _ h9 => h9) rfl dX12_claims_153 ?_
                          refine lv_iload hx hb dX12_claims_156 (lv_at hl 4 rfl) ?_
                          refine tw_iald hx hb hK hT 0 (fx_63 hX) (by decide) cl_e73 rfl (z_in rfl (by omega) (by omega)) dX12_claims_158 ?_
                          have hv_94 := vb_at (im_a63 hI) (x := i4) rfl (by omega) (by omega)
                          refine lv_iadd hx hb dX12_claims_159 ?_
                          refine lv_topi (fun x_95 ex_95 => ?_)
                          refine lv_istore_n (lv' := [(3, .int x_95), (0, .ref (a 50)), (1, .int p0), (2, .int p1), (4, .int i4)]) hx hb dX12_claims_160 rfl hl (by decide) rfl (fun ls hl => ?_)
                          obtain ⟨x_96, ex_96⟩ : ∃ y : Int32, y = i4 + Int32.ofInt 1 := ⟨_, rfl⟩
                          have hx_96 := z_add ex_96 rfl (zk (x := Int32.ofInt 1) 1 rfl) (by omega) (by omega)
                          refine lv_iinc (v := x_96) (lv' := [(4, .int x_96), (3, .int x_95), (0, .ref (a 50)), (1, .int p0), (2, .int p1)]) hx hb dX12_claims_161 hl (k := 4) rfl ex_96.symm (by decide) rfl (fun ls hl => ?_)
                          refine lv_goto (tgt := 41) hx hb dX12_claims_164 (by decide) ?_
                          exact ih_41  x_95 x_96 y_L41 g_L41 H _ ls (by omega) hG hI hGg hW (by omega) (by omega) hT hS (lv_sub hl [2, 3, 4, 1, 0] rfl)
                    · have nc_84 := z_nlt (zk (x := 0) 0 rfl) rfl c_84
                      refine lv_iload_n hx hb dX12_claims_83 rfl (lv_at hl 2 rfl) ?_
                      refine lv_iconst (v := 3) hx hb dX12_claims_84 (by decide) ?_
                      refine lv_icmp_ne (tgt := 124) hx hb dX12_claims_85 (by decide) (fun c_97 => ?_) (fun c_97 => ?_)
                      · have nc_97 := z_ne rfl (zk (x := 3) 3 rfl) c_97
                        refine lv_iload_n hx hb dX12_claims_124 rfl (lv_at hl 2 rfl) ?_
                        refine lv_iconst (v := 4) hx hb dX12_claims_125 (by decide) ?_
                        refine lv_icmp_ne (tgt := 161) hx hb dX12_claims_126 (by decide) (fun c_98 => ?_) (fun c_98 => ?_)
                        · have nc_98 := z_ne rfl (zk (x := 4) 4 rfl) c_98
                          obtain ⟨x_99, ex_99⟩ : ∃ y : Int32, y = i4 + Int32.ofInt 1 := ⟨_, rfl⟩
                          have hx_99 := z_add ex_99 rfl (zk (x := Int32.ofInt 1) 1 rfl) (by omega) (by omega)
                          refine lv_iinc (v := x_99) (lv' := [(4, .int x_99), (0, .ref (a 50)), (1, .int p0), (2, .int p1), (3, .int w3)]) hx hb dX12_claims_161 hl (k := 4) rfl ex_99.symm (by decide) rfl (fun ls hl => ?_)
                          refine lv_goto (tgt := 41) hx hb dX12_claims_164 (by decide) ?_
                          exact ih_41  w3 x_99 y_L41 g_L41 H _ ls (by omega) hG hI hGg hW (by omega) (by omega) hT hS (lv_sub hl [1, 2, 3, 4, 0] rfl)
                        · have nc_98 := z_eq rfl (zk (x := 4) 4 rfl) c_98
                          refine lv_aload_n hx hb dX12_claims_129 rfl (lv_at hl 0 rfl) ?_
                          refine tw_get (D := (dC, dI)) (v := .ref (a 66)) (C := RX12) (T := TX12) (N := 58) hx hb hts (fun _ hh => (List.mem_cons_of_mem _ (List.mem_append_right _ (List.mem_append_left _ hh)))) hown hK hT (fx_50 hX) (by decide) cl_e60 rfl 15 (by decide) (hts (.fieldLink RX12 46 "TypingPoolModel" "comes" "[I") (List.mem_cons_of_mem _ (List.mem_append_left _ (List.mem_of_getElem? (i := 6) rfl)))) (fun _ h9 => h9) rfl dX12_claims_130 ?_
                          refine lv_iload hx hb dX12_claims_133 (lv_at hl 4 rfl) ?_
                          refine tw_iald hx hb hK hT 0 (fx_66 hX) (by decide) cl_e76 rfl (z_in rfl (by omega) (by omega)) dX12_claims_135 ?_
                          refine lv_sipush (v := 480) hx hb dX12_claims_136 (by decide) ?_
                          refine lv_idiv hx hb dX12_claims_139 (by decide) ?_
                          refine lv_topi (fun x_100 ex_100 => ?_)
                          refine lv_aload_n hx hb dX12_claims_140 rfl (lv_at hl 0 rfl) ?_
                          have hFc := tw_free hF hS hA
                          refine va_calli (va_runV (As := []) (rest := [.int x_100]) ⟨hx, hb, hml, hown, hts⟩ (m_now l dC dI ad av H.size a k τ ln y_L41 g_L41 u  hI hW) (cwV 0 hts (gi_4 (List.mem_cons_of_mem _ (List.mem_append_left _ (List.mem_of_getElem? (i := 7) rfl))) (List.mem_cons_of_mem _ (List.mem_append_left _ (List.mem_of_getElem? (i := 8) rfl))) (List.mem_cons_of_mem _ (List.mem_append_left _ (List.mem_of_getElem? (i := 9) rfl))) (List.mem_cons_of_mem _ (List.mem_append_left _ (List.mem_of_getElem? (i := 3) rfl))) (fun _ hh => (List.mem_cons_of_mem _ (List.mem_append_right _ (List.mem_append_right _ (List.mem_append_right _ (List.mem_append_left _ hh)))))) gd_m_now) rfl rfl rfl (by decide +kernel) ⟨Nat.le_of_ble_eq_true rfl, Nat.le_of_ble_eq_true rfl⟩) ⟨pw_blind, tw_recv hK hT (fx_50 hX) (by decide) cl_e60 rfl, pw_use hT hK hFc hS hM⟩ rfl rfl hl.1 rfl (lv_room (Nat.le_of_ble_eq_true rfl)) dX12_claims_141 ⟨Nat.le_of_ble_eq_true rfl, Nat.le_of_ble_eq_true rfl⟩) hS (fun q _ h => hFc q h) hFc (fun r0 r_101 t H locs ht hvm hw hB hz1 hk1 hS => ?_)
                          refine W.widen (k := 0) (n := 0) (Nat.le_of_ble_eq_true rfl) (Nat.le_of_ble_eq_true rfl) ?_
                          clear hvm hz1 hk1
                          subst hw
                          obtain ⟨hf_102, hT⟩ := hB
                          rw [ht] at hT
                          refine lv_sipush (v := 480) hx hb dX12_claims_144 (by decide) ?_
                          refine lv_idiv hx hb dX12_claims_147 (by decide) ?_
                          refine lv_topi (fun x_103 ex_103 => ?_)
                          refine lv_icmp_ne (tgt := 161) hx hb dX12_claims_148 (by decide) (fun c_104 => ?_) (fun c_104 => ?_)
                          · have nc_104 := z_ne rfl rfl c_104
                            obtain ⟨x_105, ex_105⟩ : ∃ y : Int32, y = i4 + Int32.ofInt 1 := ⟨_, rfl⟩
                            have hx_105 := z_add ex_105 rfl (zk (x := Int32.ofInt 1) 1 rfl) (by omega) (by omega)
                            refine lv_iinc (v := x_105) (lv' := [(4, .int x_105), (0, .ref (a 50)), (1, .int p0), (2, .int p1), (3, .int w3)]) hx hb dX12_claims_161 hl (k := 4) rfl ex_105.symm (by decide) rfl (fun ls hl => ?_)
                            refine lv_goto (tgt := 41) hx hb dX12_claims_164 (by decide) ?_
                            exact ih_41  w3 x_105 y_L41 g_L41 H _ ls (by omega) hG hI hGg hW (by omega) (by omega) hT hS (lv_sub hl [1, 2, 3, 4, 0] rfl)
                          · have nc_104 := z_eq rfl rfl c_104
                            refine lv_iload_n hx hb dX12_claims_151 rfl (lv_at hl 3 rfl) ?_
                            refine lv_aload_n hx hb dX12_claims_152 rfl (lv_at hl 0 rfl) ?_
                            refine tw_get (D := (dC, dI)) (v := .ref (a 63)) (C := RX12) (T := TX12) (N := 58) hx hb hts (fun _ hh => (List.mem_cons_of_mem _ (List.mem_append_right _ (List.mem_append_left _ hh)))) hown hK hT (fx_50 hX) (by decide) cl_e60 rfl 12 (by decide) (hts (.fieldLink RX12 37 "TypingPoolModel" "lines" "[I") (List.mem_cons_of_mem _ (List.mem_append_left _ (List.mem_of_getElem? (i := 10) rfl)))) (fun _ h9 => h9) rfl dX12_claims_153 ?_
                            refine lv_iload hx hb dX12_claims_156 (lv_at hl 4 rfl) ?_
                            refine tw_iald hx hb hK hT 0 (fx_63 hX) (by decide) cl_e73 rfl (z_in rfl (by omega) (by omega)) dX12_claims_158 ?_
                            have hv_106 := vb_at (im_a63 hI) (x := i4) rfl (by omega) (by omega)
                            refine lv_iadd hx hb dX12_claims_159 ?_
                            refine lv_topi (fun x_107 ex_107 => ?_)
                            refine lv_istore_n (lv' := [(3, .int x_107), (0, .ref (a 50)), (1, .int p0), (2, .int p1), (4, .int i4)]) hx hb dX12_claims_160 rfl hl (by decide) rfl (fun ls hl => ?_)
                            obtain ⟨x_108, ex_108⟩ : ∃ y : Int32, y = i4 + Int32.ofInt 1 := ⟨_, rfl⟩
                            have hx_108 := z_add ex_108 rfl (zk (x := Int32.ofInt 1) 1 rfl) (by omega) (by omega)
                            refine lv_iinc (v := x_108) (lv' := [(4, .int x_108), (3, .int x_107), (0, .ref (a 50)), (1, .int p0), (2, .int p1)]) hx hb dX12_claims_161 hl (k := 4) rfl ex_108.symm (by decide) rfl (fun ls hl => ?_)
                            refine lv_goto (tgt := 41) hx hb dX12_claims_164 (by decide) ?_
                            exact ih_41  x_107 x_108 y_L41 g_L41 H _ ls (by omega) hG hI hGg hW (by omega) (by omega) hT hS (lv_sub hl [2, 3, 4, 1, 0] rfl)
                      · have nc_97 := z_eq rfl (zk (x := 3) 3 rfl) c_97
                        refine lv_aload_n hx hb dX12_claims_88 rfl (lv_at hl 0 rfl) ?_
                        refine tw_get (D := (dC, dI)) (v := .ref (a 65)) (C := RX12) (T := TX12) (N := 58) hx hb hts (fun _ hh => (List.mem_cons_of_mem _ (List.mem_append_right _ (List.mem_append_left _ hh)))) hown hK hT (fx_50 hX) (by decide) cl_e60 rfl 14 (by decide) (hts (.fieldLink RX12 43 "TypingPoolModel" "claim" "[I") (List.mem_cons_of_mem _ (List.mem_append_left _ (List.mem_of_getElem? (i := 11) rfl)))) (fun _ h9 => h9) rfl dX12_claims_89 ?_
                        refine lv_iload hx hb dX12_claims_92 (lv_at hl 4 rfl) ?_
                        refine tw_iald hx hb hK hT 0 (fx_65 hX) (by decide) cl_e75 rfl (z_in rfl (by omega) (by omega)) dX12_claims_94 ?_
                        refine lv_bipush (v := 7) hx hb dX12_claims_95 (by decide) ?_
                        refine lv_icmp_lt (tgt := 124) hx hb dX12_claims_97 (by decide) (fun c_109 => ?_) (fun c_109 => ?_)
                        · have nc_109 := z_lt rfl (zk (x := 7) 7 rfl) c_109
                          refine lv_iload_n hx hb dX12_claims_124 rfl (lv_at hl 2 rfl) ?_
                          refine lv_iconst (v := 4) hx hb dX12_claims_125 (by decide) ?_
                          refine lv_icmp_ne (tgt := 161) hx hb dX12_claims_126 (by decide) (fun c_110 => ?_) (fun c_110 => ?_)
                          · have nc_110 := z_ne rfl (zk (x := 4) 4 rfl) c_110
                            obtain ⟨x_111, ex_111⟩ : ∃ y : Int32, y = i4 + Int32.ofInt 1 := ⟨_, rfl⟩
                            have hx_111 := z_add ex_111 rfl (zk (x := Int32.ofInt 1) 1 rfl) (by omega) (by omega)
                            refine lv_iinc (v := x_111) (lv' := [(4, .int x_111), (0, .ref (a 50)), (1, .int p0), (2, .int p1), (3, .int w3)]) hx hb dX12_claims_161 hl (k := 4) rfl ex_111.symm (by decide) rfl (fun ls hl => ?_)
                            refine lv_goto (tgt := 41) hx hb dX12_claims_164 (by decide) ?_
                            exact ih_41  w3 x_111 y_L41 g_L41 H _ ls (by omega) hG hI hGg hW (by omega) (by omega) hT hS (lv_sub hl [1, 2, 3, 4, 0] rfl)
                          · have nc_110 := z_eq rfl (zk (x := 4) 4 rfl) c_110
                            refine lv_aload_n hx hb dX12_claims_129 rfl (lv_at hl 0 rfl) ?_
                            refine tw_get (D := (dC, dI)) (v := .ref (a 66)) (C := RX12) (T := TX12) (N := 58) hx hb hts (fun _ hh => (List.mem_cons_of_mem _ (List.mem_append_right _ (List.mem_append_left _ hh)))) hown hK hT (fx_50 hX) (by decide) cl_e60 rfl 15 (by decide) (hts (.fieldLink RX12 46 "TypingPoolModel" "comes" "[I") (List.mem_cons_of_mem _ (List.mem_append_left _ (List.mem_of_getElem? (i := 6) rfl)))) (fun _ h9 => h9) rfl dX12_claims_130 ?_
                            refine lv_iload hx hb dX12_claims_133 (lv_at hl 4 rfl) ?_
                            refine tw_iald hx hb hK hT 0 (fx_66 hX) (by decide) cl_e76 rfl (z_in rfl (by omega) (by omega)) dX12_claims_135 ?_
                            refine lv_sipush (v := 480) hx hb dX12_claims_136 (by decide) ?_
                            refine lv_idiv hx hb dX12_claims_139 (by decide) ?_
                            refine lv_topi (fun x_112 ex_112 => ?_)
                            refine lv_aload_n hx hb dX12_claims_140 rfl (lv_at hl 0 rfl) ?_
                            have hFc := tw_free hF hS hA
                            refine va_calli (va_runV (As := []) (rest := [.int x_112]) ⟨hx, hb, hml, hown, hts⟩ (m_now l dC dI ad av H.size a k τ ln y_L41 g_L41 u  hI hW) (cwV 0 hts (gi_4 (List.mem_cons_of_mem _ (List.mem_append_left _ (List.mem_of_getElem? (i := 7) rfl))) (List.mem_cons_of_mem _ (List.mem_append_left _ (List.mem_of_getElem? (i := 8) rfl))) (List.mem_cons_of_mem _ (List.mem_append_left _ (List.mem_of_getElem? (i := 9) rfl))) (List.mem_cons_of_mem _ (List.mem_append_left _ (List.mem_of_getElem? (i := 3) rfl))) (fun _ hh => (List.mem_cons_of_mem _ (List.mem_append_right _ (List.mem_append_right _ (List.mem_append_right _ (List.mem_append_left _ hh)))))) gd_m_now) rfl rfl rfl (by decide +kernel) ⟨Nat.le_of_ble_eq_true rfl, Nat.le_of_ble_eq_true rfl⟩) ⟨pw_blind, tw_recv hK hT (fx_50 hX) (by decide) cl_e60 rfl, pw_use hT hK hFc hS hM⟩ rfl rfl hl.1 rfl (lv_room (Nat.le_of_ble_eq_true rfl)) dX12_claims_141 ⟨Nat.le_of_ble_eq_true rfl, Nat.le_of_ble_eq_true rfl⟩) hS (fun q _ h => hFc q h) hFc (fun r0 r_113 t H locs ht hvm hw hB hz1 hk1 hS => ?_)
                            refine W.widen (k := 0) (n := 0) (Nat.le_of_ble_eq_true rfl) (Nat.le_of_ble_eq_true rfl) ?_
                            clear hvm hz1 hk1
                            subst hw
                            obtain ⟨hf_114, hT⟩ := hB
                            rw [ht] at hT
                            refine lv_sipush (v := 480) hx hb dX12_claims_144 (by decide) ?_
                            refine lv_idiv hx hb dX12_claims_147 (by decide) ?_
                            refine lv_topi (fun x_115 ex_115 => ?_)
                            refine lv_icmp_ne (tgt := 161) hx hb dX12_claims_148 (by decide) (fun c_116 => ?_) (fun c_116 => ?_)
                            · have nc_116 := z_ne rfl rfl c_116
                              obtain ⟨x_117, ex_117⟩ : ∃ y : Int32, y = i4 + Int32.ofInt 1 := ⟨_, rfl⟩
                              have hx_117 := z_add ex_117 rfl (zk (x := Int32.ofInt 1) 1 rfl) (by omega) (by omega)
                              refine lv_iinc (v := x_117) (lv' := [(4, .int x_117), (0, .ref (a 50)), (1, .int p0), (2, .int p1), (3, .int w3)]) hx hb dX12_claims_161 hl (k := 4) rfl ex_117.symm (by decide) rfl (fun ls hl => ?_)
                              refine lv_goto (tgt := 41) hx hb dX12_claims_164 (by decide) ?_
                              exact ih_41  w3 x_117 y_L41 g_L41 H _ ls (by omega) hG hI hGg hW (by omega) (by omega) hT hS (lv_sub hl [1, 2, 3, 4, 0] rfl)
                            · have nc_116 := z_eq rfl rfl c_116
                              refine lv_iload_n hx hb dX12_claims_151 rfl (lv_at hl 3 rfl) ?_
                              refine lv_aload_n hx hb dX12_claims_152 rfl (lv_at hl 0 rfl) ?_
                              refine tw_get (D := (dC, dI)) (v := .ref (a 63)) (C := RX12) (T := TX12) (N := 58) hx hb hts (fun _ hh => (List.mem_cons_of_mem _ (List.mem_append_right _ (List.mem_append_left _ hh)))) hown hK hT (fx_50 hX) (by decide) cl_e60 rfl 12 (by decide) (hts (.fieldLink RX12 37 "TypingPoolModel" "lines" "[I") (List.mem_cons_of_mem _ (List.mem_append_left _ (List.mem_of_getElem? (i := 10) rfl)))) (fun _ h9 => h9) rfl dX12_claims_153 ?_
                              refine lv_iload hx hb dX12_claims_156 (lv_at hl 4 rfl) ?_
                              refine tw_iald hx hb hK hT 0 (fx_63 hX) (by decide) cl_e73 rfl (z_in rfl (by omega) (by omega)) dX12_claims_158 ?_
                              have hv_118 := vb_at (im_a63 hI) (x := i4) rfl (by omega) (by omega)
                              refine lv_iadd hx hb dX12_claims_159 ?_
                              refine lv_topi (fun x_119 ex_119 => ?_)
                              refine lv_istore_n (lv' := [(3, .int x_119), (0, .ref (a 50)), (1, .int p0), (2, .int p1), (4, .int i4)]) hx hb dX12_claims_160 rfl hl (by decide) rfl (fun ls hl => ?_)
                              obtain ⟨x_120, ex_120⟩ : ∃ y : Int32, y = i4 + Int32.ofInt 1 := ⟨_, rfl⟩
                              have hx_120 := z_add ex_120 rfl (zk (x := Int32.ofInt 1) 1 rfl) (by omega) (by omega)
                              refine lv_iinc (v := x_120) (lv' := [(4, .int x_120), (3, .int x_119), (0, .ref (a 50)), (1, .int p0), (2, .int p1)]) hx hb dX12_claims_161 hl (k := 4) rfl ex_120.symm (by decide) rfl (fun ls hl => ?_)
                              refine lv_goto (tgt := 41) hx hb dX12_claims_164 (by decide) ?_
                              exact ih_41  x_119 x_120 y_L41 g_L41 H _ ls (by omega) hG hI hGg hW (by omega) (by omega) hT hS (lv_sub hl [2, 3, 4, 1, 0] rfl)
                        · have nc_109 := z_nlt rfl (zk (x := 7) 7 rfl) c_109
                          refine lv_aload_n hx hb dX12_claims_100 rfl (lv_at hl 0 rfl) ?_
                          refine tw_get (D := (dC, dI)) (v := .ref (a 67)) (C := RX12) (T := TX12) (N := 58) hx hb hts (fun _ hh => (List.mem_cons_of_mem _ (List.mem_append_right _ (List.mem_append_left _ hh)))) hown hK hT (fx_50 hX) (by decide) cl_e60 rfl 16 (by decide) (hts (.fieldLink RX12 49 "TypingPoolModel" "due" "[I") (List.mem_cons_of_mem _ (List.mem_append_left _ (List.mem_of_getElem? (i := 12) rfl)))) (fun _ h9 => h9) rfl dX12_claims_101 ?_
                          refine lv_iload hx hb dX12_claims_104 (lv_at hl 4 rfl) ?_
                          refine tw_iald hx hb hK hT 0 (fx_67 hX) (by decide) cl_e77 rfl (z_in rfl (by omega) (by omega)) dX12_claims_106 ?_
                          refine lv_aload_n hx hb dX12_claims_107 rfl (lv_at hl 0 rfl) ?_
                          refine tw_get (D := (dC, dI)) (v := .ref (a 66)) (C := RX12) (T := TX12) (N := 58) hx hb hts (fun _ hh => (List.mem_cons_of_mem _ (List.mem_append_right _ (List.mem_append_left _ hh)))) hown hK hT (fx_50 hX) (by decide) cl_e60 rfl 15 (by decide) (hts (.fieldLink RX12 46 "TypingPoolModel" "comes" "[I") (List.mem_cons_of_mem _ (List.mem_append_left _ (List.mem_of_getElem? (i := 6) rfl)))) (fun _ h9 => h9) rfl dX12_claims_108 ?_
                          refine lv_iload hx hb dX12_claims_111 (lv_at hl 4 rfl) ?_
                          refine tw_iald hx hb hK hT 0 (fx_66 hX) (by decide) cl_e76 rfl (z_in rfl (by omega) (by omega)) dX12_claims_113 ?_
                          refine lv_isub hx hb dX12_claims_114 ?_
                          refine lv_topi (fun x_121 ex_121 => ?_)
                          refine lv_sipush (v := 480) hx hb dX12_claims_115 (by decide) ?_
                          refine lv_icmp_lt (tgt := 124) hx hb dX12_claims_118 (by decide) (fun c_122 => ?_) (fun c_122 => ?_)
                          · have nc_122 := z_lt rfl (zk (x := 480) 480 rfl) c_122
                            refine lv_iload_n hx hb dX12_claims_124 rfl (lv_at hl 2 rfl) ?_
                            refine lv_iconst (v := 4) hx hb dX12_claims_125 (by decide) ?_
                            refine lv_icmp_ne (tgt := 161) hx hb dX12_claims_126 (by decide) (fun c_123 => ?_) (fun c_123 => ?_)
                            · have nc_123 := z_ne rfl (zk (x := 4) 4 rfl) c_123
                              obtain ⟨x_124, ex_124⟩ : ∃ y : Int32, y = i4 + Int32.ofInt 1 := ⟨_, rfl⟩
                              have hx_124 := z_add ex_124 rfl (zk (x := Int32.ofInt 1) 1 rfl) (by omega) (by omega)
                              refine lv_iinc (v := x_124) (lv' := [(4, .int x_124), (0, .ref (a 50)), (1, .int p0), (2, .int p1), (3, .int w3)]) hx hb dX12_claims_161 hl (k := 4) rfl ex_124.symm (by decide) rfl (fun ls hl => ?_)
                              refine lv_goto (tgt := 41) hx hb dX12_claims_164 (by decide) ?_
                              exact ih_41  w3 x_124 y_L41 g_L41 H _ ls (by omega) hG hI hGg hW (by omega) (by omega) hT hS (lv_sub hl [1, 2, 3, 4, 0] rfl)
                            · have nc_123 := z_eq rfl (zk (x := 4) 4 rfl) c_123
                              refine lv_aload_n hx hb dX12_claims_129 rfl (lv_at hl 0 rfl) ?_
                              refine tw_get (D := (dC, dI)) (v := .ref (a 66)) (C := RX12) (T := TX12) (N := 58) hx hb hts (fun _ hh => (List.mem_cons_of_mem _ (List.mem_append_right _ (List.mem_append_left _ hh)))) hown hK hT (fx_50 hX) (by decide) cl_e60 rfl 15 (by decide) (hts (.fieldLink RX12 46 "TypingPoolModel" "comes" "[I") (List.mem_cons_of_mem _ (List.mem_append_left _ (List.mem_of_getElem? (i := 6) rfl)))) (fun _ h9 => h9) rfl dX12_claims_130 ?_
                              refine lv_iload hx hb dX12_claims_133 (lv_at hl 4 rfl) ?_
                              refine tw_iald hx hb hK hT 0 (fx_66 hX) (by decide) cl_e76 rfl (z_in rfl (by omega) (by omega)) dX12_claims_135 ?_
                              refine lv_sipush (v := 480) hx hb dX12_claims_136 (by decide) ?_
                              refine lv_idiv hx hb dX12_claims_139 (by decide) ?_
                              refine lv_topi (fun x_125 ex_125 => ?_)
                              refine lv_aload_n hx hb dX12_claims_140 rfl (lv_at hl 0 rfl) ?_
                              have hFc := tw_free hF hS hA
                              refine va_calli (va_runV (As := []) (rest := [.int x_125]) ⟨hx, hb, hml, hown, hts⟩ (m_now l dC dI ad av H.size a k τ ln y_L41 g_L41 u  hI hW) (cwV 0 hts (gi_4 (List.mem_cons_of_mem _ (List.mem_append_left _ (List.mem_of_getElem? (i := 7) rfl))) (List.mem_cons_of_mem _ (List.mem_append_left _ (List.mem_of_getElem? (i := 8) rfl))) (List.mem_cons_of_mem _ (List.mem_append_left _ (List.mem_of_getElem? (i := 9) rfl))) (List.mem_cons_of_mem _ (List.mem_append_left _ (List.mem_of_getElem? (i := 3) rfl))) (fun _ hh => (List.mem_cons_of_mem _ (List.mem_append_right _ (List.mem_append_right _ (List.mem_append_right _ (List.mem_append_left _ hh)))))) gd_m_now) rfl rfl rfl (by decide +kernel) ⟨Nat.le_of_ble_eq_true rfl, Nat.le_of_ble_eq_true rfl⟩) ⟨pw_blind, tw_recv hK hT (fx_50 hX) (by decide) cl_e60 rfl, pw_use hT hK hFc hS hM⟩ rfl rfl hl.1 rfl (lv_room (Nat.le_of_ble_eq_true rfl)) dX12_claims_141 ⟨Nat.le_of_ble_eq_true rfl, Nat.le_of_ble_eq_true rfl⟩) hS (fun q _ h => hFc q h) hFc (fun r0 r_126 t H locs ht hvm hw hB hz1 hk1 hS => ?_)
                              refine W.widen (k := 0) (n := 0) (Nat.le_of_ble_eq_true rfl) (Nat.le_of_ble_eq_true rfl) ?_
                              clear hvm hz1 hk1
                              subst hw
                              obtain ⟨hf_127, hT⟩ := hB
                              rw [ht] at hT
                              refine lv_sipush (v := 480) hx hb dX12_claims_144 (by decide) ?_
                              refine lv_idiv hx hb dX12_claims_147 (by decide) ?_
                              refine lv_topi (fun x_128 ex_128 => ?_)
                              refine lv_icmp_ne (tgt := 161) hx hb dX12_claims_148 (by decide) (fun c_129 => ?_) (fun c_129 => ?_)
                              · have nc_129 := z_ne rfl rfl c_129
                                obtain ⟨x_130, ex_130⟩ : ∃ y : Int32, y = i4 + Int32.ofInt 1 := ⟨_, rfl⟩
                                have hx_130 := z_add ex_130 rfl (zk (x := Int32.ofInt 1) 1 rfl) (by omega) (by omega)
                                refine lv_iinc (v := x_130) (lv' := [(4, .int x_130), (0, .ref (a 50)), (1, .int p0), (2, .int p1), (3, .int w3)]) hx hb dX12_claims_161 hl (k := 4) rfl ex_130.symm (by decide) rfl (fun ls hl => ?_)
                                refine lv_goto (tgt := 41) hx hb dX12_claims_164 (by decide) ?_
                                exact ih_41  w3 x_130 y_L41 g_L41 H _ ls (by omega) hG hI hGg hW (by omega) (by omega) hT hS (lv_sub hl [1, 2, 3, 4, 0] rfl)
                              · have nc_129 := z_eq rfl rfl c_129
                                refine lv_iload_n hx hb dX12_claims_151 rfl (lv_at hl 3 rfl) ?_
                                refine lv_aload_n hx hb dX12_claims_152 rfl (lv_at hl 0 rfl) ?_
                                refine tw_get (D := (dC, dI)) (v := .ref (a 63)) (C := RX12) (T := TX12) (N := 58) hx hb hts (fun _ hh => (List.mem_cons_of_mem _ (List.mem_append_right _ (List.mem_append_left _ hh)))) hown hK hT (fx_50 hX) (by decide) cl_e60 rfl 12 (by decide) (hts (.fieldLink RX12 37 "TypingPoolModel" "lines" "[I") (List.mem_cons_of_mem _ (List.mem_append_left _ (List.mem_of_getElem? (i := 10) rfl)))) (fun _ h9 => h9) rfl dX12_claims_153 ?_
                                refine lv_iload hx hb dX12_claims_156 (lv_at hl 4 rfl) ?_
                                refine tw_iald hx hb hK hT 0 (fx_63 hX) (by decide) cl_e73 rfl (z_in rfl (by omega) (by omega)) dX12_claims_158 ?_
                                have hv_131 := vb_at (im_a63 hI) (x := i4) rfl (by omega) (by omega)
                                refine lv_iadd hx hb dX12_claims_159 ?_
                                refine lv_topi (fun x_132 ex_132 => ?_)
                                refine lv_istore_n (lv' := [(3, .int x_132), (0, .ref (a 50)), (1, .int p0), (2, .int p1), (4, .int i4)]) hx hb dX12_claims_160 rfl hl (by decide) rfl (fun ls hl => ?_)
                                obtain ⟨x_133, ex_133⟩ : ∃ y : Int32, y = i4 + Int32.ofInt 1 := ⟨_, rfl⟩
                                have hx_133 := z_add ex_133 rfl (zk (x := Int32.ofInt 1) 1 rfl) (by omega) (by omega)
                                refine lv_iinc (v := x_133) (lv' := [(4, .int x_133), (3, .int x_132), (0, .ref (a 50)), (1, .int p0), (2, .int p1)]) hx hb dX12_claims_161 hl (k := 4) rfl ex_133.symm (by decide) rfl (fun ls hl => ?_)
                                refine lv_goto (tgt := 41) hx hb dX12_claims_164 (by decide) ?_
                                exact ih_41  x_132 x_133 y_L41 g_L41 H _ ls (by omega) hG hI hGg hW (by omega) (by omega) hT hS (lv_sub hl [2, 3, 4, 1, 0] rfl)
                          · have nc_122 := z_nlt rfl (zk (x := 480) 480 rfl) c_122
                            obtain ⟨x_134, ex_134⟩ : ∃ y : Int32, y = w3 + Int32.ofInt 1 := ⟨_, rfl⟩
                            refine lv_iinc (v := x_134) (lv' := [(3, .int x_134), (0, .ref (a 50)), (1, .int p0), (2, .int p1), (4, .int i4)]) hx hb dX12_claims_121 hl (k := 3) rfl ex_134.symm (by decide) rfl (fun ls hl => ?_)
                            refine lv_iload_n hx hb dX12_claims_124 rfl (lv_at hl 3 rfl) ?_
                            refine lv_iconst (v := 4) hx hb dX12_claims_125 (by decide) ?_
                            refine lv_icmp_ne (tgt := 161) hx hb dX12_claims_126 (by decide) (fun c_135 => ?_) (fun c_135 => ?_)
                            · have nc_135 := z_ne rfl (zk (x := 4) 4 rfl) c_135
                              obtain ⟨x_136, ex_136⟩ : ∃ y : Int32, y = i4 + Int32.ofInt 1 := ⟨_, rfl⟩
                              have hx_136 := z_add ex_136 rfl (zk (x := Int32.ofInt 1) 1 rfl) (by omega) (by omega)
                              refine lv_iinc (v := x_136) (lv' := [(4, .int x_136), (3, .int x_134), (0, .ref (a 50)), (1, .int p0), (2, .int p1)]) hx hb dX12_claims_161 hl (k := 4) rfl ex_136.symm (by decide) rfl (fun ls hl => ?_)
                              refine lv_goto (tgt := 41) hx hb dX12_claims_164 (by decide) ?_
                              exact ih_41  x_134 x_136 y_L41 g_L41 H _ ls (by omega) hG hI hGg hW (by omega) (by omega) hT hS (lv_sub hl [2, 3, 4, 1, 0] rfl)
                            · have nc_135 := z_eq rfl (zk (x := 4) 4 rfl) c_135
                              refine lv_aload_n hx hb dX12_claims_129 rfl (lv_at hl 1 rfl) ?_
                              refine tw_get (D := (dC, dI)) (v := .ref (a 66)) (C := RX12) (T := TX12) (N := 58) hx hb hts (fun _ hh => (List.mem_cons_of_mem _ (List.mem_append_right _ (List.mem_append_left _ hh)))) hown hK hT (fx_50 hX) (by decide) cl_e60 rfl 15 (by decide) (hts (.fieldLink RX12 46 "TypingPoolModel" "comes" "[I") (List.mem_cons_of_mem _ (List.mem_append_left _ (List.mem_of_getElem? (i := 6) rfl)))) (fun _ h9 => h9) rfl dX12_claims_130 ?_
                              refine lv_iload hx hb dX12_claims_133 (lv_at hl 4 rfl) ?_
                              refine tw_iald hx hb hK hT 0 (fx_66 hX) (by decide) cl_e76 rfl (z_in rfl (by omega) (by omega)) dX12_claims_135 ?_
                              refine lv_sipush (v := 480) hx hb dX12_claims_136 (by decide) ?_
                              refine lv_idiv hx hb dX12_claims_139 (by decide) ?_
                              refine lv_topi (fun x_137 ex_137 => ?_)
                              refine lv_aload_n hx hb dX12_claims_140 rfl (lv_at hl 1 rfl) ?_
                              have hFc := tw_free hF hS hA
                              refine va_calli (va_runV (As := []) (rest := [.int x_137]) ⟨hx, hb, hml, hown, hts⟩ (m_now l dC dI ad av H.size a k τ ln y_L41 g_L41 u  hI hW) (cwV 0 hts (gi_4 (List.mem_cons_of_mem _ (List.mem_append_left _ (List.mem_of_getElem? (i := 7) rfl))) (List.mem_cons_of_mem _ (List.mem_append_left _ (List.mem_of_getElem? (i := 8) rfl))) (List.mem_cons_of_mem _ (List.mem_append_left _ (List.mem_of_getElem? (i := 9) rfl))) (List.mem_cons_of_mem _ (List.mem_append_left _ (List.mem_of_getElem? (i := 3) rfl))) (fun _ hh => (List.mem_cons_of_mem _ (List.mem_append_right _ (List.mem_append_right _ (List.mem_append_right _ (List.mem_append_left _ hh)))))) gd_m_now) rfl rfl rfl (by decide +kernel) ⟨Nat.le_of_ble_eq_true rfl, Nat.le_of_ble_eq_true rfl⟩) ⟨pw_blind, tw_recv hK hT (fx_50 hX) (by decide) cl_e60 rfl, pw_use hT hK hFc hS hM⟩ rfl rfl hl.1 rfl (lv_room (Nat.le_of_ble_eq_true rfl)) dX12_claims_141 ⟨Nat.le_of_ble_eq_true rfl, Nat.le_of_ble_eq_true rfl⟩) hS (fun q _ h => hFc q h) hFc (fun r0 r_138 t H locs ht hvm hw hB hz1 hk1 hS => ?_)
                              refine W.widen (k := 0) (n := 0) (Nat.le_of_ble_eq_true rfl) (Nat.le_of_ble_eq_true rfl) ?_
                              clear hvm hz1 hk1
                              subst hw
                              obtain ⟨hf_139, hT⟩ := hB
                              rw [ht] at hT
                              refine lv_sipush (v := 480) hx hb dX12_claims_144 (by decide) ?_
                              refine lv_idiv hx hb dX12_claims_147 (by decide) ?_
                              refine lv_topi (fun x_140 ex_140 => ?_)
                              refine lv_icmp_ne (tgt := 161) hx hb dX12_claims_148 (by decide) (fun c_141 => ?_) (fun c_141 => ?_)
                              · have nc_141 := z_ne rfl rfl c_141
                                obtain ⟨x_142, ex_142⟩ : ∃ y : Int32, y = i4 + Int32.ofInt 1 := ⟨_, rfl⟩
                                have hx_142 := z_add ex_142 rfl (zk (x := Int32.ofInt 1) 1 rfl) (by omega) (by omega)
                                refine lv_iinc (v := x_142) (lv' := [(4, .int x_142), (3, .int x_134), (0, .ref (a 50)), (1, .int p0), (2, .int p1)]) hx hb dX12_claims_161 hl (k := 4) rfl ex_142.symm (by decide) rfl (fun ls hl => ?_)
                                refine lv_goto (tgt := 41) hx hb dX12_claims_164 (by decide) ?_
                                exact ih_41  x_134 x_142 y_L41 g_L41 H _ ls (by omega) hG hI hGg hW (by omega) (by omega) hT hS (lv_sub hl [2, 3, 4, 1, 0] rfl)
                              · have nc_141 := z_eq rfl rfl c_141
                                refine lv_iload_n hx hb dX12_claims_151 rfl (lv_at hl 0 rfl) ?_
                                refine lv_aload_n hx hb dX12_claims_152 rfl (lv_at hl 1 rfl) ?_
                                refine tw_get (D := (dC, dI)) (v := .ref (a 63)) (C := RX12) (T := TX12) (N := 58) hx hb hts (fun _ hh => (List.mem_cons_of_mem _ (List.mem_append_right _ (List.mem_append_left _ hh)))) hown hK hT (fx_50 hX) (by decide) cl_e60 rfl 12 (by decide) (hts (.fieldLink RX12 37 "TypingPoolModel" "lines" "[I") (List.mem_cons_of_mem _ (List.mem_append_left _ (List.mem_of_getElem? (i := 10) rfl)))) (fun _ h9 => h9) rfl dX12_claims_153 ?_
                                refine lv_iload hx hb dX12_claims_156 (lv_at hl 4 rfl) ?_
                                refine tw_iald hx hb hK hT 0 (fx_63 hX) (by decide) cl_e73 rfl (z_in rfl (by omega) (by omega)) dX12_claims_158 ?_
                                have hv_143 := vb_at (im_a63 hI) (x := i4) rfl (by omega) (by omega)
                                refine lv_iadd hx hb dX12_claims_159 ?_
                                refine lv_topi (fun x_144 ex_144 => ?_)
                                refine lv_istore_n (lv' := [(3, .int x_144), (0, .ref (a 50)), (1, .int p0), (2, .int p1), (4, .int i4)]) hx hb dX12_claims_160 rfl hl (by decide) rfl (fun ls hl => ?_)
                                obtain ⟨x_145, ex_145⟩ : ∃ y : Int32, y = i4 + Int32.ofInt 1 := ⟨_, rfl⟩
                                have hx_145 := z_add ex_145 rfl (zk (x := Int32.ofInt 1) 1 rfl) (by omega) (by omega)
                                refine lv_iinc (v := x_145) (lv' := [(4, .int x_145), (3, .int x_144), (0, .ref (a 50)), (1, .int p0), (2, .int p1)]) hx hb dX12_claims_161 hl (k := 4) rfl ex_145.symm (by decide) rfl (fun ls hl => ?_)
                                refine lv_goto (tgt := 41) hx hb dX12_claims_164 (by decide) ?_
                                exact ih_41  x_144 x_145 y_L41 g_L41 H _ ls (by omega) hG hI hGg hW (by omega) (by omega) hT hS (lv_sub hl [2, 3, 4, 1, 0] rfl)
              · have nc_19 := z_ne rfl rfl c_19
                refine lv_goto (tgt := 161) hx hb dX12_claims_61 (by decide) ?_
                obtain ⟨x_146, ex_146⟩ : ∃ y : Int32, y = i4 + Int32.ofInt 1 := ⟨_, rfl⟩
                have hx_146 := z_add ex_146 rfl (zk (x := Int32.ofInt 1) 1 rfl) (by omega) (by omega)
                refine lv_iinc (v := x_146) (lv' := [(4, .int x_146), (0, .ref (a 50)), (1, .int p0), (2, .int p1), (3, .int w3)]) hx hb dX12_claims_161 hl (k := 4) rfl ex_146.symm (by decide) rfl (fun ls hl => ?_)
                refine lv_goto (tgt := 41) hx hb dX12_claims_164 (by decide) ?_
                exact ih_41  w3 x_146 y_L41 g_L41 H _ ls (by omega) hG hI hGg hW (by omega) (by omega) hT hS (lv_sub hl [1, 2, 3, 4, 0] rfl)
        have hp_147 : (0 : Int32).toInt = 0 := (zk (x := 0) 0 rfl)
        have hp_148 : (0 : Int32).toInt = 0 := (zk (x := 0) 0 rfl)
        exact loop_41 _ (0 : Int32) (0 : Int32) y_1 g H _ ls (Nat.lt_succ_self _) hG hI hGg hW (by omega) (by omega) hT hS (lv_sub hl [2, 3, 4, 1, 0] rfl)
      · have nc_16 := z_eq rfl (zk (x := 0) 0 rfl) c_16
        refine lv_aload_n hx hb dX12_claims_30 rfl (lv_at hl 0 rfl) ?_
        refine lv_iload_n hx hb dX12_claims_31 rfl (lv_at hl 1 rfl) ?_
        have hFc := tw_free hF hS hA
        refine va_calli (va_runV (As := [.int p0]) (rest := []) ⟨hx, hb, hml, hown, hts⟩ (m_waited l dC dI ad av H.size a k τ ln y_1 g u p0 hI hW) (cwV 1 hts (gi_4 (List.mem_cons_of_mem _ (List.mem_append_left _ (List.mem_of_getElem? (i := 16) rfl))) (List.mem_cons_of_mem _ (List.mem_append_left _ (List.mem_of_getElem? (i := 17) rfl))) (List.mem_cons_of_mem _ (List.mem_append_left _ (List.mem_of_getElem? (i := 18) rfl))) (List.mem_cons_of_mem _ (List.mem_append_left _ (List.mem_of_getElem? (i := 3) rfl))) (fun _ hh => (List.mem_cons_of_mem _ (List.mem_append_right _ (List.mem_append_right _ (List.mem_append_right _ (List.mem_append_right _ (List.mem_append_right _ (List.mem_append_left _ hh)))))))) gd_m_waited) rfl rfl rfl (by decide +kernel) ⟨Nat.le_of_ble_eq_true rfl, Nat.le_of_ble_eq_true rfl⟩) ⟨pw_blind, tw_recv hK hT (fx_50 hX) (by decide) cl_e60 rfl, pw_use hT hK hFc hS hM⟩ rfl rfl hl.1 rfl (lv_room (Nat.le_of_ble_eq_true rfl)) dX12_claims_32 ⟨Nat.le_of_ble_eq_true rfl, Nat.le_of_ble_eq_true rfl⟩) hS (fun q _ h => hFc q h) hFc (fun r0 r_149 t H locs ht hvm hw hB hz1 hk1 hS => ?_)
        refine W.widen (k := 0) (n := 0) (Nat.le_of_ble_eq_true rfl) (Nat.le_of_ble_eq_true rfl) ?_
        clear hvm hz1 hk1
        subst hw
        have hT := hB
        rw [ht] at hT
        exact W.iret (v := r_149) hx hb hr (fun t ht hW9 => ⟨⟨r_149, r_149, rfl, rfl, ⟨y_1, g, hG, hGg, hI, tw_at ht hT⟩⟩, hS.F ht⟩) hS.2.2 dX12_claims_35
    · refine lq_top (v := 0) hre ?_
      rw [ht] at hT
      try simp only [hp_9, hp_10] at hf_14
      clear hp_9 hp_10
      refine lv_if_ne (tgt := 26) hx hb dX12_claims_21 (by decide) (fun c_150 => absurd c_150 (by decide)) (fun c_150 => ?_)
      refine lv_iconst (v := (-1)) hx hb dX12_claims_24 (by decide) ?_
      exact W.iret (v := (-1)) hx hb hr (fun t ht hW9 => ⟨⟨(-1), (-1), rfl, rfl, ⟨y_1, g, hG, hGg, hI, tw_at ht hT⟩⟩, hS.F ht⟩) hS.2.2 dX12_claims_25
  · refine lq_top (v := 0) hre ?_
    rw [ht] at hT
    try simp only [hp_2, hp_3] at hf_7
    clear hp_2 hp_3
    refine lv_if_eq (tgt := 24) hx hb dX12_claims_12 (by decide) (fun c_151 => ?_) (fun c_151 => absurd c_151 (by decide))
    refine lv_iconst (v := (-1)) hx hb dX12_claims_24 (by decide) ?_
    exact W.iret (v := (-1)) hx hb hr (fun t ht hW9 => ⟨⟨(-1), (-1), rfl, rfl, ⟨y_1, g, hG, hGg, hI, tw_at ht hT⟩⟩, hS.F ht⟩) hS.2.2 dX12_claims_25
