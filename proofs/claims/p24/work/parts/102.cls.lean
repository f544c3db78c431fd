theorem dX0_init_0 : decode cX0_init 0 = .ok (.aload_n 0, 1) := by decide +kernel
theorem dX0_init_1 : decode cX0_init 1 = .ok (.invokespecial 1, 3) := by decide +kernel
theorem dX0_init_10 : decode cX0_init 10 = .ok (.iload_n 2, 1) := by decide +kernel
theorem dX0_init_11 : decode cX0_init 11 = .ok (.putfield 13, 3) := by decide +kernel
theorem dX0_init_14 : decode cX0_init 14 = .ok (.aload_n 0, 1) := by decide +kernel
theorem dX0_init_15 : decode cX0_init 15 = .ok (.iload_n 3, 1) := by decide +kernel
theorem dX0_init_16 : decode cX0_init 16 = .ok (.putfield 16, 3) := by decide +kernel
theorem dX0_init_19 : decode cX0_init 19 = .ok (.return_, 1) := by decide +kernel
theorem dX0_init_4 : decode cX0_init 4 = .ok (.aload_n 0, 1) := by decide +kernel
theorem dX0_init_5 : decode cX0_init 5 = .ok (.iload_n 1, 1) := by decide +kernel
theorem dX0_init_6 : decode cX0_init 6 = .ok (.putfield 7, 3) := by decide +kernel
theorem dX0_init_9 : decode cX0_init 9 = .ok (.aload_n 0, 1) := by decide +kernel
theorem dX10_lettersOf_0 : decode cX10_lettersOf 0 = .ok (.iload_n 0, 1) := by decide +kernel
theorem dX10_lettersOf_1 : decode cX10_lettersOf 1 = .ok (.tableswitch 36 0 2 #[27, 30, 33], 27) := by decide +kernel
theorem dX10_lettersOf_28 : decode cX10_lettersOf 28 = .ok (.ldc 62, 2) := by decide +kernel
theorem dX10_lettersOf_30 : decode cX10_lettersOf 30 = .ok (.areturn, 1) := by decide +kernel
theorem dX10_lettersOf_31 : decode cX10_lettersOf 31 = .ok (.ldc 64, 2) := by decide +kernel
theorem dX10_lettersOf_33 : decode cX10_lettersOf 33 = .ok (.areturn, 1) := by decide +kernel
theorem dX10_lettersOf_34 : decode cX10_lettersOf 34 = .ok (.ldc 66, 2) := by decide +kernel
theorem dX10_lettersOf_36 : decode cX10_lettersOf 36 = .ok (.areturn, 1) := by decide +kernel
theorem dX10_lettersOf_37 : decode cX10_lettersOf 37 = .ok (.ldc 68, 2) := by decide +kernel
theorem dX10_lettersOf_39 : decode cX10_lettersOf 39 = .ok (.areturn, 1) := by decide +kernel
theorem dX10_tell_0 : decode cX10_tell 0 = .ok (.aload_n 0, 1) := by decide +kernel
theorem dX10_tell_1 : decode cX10_tell 1 = .ok (.getfield 31, 3) := by decide +kernel
theorem dX10_tell_11 : decode cX10_tell 11 = .ok (.invokevirtual 51, 3) := by decide +kernel
theorem dX10_tell_14 : decode cX10_tell 14 = .ok (.istore 5, 2) := by decide +kernel
theorem dX10_tell_16 : decode cX10_tell 16 = .ok (.iload 5, 2) := by decide +kernel
theorem dX10_tell_18 : decode cX10_tell 18 = .ok (.iconst (-1), 1) := by decide +kernel
theorem dX10_tell_19 : decode cX10_tell 19 = .ok (.if_icmp .eq 8, 3) := by decide +kernel
theorem dX10_tell_22 : decode cX10_tell 22 = .ok (.iconst (-1), 1) := by decide +kernel
theorem dX10_tell_23 : decode cX10_tell 23 = .ok (.iload 5, 2) := by decide +kernel
theorem dX10_tell_25 : decode cX10_tell 25 = .ok (.isub, 1) := by decide +kernel
theorem dX10_tell_26 : decode cX10_tell 26 = .ok (.ireturn, 1) := by decide +kernel
theorem dX10_tell_27 : decode cX10_tell 27 = .ok (.aload_n 0, 1) := by decide +kernel
theorem dX10_tell_28 : decode cX10_tell 28 = .ok (.getfield 17, 3) := by decide +kernel
theorem dX10_tell_31 : decode cX10_tell 31 = .ok (.istore 6, 2) := by decide +kernel
theorem dX10_tell_33 : decode cX10_tell 33 = .ok (.aload_n 0, 1) := by decide +kernel
theorem dX10_tell_34 : decode cX10_tell 34 = .ok (.getfield 11, 3) := by decide +kernel
theorem dX10_tell_37 : decode cX10_tell 37 = .ok (.iload 6, 2) := by decide +kernel
theorem dX10_tell_39 : decode cX10_tell 39 = .ok (.new 9, 3) := by decide +kernel
theorem dX10_tell_4 : decode cX10_tell 4 = .ok (.aload_n 3, 1) := by decide +kernel
theorem dX10_tell_42 : decode cX10_tell 42 = .ok (.dup, 1) := by decide +kernel
theorem dX10_tell_43 : decode cX10_tell 43 = .ok (.iload_n 1, 1) := by decide +kernel
theorem dX10_tell_44 : decode cX10_tell 44 = .ok (.iload_n 2, 1) := by decide +kernel
theorem dX10_tell_45 : decode cX10_tell 45 = .ok (.aload_n 0, 1) := by decide +kernel
theorem dX10_tell_46 : decode cX10_tell 46 = .ok (.getfield 31, 3) := by decide +kernel
theorem dX10_tell_49 : decode cX10_tell 49 = .ok (.invokevirtual 55, 3) := by decide +kernel
theorem dX10_tell_5 : decode cX10_tell 5 = .ok (.iload 4, 2) := by decide +kernel
theorem dX10_tell_52 : decode cX10_tell 52 = .ok (.invokespecial 59, 3) := by decide +kernel
theorem dX10_tell_55 : decode cX10_tell 55 = .ok (.aastore, 1) := by decide +kernel
theorem dX10_tell_56 : decode cX10_tell 56 = .ok (.aload_n 0, 1) := by decide +kernel
theorem dX10_tell_57 : decode cX10_tell 57 = .ok (.dup, 1) := by decide +kernel
theorem dX10_tell_58 : decode cX10_tell 58 = .ok (.getfield 17, 3) := by decide +kernel
theorem dX10_tell_61 : decode cX10_tell 61 = .ok (.iconst 1, 1) := by decide +kernel
theorem dX10_tell_62 : decode cX10_tell 62 = .ok (.iadd, 1) := by decide +kernel
theorem dX10_tell_63 : decode cX10_tell 63 = .ok (.putfield 17, 3) := by decide +kernel
theorem dX10_tell_66 : decode cX10_tell 66 = .ok (.iload 6, 2) := by decide +kernel
theorem dX10_tell_68 : decode cX10_tell 68 = .ok (.ireturn, 1) := by decide +kernel
theorem dX10_tell_7 : decode cX10_tell 7 = .ok (.iload_n 1, 1) := by decide +kernel
theorem dX10_tell_8 : decode cX10_tell 8 = .ok (.invokestatic 48, 3) := by decide +kernel
theorem dX2_init_0 : decode cX2_init 0 = .ok (.aload_n 0, 1) := by decide +kernel
theorem dX2_init_1 : decode cX2_init 1 = .ok (.invokespecial 3, 3) := by decide +kernel
theorem dX2_init_10 : decode cX2_init 10 = .ok (.iload_n 1, 1) := by decide +kernel
theorem dX2_init_11 : decode cX2_init 11 = .ok (.putfield 15, 3) := by decide +kernel
theorem dX2_init_14 : decode cX2_init 14 = .ok (.aload_n 0, 1) := by decide +kernel
theorem dX2_init_15 : decode cX2_init 15 = .ok (.iload_n 2, 1) := by decide +kernel
theorem dX2_init_16 : decode cX2_init 16 = .ok (.putfield 18, 3) := by decide +kernel
theorem dX2_init_19 : decode cX2_init 19 = .ok (.aload_n 0, 1) := by decide +kernel
theorem dX2_init_20 : decode cX2_init 20 = .ok (.iload_n 3, 1) := by decide +kernel
theorem dX2_init_21 : decode cX2_init 21 = .ok (.putfield 21, 3) := by decide +kernel
theorem dX2_init_24 : decode cX2_init 24 = .ok (.aload_n 0, 1) := by decide +kernel
theorem dX2_init_25 : decode cX2_init 25 = .ok (.iload 4, 2) := by decide +kernel
theorem dX2_init_27 : decode cX2_init 27 = .ok (.putfield 24, 3) := by decide +kernel
theorem dX2_init_30 : decode cX2_init 30 = .ok (.aload_n 0, 1) := by decide +kernel
theorem dX2_init_31 : decode cX2_init 31 = .ok (.iload 5, 2) := by decide +kernel
theorem dX2_init_33 : decode cX2_init 33 = .ok (.putfield 27, 3) := by decide +kernel
theorem dX2_init_36 : decode cX2_init 36 = .ok (.return_, 1) := by decide +kernel
theorem dX2_init_4 : decode cX2_init 4 = .ok (.aload_n 0, 1) := by decide +kernel
theorem dX2_init_5 : decode cX2_init 5 = .ok (.iconst (-1), 1) := by decide +kernel
theorem dX2_init_6 : decode cX2_init 6 = .ok (.putfield 9, 3) := by decide +kernel
theorem dX2_init_9 : decode cX2_init 9 = .ok (.aload_n 0, 1) := by decide +kernel
theorem dX4_init_0 : decode cX4_init 0 = .ok (.aload_n 0, 1) := by decide +kernel
theorem dX4_init_1 : decode cX4_init 1 = .ok (.invokespecial 1, 3) := by decide +kernel
theorem dX4_init_10 : decode cX4_init 10 = .ok (.iload_n 2, 1) := by decide +kernel
theorem dX4_init_11 : decode cX4_init 11 = .ok (.putfield 13, 3) := by decide +kernel
theorem dX4_init_14 : decode cX4_init 14 = .ok (.aload_n 0, 1) := by decide +kernel
theorem dX4_init_15 : decode cX4_init 15 = .ok (.iload_n 3, 1) := by decide +kernel
theorem dX4_init_16 : decode cX4_init 16 = .ok (.putfield 16, 3) := by decide +kernel
theorem dX4_init_19 : decode cX4_init 19 = .ok (.return_, 1) := by decide +kernel
theorem dX4_init_4 : decode cX4_init 4 = .ok (.aload_n 0, 1) := by decide +kernel
theorem dX4_init_5 : decode cX4_init 5 = .ok (.iload_n 1, 1) := by decide +kernel
theorem dX4_init_6 : decode cX4_init 6 = .ok (.putfield 7, 3) := by decide +kernel
theorem dX4_init_9 : decode cX4_init 9 = .ok (.aload_n 0, 1) := by decide +kernel
theorem dX6_init_0 : decode cX6_init 0 = .ok (.aload_n 0, 1) := by decide +kernel
theorem dX6_init_1 : decode cX6_init 1 = .ok (.invokespecial 3, 3) := by decide +kernel
theorem dX6_init_4 : decode cX6_init 4 = .ok (.return_, 1) := by decide +kernel
theorem dX7_beginHand_0 : decode cX7_beginHand 0 = .ok (.iload_n 1, 1) := by decide +kernel
theorem dX7_beginHand_1 : decode cX7_beginHand 1 = .ok (.aload_n 0, 1) := by decide +kernel
theorem dX7_beginHand_100 : decode cX7_beginHand 100 = .ok (.aload_n 0, 1) := by decide +kernel
theorem dX7_beginHand_101 : decode cX7_beginHand 101 = .ok (.getfield 27, 3) := by decide +kernel
theorem dX7_beginHand_104 : decode cX7_beginHand 104 = .ok (.iload 6, 2) := by decide +kernel
theorem dX7_beginHand_106 : decode cX7_beginHand 106 = .ok (.iload 7, 2) := by decide +kernel
theorem dX7_beginHand_108 : decode cX7_beginHand 108 = .ok (.iload 10, 2) := by decide +kernel
theorem dX7_beginHand_110 : decode cX7_beginHand 110 = .ok (.invokevirtual 111, 3) := by decide +kernel
theorem dX7_beginHand_113 : decode cX7_beginHand 113 = .ok (.istore 7, 2) := by decide +kernel
theorem dX7_beginHand_115 : decode cX7_beginHand 115 = .ok (.iload 8, 2) := by decide +kernel
theorem dX7_beginHand_117 : decode cX7_beginHand 117 = .ok (.aload_n 0, 1) := by decide +kernel
theorem dX7_beginHand_118 : decode cX7_beginHand 118 = .ok (.getfield 27, 3) := by decide +kernel
theorem dX7_beginHand_12 : decode cX7_beginHand 12 = .ok (.aload_n 0, 1) := by decide +kernel
theorem dX7_beginHand_121 : decode cX7_beginHand 121 = .ok (.getfield 115, 3) := by decide +kernel
theorem dX7_beginHand_124 : decode cX7_beginHand 124 = .ok (.iload 9, 2) := by decide +kernel
theorem dX7_beginHand_126 : decode cX7_beginHand 126 = .ok (.aaload, 1) := by decide +kernel
theorem dX7_beginHand_127 : decode cX7_beginHand 127 = .ok (.getfield 118, 3) := by decide +kernel
theorem dX7_beginHand_13 : decode cX7_beginHand 13 = .ok (.iload_n 3, 1) := by decide +kernel
theorem dX7_beginHand_130 : decode cX7_beginHand 130 = .ok (.ior, 1) := by decide +kernel
theorem dX7_beginHand_131 : decode cX7_beginHand 131 = .ok (.istore 8, 2) := by decide +kernel
theorem dX7_beginHand_133 : decode cX7_beginHand 133 = .ok (.aload_n 0, 1) := by decide +kernel
theorem dX7_beginHand_134 : decode cX7_beginHand 134 = .ok (.iload_n 1, 1) := by decide +kernel
theorem dX7_beginHand_135 : decode cX7_beginHand 135 = .ok (.iload_n 2, 1) := by decide +kernel
theorem dX7_beginHand_136 : decode cX7_beginHand 136 = .ok (.iload 7, 2) := by decide +kernel
theorem dX7_beginHand_138 : decode cX7_beginHand 138 = .ok (.iload 8, 2) := by decide +kernel
theorem dX7_beginHand_14 : decode cX7_beginHand 14 = .ok (.iload 4, 2) := by decide +kernel
theorem dX7_beginHand_140 : decode cX7_beginHand 140 = .ok (.iload_n 3, 1) := by decide +kernel
theorem dX7_beginHand_141 : decode cX7_beginHand 141 = .ok (.iload 4, 2) := by decide +kernel
theorem dX7_beginHand_143 : decode cX7_beginHand 143 = .ok (.iload 5, 2) := by decide +kernel
theorem dX7_beginHand_145 : decode cX7_beginHand 145 = .ok (.invokevirtual 122, 3) := by decide +kernel
theorem dX7_beginHand_148 : decode cX7_beginHand 148 = .ok (.return_, 1) := by decide +kernel
theorem dX7_beginHand_16 : decode cX7_beginHand 16 = .ok (.iload 5, 2) := by decide +kernel
theorem dX7_beginHand_18 : decode cX7_beginHand 18 = .ok (.invokevirtual 88, 3) := by decide +kernel
theorem dX7_beginHand_2 : decode cX7_beginHand 2 = .ok (.getfield 78, 3) := by decide +kernel
theorem dX7_beginHand_21 : decode cX7_beginHand 21 = .ok (.return_, 1) := by decide +kernel
theorem dX7_beginHand_22 : decode cX7_beginHand 22 = .ok (.aload_n 0, 1) := by decide +kernel
theorem dX7_beginHand_23 : decode cX7_beginHand 23 = .ok (.getfield 15, 3) := by decide +kernel
theorem dX7_beginHand_26 : decode cX7_beginHand 26 = .ok (.iload_n 1, 1) := by decide +kernel
theorem dX7_beginHand_27 : decode cX7_beginHand 27 = .ok (.iaload, 1) := by decide +kernel
theorem dX7_beginHand_28 : decode cX7_beginHand 28 = .ok (.istore 6, 2) := by decide +kernel
theorem dX7_beginHand_30 : decode cX7_beginHand 30 = .ok (.aload_n 0, 1) := by decide +kernel
theorem dX7_beginHand_31 : decode cX7_beginHand 31 = .ok (.getfield 31, 3) := by decide +kernel
theorem dX7_beginHand_34 : decode cX7_beginHand 34 = .ok (.getfield 92, 3) := by decide +kernel
theorem dX7_beginHand_37 : decode cX7_beginHand 37 = .ok (.istore 7, 2) := by decide +kernel
theorem dX7_beginHand_39 : decode cX7_beginHand 39 = .ok (.aload_n 0, 1) := by decide +kernel
theorem dX7_beginHand_40 : decode cX7_beginHand 40 = .ok (.getfield 31, 3) := by decide +kernel
theorem dX7_beginHand_43 : decode cX7_beginHand 43 = .ok (.getfield 95, 3) := by decide +kernel
theorem dX7_beginHand_46 : decode cX7_beginHand 46 = .ok (.iload 6, 2) := by decide +kernel
theorem dX7_beginHand_48 : decode cX7_beginHand 48 = .ok (.iaload, 1) := by decide +kernel
theorem dX7_beginHand_49 : decode cX7_beginHand 49 = .ok (.istore 8, 2) := by decide +kernel
theorem dX7_beginHand_5 : decode cX7_beginHand 5 = .ok (.if_icmp .lt 17, 3) := by decide +kernel
theorem dX7_beginHand_51 : decode cX7_beginHand 51 = .ok (.aload_n 0, 1) := by decide +kernel
theorem dX7_beginHand_52 : decode cX7_beginHand 52 = .ok (.getfield 31, 3) := by decide +kernel
theorem dX7_beginHand_55 : decode cX7_beginHand 55 = .ok (.getfield 98, 3) := by decide +kernel
theorem dX7_beginHand_58 : decode cX7_beginHand 58 = .ok (.iload 6, 2) := by decide +kernel
theorem dX7_beginHand_60 : decode cX7_beginHand 60 = .ok (.iaload, 1) := by decide +kernel
theorem dX7_beginHand_61 : decode cX7_beginHand 61 = .ok (.istore 9, 2) := by decide +kernel
theorem dX7_beginHand_63 : decode cX7_beginHand 63 = .ok (.aload_n 0, 1) := by decide +kernel
theorem dX7_beginHand_64 : decode cX7_beginHand 64 = .ok (.getfield 27, 3) := by decide +kernel
theorem dX7_beginHand_67 : decode cX7_beginHand 67 = .ok (.iload 9, 2) := by decide +kernel
theorem dX7_beginHand_69 : decode cX7_beginHand 69 = .ok (.invokevirtual 67, 3) := by decide +kernel
theorem dX7_beginHand_72 : decode cX7_beginHand 72 = .ok (.ifCond .eq 61, 3) := by decide +kernel
theorem dX7_beginHand_75 : decode cX7_beginHand 75 = .ok (.aload_n 0, 1) := by decide +kernel
theorem dX7_beginHand_76 : decode cX7_beginHand 76 = .ok (.getfield 31, 3) := by decide +kernel
theorem dX7_beginHand_79 : decode cX7_beginHand 79 = .ok (.getfield 101, 3) := by decide +kernel
theorem dX7_beginHand_8 : decode cX7_beginHand 8 = .ok (.iload_n 2, 1) := by decide +kernel
theorem dX7_beginHand_82 : decode cX7_beginHand 82 = .ok (.iload 9, 2) := by decide +kernel
theorem dX7_beginHand_84 : decode cX7_beginHand 84 = .ok (.iaload, 1) := by decide +kernel
theorem dX7_beginHand_85 : decode cX7_beginHand 85 = .ok (.aload_n 0, 1) := by decide +kernel
theorem dX7_beginHand_86 : decode cX7_beginHand 86 = .ok (.getfield 31, 3) := by decide +kernel
theorem dX7_beginHand_89 : decode cX7_beginHand 89 = .ok (.getfield 104, 3) := by decide +kernel
theorem dX7_beginHand_9 : decode cX7_beginHand 9 = .ok (.ifCond .ne 12, 3) := by decide +kernel
theorem dX7_beginHand_92 : decode cX7_beginHand 92 = .ok (.iload 6, 2) := by decide +kernel
theorem dX7_beginHand_94 : decode cX7_beginHand 94 = .ok (.iaload, 1) := by decide +kernel
theorem dX7_beginHand_95 : decode cX7_beginHand 95 = .ok (.invokestatic 107, 3) := by decide +kernel
theorem dX7_beginHand_98 : decode cX7_beginHand 98 = .ok (.istore 10, 2) := by decide +kernel
theorem dX7_goOn_0 : decode cX7_goOn 0 = .ok (.iload 7, 2) := by decide +kernel
theorem dX7_goOn_101 : decode cX7_goOn 101 = .ok (.getfield 115, 3) := by decide +kernel
theorem dX7_goOn_104 : decode cX7_goOn 104 = .ok (.iload 10, 2) := by decide +kernel
theorem dX7_goOn_106 : decode cX7_goOn 106 = .ok (.aaload, 1) := by decide +kernel
theorem dX7_goOn_107 : decode cX7_goOn 107 = .ok (.astore 11, 2) := by decide +kernel
theorem dX7_goOn_109 : decode cX7_goOn 109 = .ok (.aload 11, 2) := by decide +kernel
theorem dX7_goOn_111 : decode cX7_goOn 111 = .ok (.invokevirtual 130, 3) := by decide +kernel
theorem dX7_goOn_114 : decode cX7_goOn 114 = .ok (.aload_n 0, 1) := by decide +kernel
theorem dX7_goOn_115 : decode cX7_goOn 115 = .ok (.getfield 31, 3) := by decide +kernel
theorem dX7_goOn_118 : decode cX7_goOn 118 = .ok (.iload 8, 2) := by decide +kernel
theorem dX7_goOn_12 : decode cX7_goOn 12 = .ok (.if_icmp .ge 14, 3) := by decide +kernel
theorem dX7_goOn_120 : decode cX7_goOn 120 = .ok (.iload 10, 2) := by decide +kernel
theorem dX7_goOn_122 : decode cX7_goOn 122 = .ok (.iload 4, 2) := by decide +kernel
theorem dX7_goOn_124 : decode cX7_goOn 124 = .ok (.invokevirtual 133, 3) := by decide +kernel
theorem dX7_goOn_127 : decode cX7_goOn 127 = .ok (.invokestatic 107, 3) := by decide +kernel
theorem dX7_goOn_130 : decode cX7_goOn 130 = .ok (.istore 12, 2) := by decide +kernel
theorem dX7_goOn_132 : decode cX7_goOn 132 = .ok (.aload_n 0, 1) := by decide +kernel
theorem dX7_goOn_133 : decode cX7_goOn 133 = .ok (.getfield 27, 3) := by decide +kernel
theorem dX7_goOn_136 : decode cX7_goOn 136 = .ok (.iload 8, 2) := by decide +kernel
theorem dX7_goOn_138 : decode cX7_goOn 138 = .ok (.iload_n 3, 1) := by decide +kernel
theorem dX7_goOn_139 : decode cX7_goOn 139 = .ok (.iload 12, 2) := by decide +kernel
theorem dX7_goOn_141 : decode cX7_goOn 141 = .ok (.invokevirtual 111, 3) := by decide +kernel
theorem dX7_goOn_144 : decode cX7_goOn 144 = .ok (.istore 13, 2) := by decide +kernel
theorem dX7_goOn_146 : decode cX7_goOn 146 = .ok (.iconst 0, 1) := by decide +kernel
theorem dX7_goOn_147 : decode cX7_goOn 147 = .ok (.iload 13, 2) := by decide +kernel
theorem dX7_goOn_149 : decode cX7_goOn 149 = .ok (.aload 11, 2) := by decide +kernel
theorem dX7_goOn_15 : decode cX7_goOn 15 = .ok (.aload_n 0, 1) := by decide +kernel
theorem dX7_goOn_151 : decode cX7_goOn 151 = .ok (.getfield 136, 3) := by decide +kernel
theorem dX7_goOn_154 : decode cX7_goOn 154 = .ok (.isub, 1) := by decide +kernel
theorem dX7_goOn_155 : decode cX7_goOn 155 = .ok (.invokestatic 139, 3) := by decide +kernel
theorem dX7_goOn_158 : decode cX7_goOn 158 = .ok (.istore 14, 2) := by decide +kernel
theorem dX7_goOn_16 : decode cX7_goOn 16 = .ok (.iload 5, 2) := by decide +kernel
theorem dX7_goOn_160 : decode cX7_goOn 160 = .ok (.aload_n 0, 1) := by decide +kernel
theorem dX7_goOn_161 : decode cX7_goOn 161 = .ok (.getfield 21, 3) := by decide +kernel
theorem dX7_goOn_164 : decode cX7_goOn 164 = .ok (.iload 7, 2) := by decide +kernel
theorem dX7_goOn_166 : decode cX7_goOn 166 = .ok (.iload 10, 2) := by decide +kernel
theorem dX7_goOn_168 : decode cX7_goOn 168 = .ok (.iastore, 1) := by decide +kernel
theorem dX7_goOn_169 : decode cX7_goOn 169 = .ok (.aload_n 0, 1) := by decide +kernel
theorem dX7_goOn_170 : decode cX7_goOn 170 = .ok (.iload_n 1, 1) := by decide +kernel
theorem dX7_goOn_171 : decode cX7_goOn 171 = .ok (.iload_n 2, 1) := by decide +kernel
theorem dX7_goOn_172 : decode cX7_goOn 172 = .ok (.iconst 1, 1) := by decide +kernel
theorem dX7_goOn_173 : decode cX7_goOn 173 = .ok (.iload 9, 2) := by decide +kernel
theorem dX7_goOn_175 : decode cX7_goOn 175 = .ok (.ishl, 1) := by decide +kernel
theorem dX7_goOn_176 : decode cX7_goOn 176 = .ok (.iconst (-1), 1) := by decide +kernel
theorem dX7_goOn_177 : decode cX7_goOn 177 = .ok (.ixor, 1) := by decide +kernel
theorem dX7_goOn_178 : decode cX7_goOn 178 = .ok (.iand, 1) := by decide +kernel
theorem dX7_goOn_179 : decode cX7_goOn 179 = .ok (.iload 13, 2) := by decide +kernel
theorem dX7_goOn_18 : decode cX7_goOn 18 = .ok (.iload 6, 2) := by decide +kernel
theorem dX7_goOn_181 : decode cX7_goOn 181 = .ok (.iload 4, 2) := by decide +kernel
theorem dX7_goOn_183 : decode cX7_goOn 183 = .ok (.aload 11, 2) := by decide +kernel
theorem dX7_goOn_185 : decode cX7_goOn 185 = .ok (.getfield 118, 3) := by decide +kernel
theorem dX7_goOn_188 : decode cX7_goOn 188 = .ok (.ior, 1) := by decide +kernel
theorem dX7_goOn_189 : decode cX7_goOn 189 = .ok (.iload 5, 2) := by decide +kernel
theorem dX7_goOn_191 : decode cX7_goOn 191 = .ok (.iload 14, 2) := by decide +kernel
theorem dX7_goOn_193 : decode cX7_goOn 193 = .ok (.ifCond .le 7, 3) := by decide +kernel
theorem dX7_goOn_196 : decode cX7_goOn 196 = .ok (.iconst 1, 1) := by decide +kernel
theorem dX7_goOn_197 : decode cX7_goOn 197 = .ok (.goto 4, 3) := by decide +kernel
theorem dX7_goOn_2 : decode cX7_goOn 2 = .ok (.bipush 8, 2) := by decide +kernel
theorem dX7_goOn_20 : decode cX7_goOn 20 = .ok (.invokevirtual 126, 3) := by decide +kernel
theorem dX7_goOn_200 : decode cX7_goOn 200 = .ok (.iconst 0, 1) := by decide +kernel
theorem dX7_goOn_201 : decode cX7_goOn 201 = .ok (.iadd, 1) := by decide +kernel
theorem dX7_goOn_202 : decode cX7_goOn 202 = .ok (.iload 6, 2) := by decide +kernel
theorem dX7_goOn_204 : decode cX7_goOn 204 = .ok (.iload 14, 2) := by decide +kernel
theorem dX7_goOn_206 : decode cX7_goOn 206 = .ok (.iadd, 1) := by decide +kernel
theorem dX7_goOn_207 : decode cX7_goOn 207 = .ok (.iload 7, 2) := by decide +kernel
theorem dX7_goOn_209 : decode cX7_goOn 209 = .ok (.iconst 1, 1) := by decide +kernel
theorem dX7_goOn_210 : decode cX7_goOn 210 = .ok (.iadd, 1) := by decide +kernel
theorem dX7_goOn_211 : decode cX7_goOn 211 = .ok (.invokevirtual 122, 3) := by decide +kernel
theorem dX7_goOn_214 : decode cX7_goOn 214 = .ok (.iinc 9 1, 3) := by decide +kernel
theorem dX7_goOn_217 : decode cX7_goOn 217 = .ok (.goto (-155), 3) := by decide +kernel
theorem dX7_goOn_220 : decode cX7_goOn 220 = .ok (.return_, 1) := by decide +kernel
theorem dX7_goOn_23 : decode cX7_goOn 23 = .ok (.ifCond .ne 4, 3) := by decide +kernel
theorem dX7_goOn_26 : decode cX7_goOn 26 = .ok (.return_, 1) := by decide +kernel
theorem dX7_goOn_27 : decode cX7_goOn 27 = .ok (.aload_n 0, 1) := by decide +kernel
theorem dX7_goOn_28 : decode cX7_goOn 28 = .ok (.getfield 21, 3) := by decide +kernel
theorem dX7_goOn_31 : decode cX7_goOn 31 = .ok (.iload 7, 2) := by decide +kernel
theorem dX7_goOn_33 : decode cX7_goOn 33 = .ok (.iconst (-1), 1) := by decide +kernel
theorem dX7_goOn_34 : decode cX7_goOn 34 = .ok (.iastore, 1) := by decide +kernel
theorem dX7_goOn_35 : decode cX7_goOn 35 = .ok (.aload_n 0, 1) := by decide +kernel
theorem dX7_goOn_36 : decode cX7_goOn 36 = .ok (.iload_n 1, 1) := by decide +kernel
theorem dX7_goOn_37 : decode cX7_goOn 37 = .ok (.iconst 1, 1) := by decide +kernel
theorem dX7_goOn_38 : decode cX7_goOn 38 = .ok (.iadd, 1) := by decide +kernel
theorem dX7_goOn_39 : decode cX7_goOn 39 = .ok (.iload_n 2, 1) := by decide +kernel
theorem dX7_goOn_4 : decode cX7_goOn 4 = .ok (.if_icmp .ge 22, 3) := by decide +kernel
theorem dX7_goOn_40 : decode cX7_goOn 40 = .ok (.iload 5, 2) := by decide +kernel
theorem dX7_goOn_42 : decode cX7_goOn 42 = .ok (.iload 6, 2) := by decide +kernel
theorem dX7_goOn_44 : decode cX7_goOn 44 = .ok (.iload 7, 2) := by decide +kernel
theorem dX7_goOn_46 : decode cX7_goOn 46 = .ok (.iconst 1, 1) := by decide +kernel
theorem dX7_goOn_47 : decode cX7_goOn 47 = .ok (.iadd, 1) := by decide +kernel
theorem dX7_goOn_48 : decode cX7_goOn 48 = .ok (.invokevirtual 63, 3) := by decide +kernel
theorem dX7_goOn_51 : decode cX7_goOn 51 = .ok (.aload_n 0, 1) := by decide +kernel
theorem dX7_goOn_52 : decode cX7_goOn 52 = .ok (.getfield 15, 3) := by decide +kernel
theorem dX7_goOn_55 : decode cX7_goOn 55 = .ok (.iload_n 1, 1) := by decide +kernel
theorem dX7_goOn_56 : decode cX7_goOn 56 = .ok (.iaload, 1) := by decide +kernel
theorem dX7_goOn_57 : decode cX7_goOn 57 = .ok (.istore 8, 2) := by decide +kernel
theorem dX7_goOn_59 : decode cX7_goOn 59 = .ok (.iconst 0, 1) := by decide +kernel
theorem dX7_goOn_60 : decode cX7_goOn 60 = .ok (.istore 9, 2) := by decide +kernel
theorem dX7_goOn_62 : decode cX7_goOn 62 = .ok (.iload 9, 2) := by decide +kernel
theorem dX7_goOn_64 : decode cX7_goOn 64 = .ok (.aload_n 0, 1) := by decide +kernel
theorem dX7_goOn_65 : decode cX7_goOn 65 = .ok (.getfield 42, 3) := by decide +kernel
theorem dX7_goOn_68 : decode cX7_goOn 68 = .ok (.if_icmp .ge 152, 3) := by decide +kernel
theorem dX7_goOn_7 : decode cX7_goOn 7 = .ok (.iload_n 1, 1) := by decide +kernel
theorem dX7_goOn_71 : decode cX7_goOn 71 = .ok (.iload_n 2, 1) := by decide +kernel
theorem dX7_goOn_72 : decode cX7_goOn 72 = .ok (.aload_n 0, 1) := by decide +kernel
theorem dX7_goOn_73 : decode cX7_goOn 73 = .ok (.getfield 18, 3) := by decide +kernel
theorem dX7_goOn_76 : decode cX7_goOn 76 = .ok (.iload_n 1, 1) := by decide +kernel
theorem dX7_goOn_77 : decode cX7_goOn 77 = .ok (.iaload, 1) := by decide +kernel
theorem dX7_goOn_78 : decode cX7_goOn 78 = .ok (.iand, 1) := by decide +kernel
theorem dX7_goOn_79 : decode cX7_goOn 79 = .ok (.iload 9, 2) := by decide +kernel
theorem dX7_goOn_8 : decode cX7_goOn 8 = .ok (.aload_n 0, 1) := by decide +kernel
theorem dX7_goOn_81 : decode cX7_goOn 81 = .ok (.ishr, 1) := by decide +kernel
theorem dX7_goOn_82 : decode cX7_goOn 82 = .ok (.iconst 1, 1) := by decide +kernel
theorem dX7_goOn_83 : decode cX7_goOn 83 = .ok (.iand, 1) := by decide +kernel
theorem dX7_goOn_84 : decode cX7_goOn 84 = .ok (.iconst 1, 1) := by decide +kernel
theorem dX7_goOn_85 : decode cX7_goOn 85 = .ok (.if_icmp .ne 129, 3) := by decide +kernel
theorem dX7_goOn_88 : decode cX7_goOn 88 = .ok (.aload_n 0, 1) := by decide +kernel
theorem dX7_goOn_89 : decode cX7_goOn 89 = .ok (.getfield 9, 3) := by decide +kernel
theorem dX7_goOn_9 : decode cX7_goOn 9 = .ok (.getfield 78, 3) := by decide +kernel
theorem dX7_goOn_92 : decode cX7_goOn 92 = .ok (.iload 9, 2) := by decide +kernel
theorem dX7_goOn_94 : decode cX7_goOn 94 = .ok (.iaload, 1) := by decide +kernel
theorem dX7_goOn_95 : decode cX7_goOn 95 = .ok (.istore 10, 2) := by decide +kernel
theorem dX7_goOn_97 : decode cX7_goOn 97 = .ok (.aload_n 0, 1) := by decide +kernel
theorem dX7_goOn_98 : decode cX7_goOn 98 = .ok (.getfield 27, 3) := by decide +kernel
theorem dX7_keep_0 : decode cX7_keep 0 = .ok (.aload_n 0, 1) := by decide +kernel
theorem dX7_keep_1 : decode cX7_keep 1 = .ok (.iload_n 1, 1) := by decide +kernel
theorem dX7_keep_10 : decode cX7_keep 10 = .ok (.iconst 1, 1) := by decide +kernel
theorem dX7_keep_11 : decode cX7_keep 11 = .ok (.putfield 50, 3) := by decide +kernel
theorem dX7_keep_14 : decode cX7_keep 14 = .ok (.aload_n 0, 1) := by decide +kernel
theorem dX7_keep_15 : decode cX7_keep 15 = .ok (.iload_n 1, 1) := by decide +kernel
theorem dX7_keep_16 : decode cX7_keep 16 = .ok (.putfield 57, 3) := by decide +kernel
theorem dX7_keep_19 : decode cX7_keep 19 = .ok (.aload_n 0, 1) := by decide +kernel
theorem dX7_keep_2 : decode cX7_keep 2 = .ok (.iload_n 2, 1) := by decide +kernel
theorem dX7_keep_20 : decode cX7_keep 20 = .ok (.iload_n 2, 1) := by decide +kernel
theorem dX7_keep_21 : decode cX7_keep 21 = .ok (.putfield 60, 3) := by decide +kernel
theorem dX7_keep_24 : decode cX7_keep 24 = .ok (.aload_n 0, 1) := by decide +kernel
theorem dX7_keep_25 : decode cX7_keep 25 = .ok (.iload_n 3, 1) := by decide +kernel
theorem dX7_keep_26 : decode cX7_keep 26 = .ok (.putfield 54, 3) := by decide +kernel
theorem dX7_keep_29 : decode cX7_keep 29 = .ok (.aload_n 0, 1) := by decide +kernel
theorem dX7_keep_3 : decode cX7_keep 3 = .ok (.invokevirtual 126, 3) := by decide +kernel
theorem dX7_keep_30 : decode cX7_keep 30 = .ok (.getfield 21, 3) := by decide +kernel
theorem dX7_keep_33 : decode cX7_keep 33 = .ok (.iconst 0, 1) := by decide +kernel
theorem dX7_keep_34 : decode cX7_keep 34 = .ok (.aload_n 0, 1) := by decide +kernel
theorem dX7_keep_35 : decode cX7_keep 35 = .ok (.getfield 24, 3) := by decide +kernel
theorem dX7_keep_38 : decode cX7_keep 38 = .ok (.iconst 0, 1) := by decide +kernel
theorem dX7_keep_39 : decode cX7_keep 39 = .ok (.iload_n 3, 1) := by decide +kernel
theorem dX7_keep_40 : decode cX7_keep 40 = .ok (.invokestatic 144, 3) := by decide +kernel
theorem dX7_keep_43 : decode cX7_keep 43 = .ok (.return_, 1) := by decide +kernel
theorem dX7_keep_6 : decode cX7_keep 6 = .ok (.ifCond .eq 37, 3) := by decide +kernel
theorem dX7_keep_9 : decode cX7_keep 9 = .ok (.aload_n 0, 1) := by decide +kernel
theorem dX8_codeRead_0 : decode cX8_codeRead 0 = .ok (.aload_n 0, 1) := by decide +kernel
theorem dX8_codeRead_1 : decode cX8_codeRead 1 = .ok (.getfield 11, 3) := by decide +kernel
theorem dX8_codeRead_11 : decode cX8_codeRead 11 = .ok (.areturn, 1) := by decide +kernel
theorem dX8_codeRead_4 : decode cX8_codeRead 4 = .ok (.aload_n 0, 1) := by decide +kernel
theorem dX8_codeRead_5 : decode cX8_codeRead 5 = .ok (.getfield 19, 3) := by decide +kernel
theorem dX8_codeRead_8 : decode cX8_codeRead 8 = .ok (.invokestatic 57, 3) := by decide +kernel
theorem dX9_init_0 : decode cX9_init 0 = .ok (.aload_n 0, 1) := by decide +kernel
theorem dX9_init_1 : decode cX9_init 1 = .ok (.invokespecial 1, 3) := by decide +kernel
theorem dX9_init_10 : decode cX9_init 10 = .ok (.iload_n 2, 1) := by decide +kernel
theorem dX9_init_11 : decode cX9_init 11 = .ok (.putfield 13, 3) := by decide +kernel
theorem dX9_init_14 : decode cX9_init 14 = .ok (.aload_n 0, 1) := by decide +kernel
theorem dX9_init_15 : decode cX9_init 15 = .ok (.aload_n 3, 1) := by decide +kernel
theorem dX9_init_16 : decode cX9_init 16 = .ok (.putfield 16, 3) := by decide +kernel
theorem dX9_init_19 : decode cX9_init 19 = .ok (.return_, 1) := by decide +kernel
theorem dX9_init_4 : decode cX9_init 4 = .ok (.aload_n 0, 1) := by decide +kernel
theorem dX9_init_5 : decode cX9_init 5 = .ok (.iload_n 1, 1) := by decide +kernel
theorem dX9_init_6 : decode cX9_init 6 = .ok (.putfield 7, 3) := by decide +kernel
theorem dX9_init_9 : decode cX9_init 9 = .ok (.aload_n 0, 1) := by decide +kernel
def wo_c_keep : List Cond := [.methodLink RX7 126 yX7_isBetter, .instanceMethod yX7_isBetter, .selects RX7 yX7_isBetter yX7_isBetter, .initialized RX7, .fieldLink RX7 50 "TypingPool$Planner" "found" "Z", .fieldLink RX7 57 "TypingPool$Planner" "bestLate" "I", .fieldLink RX7 60 "TypingPool$Planner" "bestLateness" "I", .fieldLink RX7 54 "TypingPool$Planner" "bestLength" "I", .fieldLink RX7 21 "TypingPool$Planner" "current" "[I", .fieldLink RX7 24 "TypingPool$Planner" "best" "[I", .methodLink RX7 144 arraycopyName, .native arraycopyName, .static arraycopyName, .initialized "java/lang/System"]
def wm_c_keep : List Cond := .code yX7_keep cX7_keep 4 none :: (wo_c_keep ++ (wm_c_isBetter ++ (wsX70 ++ ([] : List Cond))))
theorem gd_c_keep : ∀ w ∈ wm_c_keep, goodWord w = true := gd_c rfl (gd_a (by decide) (gd_a gd_c_isBetter (gd_a gd_wsX70 gd_nil)))
set_option maxRecDepth 20000 in
theorem im_c_keep : ∀ w ∈ wm_c_keep, w ∈ lw_tbl := im_c (in_r [.code yX7_keep cX7_keep 4 none] [1046] (by decide +kernel)) (in_app (in_r wo_c_keep [1047, 1049, 23, 85, 531, 527, 529, 525, 522, 523, 1051, 378, 377, 82] (by decide +kernel)) (in_app im_c_isBetter (in_app im_wsX70 im_nil)))
set_option maxHeartbeats 4000000 in
set_option maxRecDepth 100000 in
theorem c_keep (l : Launch) (dC : Nat → ClassId) (dI : Nat → Nat → Nat) (ad av : Nat → Nat) (sz : Nat) (a : Nat → Nat) (k : Nat → ClassId) (τ ln : Nat → Nat) (y : Nat → Nat → Int32) (g : Nat → Nat → Option Nat) (u : Nat → Int) (p0 : Int32) (p1 : Int32) (p2 : Int32) (hI : IC a u τ ln y g) (g9 : 0 ≤ (y (a 6) 9).toInt ∧ (y (a 6) 9).toInt ≤ 8) (hl2 : 0 ≤ p2.toInt) (hu2 : p2.toInt ≤ 8) : Met l yX7_keep wm_c_keep ({ frames := 2, cells := 0, slots := 0, locals := 120 }) (pw_ ad av (dC, dI) sz [.ref (a 6), .int p0, .int p1, .int p2] a k τ ln y g) (va_Qv (fun (_ : Unit) => True) (fun (_ : Unit) (t : State) => (∃ (y' : Nat → Nat → Int32), ag τ [16, 55] y y' ∧ (y' (a 6) 3).toInt = (y (a 6) 3).toInt ∧ (y' (a 6) 5).toInt = (y (a 6) 5).toInt ∧ (0 ≤ (y' (a 6) 9).toInt ∧ (y' (a 6) 9).toInt ≤ 8) ∧ tw (dC, dI) a k τ ln y' g t.heap)) (fr τ sz)) 0 0 (fr τ sz) := by
  refine Met.ofW (cc := cX7_keep) (maxL := 4) (ret := none) (by decide) rfl ?_
  intro p e s m args below meth c s₁ B hml hv
  obtain ⟨rfl, hsz, hT, hK, hM⟩ := hv
  have hx := B.exec
  have hb := B.bytes
  have hr := B.returns
  have hts := atoms_spec (ws := wm_c_keep) B.pre
  have hown : s.vm.findClass RX7 = some m.cls := findClass_of_methodNamed B.named
  have hlocks := B.notSynchronized
  subst hsz
  generalize hAe : fr τ s.heap.size = A at hM ⊢
  have hA : ∀ q : Nat, s.heap.size ≤ q → A q := fun q h => by rw [← hAe]; exact Or.inr h
  have hF : ∀ q, τ q ≠ 0 → A q := fun q h => by rw [← hAe]; exact Or.inl h
  have hS : va_S A s.heap s.heap [] := va_S.rf
  have hX := hI.1
  have hR := ic_r hI
  have hG : ag τ [16, 55] y y := ag.rf
  have hl := lv_entry ([.ref (a 6), .int p0, .int p1, .int p2]) (n := 4) (Nat.le_of_ble_eq_true rfl)
  rw [lg_entry_eq]
  generalize (lg_sl ([.ref (a 6), .int p0, .int p1, .int p2]) ++ List.replicate (4 - (lg_sl ([.ref (a 6), .int p0, .int p1, .int p2])).length) Slot.unset).toArray = ls at hl ⊢
  have hl : lv_has ls 4 [(0, .ref (a 6)), (1, .int p0), (2, .int p1), (3, .int p2)] := hl
  refine lv_aload_n hx hb dX7_keep_0 rfl (lv_at hl 0 rfl) ?_
  refine lv_iload_n hx hb dX7_keep_1 rfl (lv_at hl 1 rfl) ?_
  refine lv_iload_n hx hb dX7_keep_2 rfl (lv_at hl 2 rfl) ?_
  have hFc := tw_free hF hS hA
  refine va_calli (va_runV (As := [.int p0, .int p1]) (rest := []) ⟨hx, hb, hml, hown, hts⟩ (c_isBetter l dC dI ad av s.heap.size a k τ ln y g u p0 p1 hI ) (cwV 2 hts (gi_4 (List.mem_cons_of_mem _ (List.mem_append_left _ (List.mem_of_getElem? (i := 0) rfl))) (List.mem_cons_of_mem _ (List.mem_append_left _ (List.mem_of_getElem? (i := 1) rfl))) (List.mem_cons_of_mem _ (List.mem_append_left _ (List.mem_of_getElem? (i := 2) rfl))) (List.mem_cons_of_mem _ (List.mem_append_left _ (List.mem_of_getElem? (i := 3) rfl))) (fun _ hh => (List.mem_cons_of_mem _ (List.mem_append_right _ (List.mem_append_left _ hh)))) gd_c_isBetter) rfl rfl rfl (by decide +kernel) ⟨Nat.le_of_ble_eq_true rfl, Nat.le_of_ble_eq_true rfl⟩) ⟨pw_blind, tw_recv hK hT (fx_6 hX) (by decide) cl_e16 rfl, pw_use hT hK hFc hS hM⟩ rfl rfl hl.1 rfl (lv_room (Nat.le_of_ble_eq_true rfl)) dX7_keep_3 ⟨Nat.le_of_ble_eq_true rfl, Nat.le_of_ble_eq_true rfl⟩) hS (fun q _ h => hFc q h) hFc (fun r0 r_1 t H locs ht hvm hw hB hz1 hk1 hS => ?_)
  refine W.widen (k := 0) (n := 0) (Nat.le_of_ble_eq_true rfl) (Nat.le_of_ble_eq_true rfl) ?_
  clear hvm hz1 hk1
  subst hw
  rcases hB with ⟨hre, hT⟩ | ⟨hre, hT⟩
  · refine lq_top (v := 1) hre ?_
    rw [ht] at hT
    refine lv_if_eq (tgt := 43) hx hb dX7_keep_6 (by decide) (fun c_2 => absurd c_2 (by decide)) (fun c_2 => ?_)
    refine lv_aload_n hx hb dX7_keep_9 rfl (lv_at hl 0 rfl) ?_
    refine lv_iconst (v := 1) hx hb dX7_keep_10 (by decide) ?_
    refine tw_put (D := (dC, dI)) (x := 1) (ty := .boolean) (C := RX7) (T := TX7) (N := 13) hx hb hts (fun _ hh => (List.mem_cons_of_mem _ (List.mem_append_right _ (List.mem_append_right _ (List.mem_append_left _ hh))))) tyX7 tyX7_ok nmX7 hown hK hT hF hS (fx_6 hX) (by decide) cl_e16 rfl 12 (by decide) (hts (.fieldLink RX7 50 "TypingPool$Planner" "found" "Z") (List.mem_cons_of_mem _ (List.mem_append_left _ (List.mem_of_getElem? (i := 4) rfl)))) (fun _ h9 => h9) rfl (tyX7_ok 12 (by decide)) rfl rfl (Nat.le_of_ble_eq_true rfl) rfl dX7_keep_11 (fun H locs hT hS => ?_)
    obtain ⟨y_3, hy_3, hT⟩ : ∃ z : Nat → Nat → Int32, z = up2 y (a 6) 12 (1 : Int32) ∧ tw (dC, dI) a k τ ln z g H := ⟨_, rfl, hT⟩
    have hG : ag τ [16, 55] y y_3 := by rw [hy_3]; exact hG.up (fx_6 hX) (by decide)
    have : (y_3 (a 6) 3).toInt = (y (a 6) 3).toInt := by rw [hy_3, up2_e (by decide)]
    have : (y_3 (a 6) 5).toInt = (y (a 6) 5).toInt := by rw [hy_3, up2_e (by decide)]
    have : (y_3 (a 6) 9).toInt = (y (a 6) 9).toInt := by rw [hy_3, up2_e (by decide)]
    have hI := hI.ag (S := [16]) (y' := y_3) (by rw [hy_3]; exact ag.one (fx_6 hX)) (by decide)
    refine lv_aload_n hx hb dX7_keep_14 rfl (lv_at hl 0 rfl) ?_
    refine lv_iload_n hx hb dX7_keep_15 rfl (lv_at hl 1 rfl) ?_
    refine tw_put (D := (dC, dI)) (x := p0) (ty := .int) (C := RX7) (T := TX7) (N := 13) hx hb hts (fun _ hh => (List.mem_cons_of_mem _ (List.mem_append_right _ (List.mem_append_right _ (List.mem_append_left _ hh))))) tyX7 tyX7_ok nmX7 hown hK hT hF hS (fx_6 hX) (by decide) cl_e16 rfl 10 (by decide) (hts (.fieldLink RX7 57 "TypingPool$Planner" "bestLate" "I") (List.mem_cons_of_mem _ (List.mem_append_left _ (List.mem_of_getElem? (i := 5) rfl)))) (fun _ h9 => h9) rfl (tyX7_ok 10 (by decide)) rfl rfl (Nat.le_of_ble_eq_true rfl) rfl dX7_keep_16 (fun H locs hT hS => ?_)
    obtain ⟨y_4, hy_4, hT⟩ : ∃ z : Nat → Nat → Int32, z = up2 y_3 (a 6) 10 p0 ∧ tw (dC, dI) a k τ ln z g H := ⟨_, rfl, hT⟩
    have hG : ag τ [16, 55] y y_4 := by rw [hy_4]; exact hG.up (fx_6 hX) (by decide)
    have : (y_4 (a 6) 3).toInt = (y_3 (a 6) 3).toInt := by rw [hy_4, up2_e (by decide)]
    have : (y_4 (a 6) 5).toInt = (y_3 (a 6) 5).toInt := by rw [hy_4, up2_e (by decide)]
    have : (y_4 (a 6) 9).toInt = (y_3 (a 6) 9).toInt := by rw [hy_4, up2_e (by decide)]
    have hI := hI.ag (S := [16]) (y' := y_4) (by rw [hy_4]; exact ag.one (fx_6 hX)) (by decide)
    refine lv_aload_n hx hb dX7_keep_19 rfl (lv_at hl 0 rfl) ?_
    refine lv_iload_n hx hb dX7_keep_20 rfl (lv_at hl 2 rfl) ?_
    refine tw_put (D := (dC, dI)) (x := p1) (ty := .int) (C := RX7) (T := TX7) (N := 13) hx hb hts (fun _ hh => (List.mem_cons_of_mem _ (List.mem_append_right _ (List.mem_append_right _ (List.mem_append_left _ hh))))) tyX7 tyX7_ok nmX7 hown hK hT hF hS (fx_6 hX) (by decide) cl_e16 rfl 11 (by decide) (hts (.fieldLink RX7 60 "TypingPool$Planner" "bestLateness" "I") (List.mem_cons_of_mem _ (List.mem_append_left _ (List.mem_of_getElem? (i := 6) rfl)))) (fun _ h9 => h9) rfl (tyX7_ok 11 (by decide)) rfl rfl (Nat.le_of_ble_eq_true rfl) rfl dX7_keep_21 (fun H locs hT hS => ?_)
    obtain ⟨y_5, hy_5, hT⟩ : ∃ z : Nat → Nat → Int32, z = up2 y_4 (a 6) 11 p1 ∧ tw (dC, dI) a k τ ln z g H := ⟨_, rfl, hT⟩
    have hG : ag τ [16, 55] y y_5 := by rw [hy_5]; exact hG.up (fx_6 hX) (by decide)
    have : (y_5 (a 6) 3).toInt = (y_4 (a 6) 3).toInt := by rw [hy_5, up2_e (by decide)]
    have : (y_5 (a 6) 5).toInt = (y_4 (a 6) 5).toInt := by rw [hy_5, up2_e (by decide)]
    have : (y_5 (a 6) 9).toInt = (y_4 (a 6) 9).toInt := by rw [hy_5, up2_e (by decide)]
    have hI := hI.ag (S := [16]) (y' := y_5) (by rw [hy_5]; exact ag.one (fx_6 hX)) (by decide)
    refine lv_aload_n hx hb dX7_keep_24 rfl (lv_at hl 0 rfl) ?_
    refine lv_iload_n hx hb dX7_keep_25 rfl (lv_at hl 3 rfl) ?_
    refine tw_put (D := (dC, dI)) (x := p2) (ty := .int) (C := RX7) (T := TX7) (N := 13) hx hb hts (fun _ hh => (List.mem_cons_of_mem _ (List.mem_append_right _ (List.mem_append_right _ (List.mem_append_left _ hh))))) tyX7 tyX7_ok nmX7 hown hK hT hF hS (fx_6 hX) (by decide) cl_e16 rfl 9 (by decide) (hts (.fieldLink RX7 54 "TypingPool$Planner" "bestLength" "I") (List.mem_cons_of_mem _ (List.mem_append_left _ (List.mem_of_getElem? (i := 7) rfl)))) (fun _ h9 => h9) rfl (tyX7_ok 9 (by decide)) rfl rfl (Nat.le_of_ble_eq_true rfl) rfl dX7_keep_26 (fun H locs hT hS => ?_)
    obtain ⟨y_6, hy_6, hT⟩ : ∃ z : Nat → Nat → Int32, z = up2 y_5 (a 6) 9 p2 ∧ tw (dC, dI) a k τ ln z g H := ⟨_, rfl, hT⟩
    have hG : ag τ [16, 55] y y_6 := by rw [hy_6]; exact hG.up (fx_6 hX) (by decide)
    have : (y_6 (a 6) 3).toInt = (y_5 (a 6) 3).toInt := by rw [hy_6, up2_e (by decide)]
    have : (y_6 (a 6) 5).toInt = (y_5 (a 6) 5).toInt := by rw [hy_6, up2_e (by decide)]
    have : (y_6 (a 6) 9).toInt = p2.toInt := (congrArg Int32.toInt (show y_6 (a 6) 9 = p2 from by rw [hy_6]; exact up2_i)).trans rfl
    have hI := hI.ag (S := [16]) (y' := y_6) (by rw [hy_6]; exact ag.one (fx_6 hX)) (by decide)
    refine lv_aload_n hx hb dX7_keep_29 rfl (lv_at hl 0 rfl) ?_
    refine tw_get (D := (dC, dI)) (v := .ref (a 44)) (C := RX7) (T := TX7) (N := 13) hx hb hts (fun _ hh => (List.mem_cons_of_mem _ (List.mem_append_right _ (List.mem_append_right _ (List.mem_append_left _ hh))))) hown hK hT (fx_6 hX) (by decide) cl_e16 rfl 7 (by decide) (hts (.fieldLink RX7 21 "TypingPool$Planner" "current" "[I") (List.mem_cons_of_mem _ (List.mem_append_left _ (List.mem_of_getElem? (i := 8) rfl)))) (fun _ h9 => h9) rfl dX7_keep_30 ?_
    refine lv_iconst (v := 0) hx hb dX7_keep_33 (by decide) ?_
    refine lv_aload_n hx hb dX7_keep_34 rfl (lv_at hl 0 rfl) ?_
    refine tw_get (D := (dC, dI)) (v := .ref (a 45)) (C := RX7) (T := TX7) (N := 13) hx hb hts (fun _ hh => (List.mem_cons_of_mem _ (List.mem_append_right _ (List.mem_append_right _ (List.mem_append_left _ hh))))) hown hK hT (fx_6 hX) (by decide) cl_e16 rfl 8 (by decide) (hts (.fieldLink RX7 24 "TypingPool$Planner" "best" "[I") (List.mem_cons_of_mem _ (List.mem_append_left _ (List.mem_of_getElem? (i := 9) rfl)))) (fun _ h9 => h9) rfl dX7_keep_35 ?_
    refine lv_iconst (v := 0) hx hb dX7_keep_38 (by decide) ?_
    refine lv_iload_n hx hb dX7_keep_39 rfl (lv_at hl 3 rfl) ?_
    have hcn0 : p2.toInt = p2.toInt := rfl
    refine tw_copy (n := p2) hx hb (by rw [hml]; exact hl.1.symm) hown (hts (.methodLink RX7 144 arraycopyName) (List.mem_cons_of_mem _ (List.mem_append_left _ (List.mem_of_getElem? (i := 10) rfl)))) (hts (.native arraycopyName) (List.mem_cons_of_mem _ (List.mem_append_left _ (List.mem_of_getElem? (i := 11) rfl)))) (hts (.static arraycopyName) (List.mem_cons_of_mem _ (List.mem_append_left _ (List.mem_of_getElem? (i := 12) rfl)))) (hts (.initialized "java/lang/System") (List.mem_cons_of_mem _ (List.mem_append_left _ (List.mem_of_getElem? (i := 13) rfl)))) hK hT hF hS (fx_44 hX) (by decide) cl_e54 (fx_45 hX) (by decide) (fun _ => cl_e55) (by decide) (by decide) (cp_n0 rfl (by omega)) (cp_le rfl (by omega) (by omega)) (cp_le rfl (by omega) (by omega)) (Nat.le_of_ble_eq_true rfl) (Nat.le_of_ble_eq_true rfl) dX7_keep_40 (fun H locs hT hS => ?_)
    obtain ⟨y_7, hy_7, hT⟩ : ∃ z : Nat → Nat → Int32, ag τ [55] y_6 z ∧ tw (dC, dI) a k τ ln z g H := ⟨_, ag_nw (fx_45 hX), hT⟩
    have hG := hG.tr hy_7 (by decide)
    have hI := hI.ag hy_7 (by decide)
    have : (y_7 (a 6) 3).toInt = (y_6 (a 6) 3).toInt := by rw [hy_7.at (fx_6 hX) (by decide)]
    have : (y_7 (a 6) 5).toInt = (y_6 (a 6) 5).toInt := by rw [hy_7.at (fx_6 hX) (by decide)]
    have : (y_7 (a 6) 9).toInt = (y_6 (a 6) 9).toInt := by rw [hy_7.at (fx_6 hX) (by decide)]
    exact W.vret hx hb hr (fun t ht hW9 => ⟨⟨(), rfl, trivial, ⟨y_7, hG, by omega, by omega, by omega, tw_at ht hT⟩⟩, hS.F ht⟩) hS.2.2 dX7_keep_43
  · refine lq_top (v := 0) hre ?_
    rw [ht] at hT
    refine lv_if_eq (tgt := 43) hx hb dX7_keep_6 (by decide) (fun c_8 => ?_) (fun c_8 => absurd c_8 (by decide))
    exact W.vret hx hb hr (fun t ht hW9 => ⟨⟨(), rfl, trivial, ⟨y, hG, by omega, by omega, by omega, tw_at ht hT⟩⟩, hS.F ht⟩) hS.2.2 dX7_keep_43
def wo_c_goOn8 : List Cond := []
def wm_c_goOn8 : List Cond := .code yX7_goOn cX7_goOn 15 none :: (wo_c_goOn8 ++ ([] : List Cond))
theorem gd_c_goOn8 : ∀ w ∈ wm_c_goOn8, goodWord w = true := gd_c rfl (gd_a (by decide) gd_nil)
set_option maxRecDepth 20000 in
theorem im_c_goOn8 : ∀ w ∈ wm_c_goOn8, w ∈ lw_tbl := im_c (in_r [.code yX7_goOn cX7_goOn 15 none] [1060] (by decide +kernel)) (in_app (in_r wo_c_goOn8 [] (by decide +kernel)) im_nil)
set_option maxHeartbeats 4000000 in
set_option maxRecDepth 100000 in
theorem c_goOn8 (l : Launch) (dC : Nat → ClassId) (dI : Nat → Nat → Nat) (ad av : Nat → Nat) (sz : Nat) (a : Nat → Nat) (k : Nat → ClassId) (τ ln : Nat → Nat) (y : Nat → Nat → Int32) (g : Nat → Nat → Option Nat) (u : Nat → Int) (p0 : Int32) (p1 : Int32) (p2 : Int32) (p3 : Int32) (p4 : Int32) (p5 : Int32) (p6 : Int32) (nP : Int) (nH : Int) (hI : IC a u τ ln y g) (g3 : (y (a 6) 3).toInt = nP) (g5 : (y (a 6) 5).toInt = nH) (gn : (0 ≤ nP ∧ nP ≤ 5) ∧ 0 ≤ nH ∧ nH ≤ 3) (gp : vl nP (u 2) (y (a 41))) (gh : vl nH (u 1) (y (a 42))) (g9 : 0 ≤ (y (a 6) 9).toInt ∧ (y (a 6) 9).toInt ≤ 8) (hp0 : 0 ≤ p0.toInt) (hlen : p6.toInt = 8) : Met l yX7_goOn wm_c_goOn8 ({ frames := 0, cells := 0, slots := 0, locals := 0 }) (pw_ ad av (dC, dI) sz [.ref (a 6), .int p0, .int p1, .int p2, .int p3, .int p4, .int p5, .int p6] a k τ ln y g) (va_Qv (fun (_ : Unit) => True) (fun (_ : Unit) (t : State) => (∃ (y' : Nat → Nat → Int32), ag τ [16, 54, 55] y y' ∧ (y' (a 6) 3).toInt = (y (a 6) 3).toInt ∧ (y' (a 6) 5).toInt = (y (a 6) 5).toInt ∧ (0 ≤ (y' (a 6) 9).toInt ∧ (y' (a 6) 9).toInt ≤ 8) ∧ tw (dC, dI) a k τ ln y' g t.heap)) (fr τ sz)) 0 0 (fr τ sz) := by
  refine Met.ofW (cc := cX7_goOn) (maxL := 15) (ret := none) (by decide) rfl ?_
  intro p e s m args below meth c s₁ B hml hv
  obtain ⟨rfl, hsz, hT, hK, hM⟩ := hv
  have hx := B.exec
  have hb := B.bytes
  have hr := B.returns
  have hts := atoms_spec (ws := wm_c_goOn8) B.pre
  have hown : s.vm.findClass RX7 = some m.cls := findClass_of_methodNamed B.named
  have hlocks := B.notSynchronized
  subst hsz
  generalize hAe : fr τ s.heap.size = A at hM ⊢
  have hA : ∀ q : Nat, s.heap.size ≤ q → A q := fun q h => by rw [← hAe]; exact Or.inr h
  have hF : ∀ q, τ q ≠ 0 → A q := fun q h => by rw [← hAe]; exact Or.inl h
  have hS : va_S A s.heap s.heap [] := va_S.rf
  have hX := hI.1
  have hR := ic_r hI
  have hG : ag τ [16, 54, 55] y y := ag.rf
  have hl := lv_entry ([.ref (a 6), .int p0, .int p1, .int p2, .int p3, .int p4, .int p5, .int p6]) (n := 15) (Nat.le_of_ble_eq_true rfl)
  rw [lg_entry_eq]
  generalize (lg_sl ([.ref (a 6), .int p0, .int p1, .int p2, .int p3, .int p4, .int p5, .int p6]) ++ List.replicate (15 - (lg_sl ([.ref (a 6), .int p0, .int p1, .int p2, .int p3, .int p4, .int p5, .int p6])).length) Slot.unset).toArray = ls at hl ⊢
  have hl : lv_has ls 15 [(0, .ref (a 6)), (1, .int p0), (2, .int p1), (3, .int p2), (4, .int p3), (5, .int p4), (6, .int p5), (7, .int p6)] := hl
  refine lv_iload hx hb dX7_goOn_0 (lv_at hl 7 rfl) ?_
  refine lv_bipush (v := 8) hx hb dX7_goOn_2 (by decide) ?_
  refine lv_icmp_ge (tgt := 26) hx hb dX7_goOn_4 (by decide) (fun c_1 => ?_) (fun c_1 => ?_)
  · have nc_1 := z_le (zk (x := 8) 8 rfl) rfl c_1
    exact W.vret hx hb hr (fun t ht hW9 => ⟨⟨(), rfl, trivial, ⟨y, hG, by omega, by omega, by omega, tw_at ht hT⟩⟩, hS.F ht⟩) hS.2.2 dX7_goOn_26
  · have nc_1 := z_nle (zk (x := 8) 8 rfl) rfl c_1
    exfalso; omega
def wo_c_beginHand8 : List Cond := [.fieldLink RX7 78 "TypingPool$Planner" "handCount" "I", .fieldLink RX7 15 "TypingPool$Planner" "hands" "[I", .fieldLink RX7 31 "TypingPool$Planner" "floor" "LTypingPool$Floor;", .fieldLink RX7 92 "TypingPool$Floor" "now" "I", .fieldLink RX7 95 "TypingPool$Floor" "words" "[I", .fieldLink RX7 98 "TypingPool$Floor" "has" "[I", .fieldLink RX7 27 "TypingPool$Planner" "book" "LTypingPool$Book;", .methodLink RX7 67 yX1_hasPiece, .instanceMethod yX1_hasPiece, .selects RX1 yX1_hasPiece yX1_hasPiece, .initialized RX1, .fieldLink RX7 101 "TypingPool$Floor" "workLeft" "[I", .fieldLink RX7 104 "TypingPool$Floor" "rate" "[I", .initialized RX11, .static yX11_minutesFor, .methodLink RX7 111 yX1_minuteAfterWork, .instanceMethod yX1_minuteAfterWork, .selects RX1 yX1_minuteAfterWork yX1_minuteAfterWork, .fieldLink RX7 115 "TypingPool$Book" "pieces" "[LTypingPool$Piece;", .fieldLink RX7 118 "TypingPool$Piece" "words" "I", .methodLink RX7 122 yX7_goOn, .instanceMethod yX7_goOn, .selects RX7 yX7_goOn yX7_goOn, .initialized RX7, .methodLink RX7 88 yX7_keep, .instanceMethod yX7_keep, .selects RX7 yX7_keep yX7_keep]
def wm_c_beginHand8 : List Cond := .code yX7_beginHand cX7_beginHand 11 none :: (wo_c_beginHand8 ++ (wsX70 ++ (wsX30 ++ (wm_c_hasPiece ++ (wm_c_minutesFor ++ (wm_c_minuteAfterWork ++ (wsX10 ++ (wsX60 ++ (wm_c_goOn8 ++ (wm_c_keep ++ ([] : List Cond)))))))))))
theorem gd_c_beginHand8 : ∀ w ∈ wm_c_beginHand8, goodWord w = true := gd_c rfl (gd_a (by decide) (gd_a gd_wsX70 (gd_a gd_wsX30 (gd_a gd_c_hasPiece (gd_a gd_c_minutesFor (gd_a gd_c_minuteAfterWork (gd_a gd_wsX10 (gd_a gd_wsX60 (gd_a gd_c_goOn8 (gd_a gd_c_keep gd_nil))))))))))
set_option maxRecDepth 20000 in
theorem im_c_beginHand8 : ∀ w ∈ wm_c_beginHand8, w ∈ lw_tbl := im_c (in_r [.code yX7_beginHand cX7_beginHand 11 none] [1042] (by decide +kernel)) (in_app (in_r wo_c_beginHand8 [520, 519, 516, 430, 438, 432, 515, 1027, 841, 842, 71, 450, 435, 70, 845, 1053, 1054, 1055, 128, 687, 1057, 1059, 24, 85, 1043, 1045, 22] (by decide +kernel)) (in_app im_wsX70 (in_app im_wsX30 (in_app im_c_hasPiece (in_app im_c_minutesFor (in_app im_c_minuteAfterWork (in_app im_wsX10 (in_app im_wsX60 (in_app im_c_goOn8 (in_app im_c_keep im_nil))))))))))
set_option maxHeartbeats 4000000 in
set_option maxRecDepth 100000 in
theorem c_beginHand8 (l : Launch) (dC : Nat → ClassId) (dI : Nat → Nat → Nat) (ad av : Nat → Nat) (sz : Nat) (a : Nat → Nat) (k : Nat → ClassId) (τ ln : Nat → Nat) (y : Nat → Nat → Int32) (g : Nat → Nat → Option Nat) (u : Nat → Int) (p0 : Int32) (p1 : Int32) (p2 : Int32) (p3 : Int32) (p4 : Int32) (nP : Int) (nH : Int) (hI : IC a u τ ln y g) (g3 : (y (a 6) 3).toInt = nP) (g5 : (y (a 6) 5).toInt = nH) (gn : (0 ≤ nP ∧ nP ≤ 5) ∧ 0 ≤ nH ∧ nH ≤ 3) (gp : vl nP (u 2) (y (a 41))) (gh : vl nH (u 1) (y (a 42))) (g9 : 0 ≤ (y (a 6) 9).toInt ∧ (y (a 6) 9).toInt ≤ 8) (hp0 : 0 ≤ p0.toInt) (hlen : p4.toInt = 8) : Met l yX7_beginHand wm_c_beginHand8 ({ frames := 3, cells := 0, slots := 0, locals := 180 }) (pw_ ad av (dC, dI) sz [.ref (a 6), .int p0, .int p1, .int p2, .int p3, .int p4] a k τ ln y g) (va_Qv (fun (_ : Unit) => True) (fun (_ : Unit) (t : State) => (∃ (y' : Nat → Nat → Int32), ag τ [16, 54, 55] y y' ∧ (y' (a 6) 3).toInt = (y (a 6) 3).toInt ∧ (y' (a 6) 5).toInt = (y (a 6) 5).toInt ∧ (0 ≤ (y' (a 6) 9).toInt ∧ (y' (a 6) 9).toInt ≤ 8) ∧ tw (dC, dI) a k τ ln y' g t.heap)) (fr τ sz)) 0 0 (fr τ sz) := by
  refine Met.ofW (cc := cX7_beginHand) (maxL := 11) (ret := none) (by decide) rfl ?_
  intro p e s m args below meth c s₁ B hml hv
  obtain ⟨rfl, hsz, hT, hK, hM⟩ := hv
  have hx := B.exec
  have hb := B.bytes
  have hr := B.returns
  have hts := atoms_spec (ws := wm_c_beginHand8) B.pre
  have hown : s.vm.findClass RX7 = some m.cls := findClass_of_methodNamed B.named
  have hlocks := B.notSynchronized
  subst hsz
  generalize hAe : fr τ s.heap.size = A at hM ⊢
  have hA : ∀ q : Nat, s.heap.size ≤ q → A q := fun q h => by rw [← hAe]; exact Or.inr h
  have hF : ∀ q, τ q ≠ 0 → A q := fun q h => by rw [← hAe]; exact Or.inl h
  have hS : va_S A s.heap s.heap [] := va_S.rf
  have hX := hI.1
  have hR := ic_r hI
  have hG : ag τ [16, 54, 55] y y := ag.rf
  have hl := lv_entry ([.ref (a 6), .int p0, .int p1, .int p2, .int p3, .int p4]) (n := 11) (Nat.le_of_ble_eq_true rfl)
  rw [lg_entry_eq]
  generalize (lg_sl ([.ref (a 6), .int p0, .int p1, .int p2, .int p3, .int p4]) ++ List.replicate (11 - (lg_sl ([.ref (a 6), .int p0, .int p1, .int p2, .int p3, .int p4])).length) Slot.unset).toArray = ls at hl ⊢
  have hl : lv_has ls 11 [(0, .ref (a 6)), (1, .int p0), (2, .int p1), (3, .int p2), (4, .int p3), (5, .int p4)] := hl
  refine lv_iload_n hx hb dX7_beginHand_0 rfl (lv_at hl 1 rfl) ?_
  refine lv_aload_n hx hb dX7_beginHand_1 rfl (lv_at hl 0 rfl) ?_
  refine tw_get (D := (dC, dI)) (v := .int (y (a 6) 5)) (C := RX7) (T := TX7) (N := 13) hx hb hts (fun _ hh => (List.mem_cons_of_mem _ (List.mem_append_right _ (List.mem_append_left _ hh)))) hown hK hT (fx_6 hX) (by decide) cl_e16 rfl 5 (by decide) (hts (.fieldLink RX7 78 "TypingPool$Planner" "handCount" "I") (List.mem_cons_of_mem _ (List.mem_append_left _ (List.mem_of_getElem? (i := 0) rfl)))) (fun _ h9 => h9) rfl dX7_beginHand_2 ?_
  refine lv_icmp_lt (tgt := 22) hx hb dX7_beginHand_5 (by decide) (fun c_1 => ?_) (fun c_1 => ?_)
  · have nc_1 := z_lt rfl rfl c_1
    refine lv_aload_n hx hb dX7_beginHand_22 rfl (lv_at hl 0 rfl) ?_
    refine tw_get (D := (dC, dI)) (v := .ref (a 42)) (C := RX7) (T := TX7) (N := 13) hx hb hts (fun _ hh => (List.mem_cons_of_mem _ (List.mem_append_right _ (List.mem_append_left _ hh)))) hown hK hT (fx_6 hX) (by decide) cl_e16 rfl 4 (by decide) (hts (.fieldLink RX7 15 "TypingPool$Planner" "hands" "[I") (List.mem_cons_of_mem _ (List.mem_append_left _ (List.mem_of_getElem? (i := 1) rfl)))) (fun _ h9 => h9) rfl dX7_beginHand_23 ?_
    refine lv_iload_n hx hb dX7_beginHand_26 rfl (lv_at hl 1 rfl) ?_
    refine tw_iald hx hb hK hT 0 (fx_42 hX) (by decide) cl_e52 rfl (z_in rfl (by omega) (by omega)) dX7_beginHand_27 ?_
    have hv0 : vl nH (u 1) (y (a 42)) := gh
    have hv_2 := vl_at hv0 (x := p0) rfl (by omega) (by omega)
    refine lv_istore (lv' := [(6, .int (y (a 42) p0.toNatClampNeg)), (0, .ref (a 6)), (1, .int p0), (2, .int p1), (3, .int p2), (4, .int p3), (5, .int p4)]) hx hb dX7_beginHand_28 hl (by decide) rfl (fun ls hl => ?_)
    refine lv_aload_n hx hb dX7_beginHand_30 rfl (lv_at hl 1 rfl) ?_
    refine tw_get (D := (dC, dI)) (v := .ref (a 3)) (C := RX7) (T := TX7) (N := 13) hx hb hts (fun _ hh => (List.mem_cons_of_mem _ (List.mem_append_right _ (List.mem_append_left _ hh)))) hown hK hT (fx_6 hX) (by decide) cl_e16 rfl 1 (by decide) (hts (.fieldLink RX7 31 "TypingPool$Planner" "floor" "LTypingPool$Floor;") (List.mem_cons_of_mem _ (List.mem_append_left _ (List.mem_of_getElem? (i := 2) rfl)))) (fun _ h9 => h9) rfl dX7_beginHand_31 ?_
    refine tw_get (D := (dC, dI)) (v := .int (y (a 3) 2)) (C := RX3) (T := TX3) (N := 12) hx hb hts (fun _ hh => (List.mem_cons_of_mem _ (List.mem_append_right _ (List.mem_append_right _ (List.mem_append_left _ hh))))) hown hK hT (fx_3 hX) (by decide) cl_e13 rfl 2 (by decide) (hts (.fieldLink RX7 92 "TypingPool$Floor" "now" "I") (List.mem_cons_of_mem _ (List.mem_append_left _ (List.mem_of_getElem? (i := 3) rfl)))) (fun _ h9 => h9) rfl dX7_beginHand_34 ?_
    refine lv_istore (lv' := [(7, .int (y (a 3) 2)), (6, .int (y (a 42) p0.toNatClampNeg)), (0, .ref (a 6)), (1, .int p0), (2, .int p1), (3, .int p2), (4, .int p3), (5, .int p4)]) hx hb dX7_beginHand_37 hl (by decide) rfl (fun ls hl => ?_)
    refine lv_aload_n hx hb dX7_beginHand_39 rfl (lv_at hl 2 rfl) ?_
    refine tw_get (D := (dC, dI)) (v := .ref (a 3)) (C := RX7) (T := TX7) (N := 13) hx hb hts (fun _ hh => (List.mem_cons_of_mem _ (List.mem_append_right _ (List.mem_append_left _ hh)))) hown hK hT (fx_6 hX) (by decide) cl_e16 rfl 1 (by decide) (hts (.fieldLink RX7 31 "TypingPool$Planner" "floor" "LTypingPool$Floor;") (List.mem_cons_of_mem _ (List.mem_append_left _ (List.mem_of_getElem? (i := 2) rfl)))) (fun _ h9 => h9) rfl dX7_beginHand_40 ?_
    refine tw_get (D := (dC, dI)) (v := .ref (a 22)) (C := RX3) (T := TX3) (N := 12) hx hb hts (fun _ hh => (List.mem_cons_of_mem _ (List.mem_append_right _ (List.mem_append_right _ (List.mem_append_left _ hh))))) hown hK hT (fx_3 hX) (by decide) cl_e13 rfl 5 (by decide) (hts (.fieldLink RX7 95 "TypingPool$Floor" "words" "[I") (List.mem_cons_of_mem _ (List.mem_append_left _ (List.mem_of_getElem? (i := 4) rfl)))) (fun _ h9 => h9) rfl dX7_beginHand_43 ?_
    refine lv_iload hx hb dX7_beginHand_46 (lv_at hl 1 rfl) ?_
    refine tw_iald hx hb hK hT 0 (fx_22 hX) (by decide) cl_e32 rfl (z_in rfl (by omega) (by omega)) dX7_beginHand_48 ?_
    refine lv_istore (lv' := [(8, .int (y (a 22) (y (a 42) p0.toNatClampNeg).toNatClampNeg)), (7, .int (y (a 3) 2)), (6, .int (y (a 42) p0.toNatClampNeg)), (0, .ref (a 6)), (1, .int p0), (2, .int p1), (3, .int p2), (4, .int p3), (5, .int p4)]) hx hb dX7_beginHand_49 hl (by decide) rfl (fun ls hl => ?_)
    refine lv_aload_n hx hb dX7_beginHand_51 rfl (lv_at hl 3 rfl) ?_
    refine tw_get (D := (dC, dI)) (v := .ref (a 3)) (C := RX7) (T := TX7) (N := 13) hx hb hts (fun _ hh => (List.mem_cons_of_mem _ (List.mem_append_right _ (List.mem_append_left _ hh)))) hown hK hT (fx_6 hX) (by decide) cl_e16 rfl 1 (by decide) (hts (.fieldLink RX7 31 "TypingPool$Planner" "floor" "LTypingPool$Floor;") (List.mem_cons_of_mem _ (List.mem_append_left _ (List.mem_of_getElem? (i := 2) rfl)))) (fun _ h9 => h9) rfl dX7_beginHand_52 ?_
    refine tw_get (D := (dC, dI)) (v := .ref (a 20)) (C := RX3) (T := TX3) (N := 12) hx hb hts (fun _ hh => (List.mem_cons_of_mem _ (List.mem_append_right _ (List.mem_append_right _ (List.mem_append_left _ hh))))) hown hK hT (fx_3 hX) (by decide) cl_e13 rfl 3 (by decide) (hts (.fieldLink RX7 98 "TypingPool$Floor" "has" "[I") (List.mem_cons_of_mem _ (List.mem_append_left _ (List.mem_of_getElem? (i := 5) rfl)))) (fun _ h9 => h9) rfl dX7_beginHand_55 ?_
    refine lv_iload hx hb dX7_beginHand_58 (lv_at hl 2 rfl) ?_
    refine tw_iald hx hb hK hT 0 (fx_20 hX) (by decide) cl_e30 rfl (z_in rfl (by omega) (by omega)) dX7_beginHand_60 ?_
    refine lv_istore (lv' := [(9, .int (y (a 20) (y (a 42) p0.toNatClampNeg).toNatClampNeg)), (8, .int (y (a 22) (y (a 42) p0.toNatClampNeg).toNatClampNeg)), (7, .int (y (a 3) 2)), (6, .int (y (a 42) p0.toNatClampNeg)), (0, .ref (a 6)), (1, .int p0), (2, .int p1), (3, .int p2), (4, .int p3), (5, .int p4)]) hx hb dX7_beginHand_61 hl (by decide) rfl (fun ls hl => ?_)
    refine lv_aload_n hx hb dX7_beginHand_63 rfl (lv_at hl 4 rfl) ?_
    refine tw_get (D := (dC, dI)) (v := .ref (a 1)) (C := RX7) (T := TX7) (N := 13) hx hb hts (fun _ hh => (List.mem_cons_of_mem _ (List.mem_append_right _ (List.mem_append_left _ hh)))) hown hK hT (fx_6 hX) (by decide) cl_e16 rfl 0 (by decide) (hts (.fieldLink RX7 27 "TypingPool$Planner" "book" "LTypingPool$Book;") (List.mem_cons_of_mem _ (List.mem_append_left _ (List.mem_of_getElem? (i := 6) rfl)))) (fun _ h9 => h9) rfl dX7_beginHand_64 ?_
    refine lv_iload hx hb dX7_beginHand_67 (lv_at hl 0 rfl) ?_
    have hFc := tw_free hF hS hA
    refine va_calli (va_runV (As := [.int (y (a 20) (y (a 42) p0.toNatClampNeg).toNatClampNeg)]) (rest := []) ⟨hx, hb, hml, hown, hts⟩ (c_hasPiece l dC dI ad av s.heap.size a k τ ln y g u (y (a 20) (y (a 42) p0.toNatClampNeg).toNatClampNeg) hI ) (cwV 1 hts (gi_4 (List.mem_cons_of_mem _ (List.mem_append_left _ (List.mem_of_getElem? (i := 7) rfl))) (List.mem_cons_of_mem _ (List.mem_append_left _ (List.mem_of_getElem? (i := 8) rfl))) (List.mem_cons_of_mem _ (List.mem_append_left _ (List.mem_of_getElem? (i := 9) rfl))) (List.mem_cons_of_mem _ (List.mem_append_left _ (List.mem_of_getElem? (i := 10) rfl))) (fun _ hh => (List.mem_cons_of_mem _ (List.mem_append_right _ (List.mem_append_right _ (List.mem_append_right _ (List.mem_append_left _ hh)))))) gd_c_hasPiece) rfl rfl rfl (by decide +kernel) ⟨Nat.le_of_ble_eq_true rfl, Nat.le_of_ble_eq_true rfl⟩) ⟨pw_blind, tw_recv hK hT (fx_1 hX) (by decide) cl_e11 rfl, pw_use hT hK hFc hS hM⟩ rfl rfl hl.1 rfl (lv_room (Nat.le_of_ble_eq_true rfl)) dX7_beginHand_69 ⟨Nat.le_of_ble_eq_true rfl, Nat.le_of_ble_eq_true rfl⟩) hS (fun q _ h => hFc q h) hFc (fun r0 r_3 t H locs ht hvm hw hB hz1 hk1 hS => ?_)
    refine W.widen (k := 0) (n := 0) (Nat.le_of_ble_eq_true rfl) (Nat.le_of_ble_eq_true rfl) ?_
    clear hvm hz1 hk1
    subst hw
    rcases hB with ⟨hre, hf_4, hf_5, hT⟩ | ⟨hre, hf_6, hT⟩
    · refine lq_top (v := 1) hre ?_
      rw [ht] at hT
      refine lv_if_eq (tgt := 133) hx hb dX7_beginHand_72 (by decide) (fun c_7 => absurd c_7 (by decide)) (fun c_7 => ?_)
      refine lv_aload_n hx hb dX7_beginHand_75 rfl (lv_at hl 4 rfl) ?_
      refine tw_get (D := (dC, dI)) (v := .ref (a 3)) (C := RX7) (T := TX7) (N := 13) hx hb hts (fun _ hh => (List.mem_cons_of_mem _ (List.mem_append_right _ (List.mem_append_left _ hh)))) hown hK hT (fx_6 hX) (by decide) cl_e16 rfl 1 (by decide) (hts (.fieldLink RX7 31 "TypingPool$Planner" "floor" "LTypingPool$Floor;") (List.mem_cons_of_mem _ (List.mem_append_left _ (List.mem_of_getElem? (i := 2) rfl)))) (fun _ h9 => h9) rfl dX7_beginHand_76 ?_
      refine tw_get (D := (dC, dI)) (v := .ref (a 27)) (C := RX3) (T := TX3) (N := 12) hx hb hts (fun _ hh => (List.mem_cons_of_mem _ (List.mem_append_right _ (List.mem_append_right _ (List.mem_append_left _ hh))))) hown hK hT (fx_3 hX) (by decide) cl_e13 rfl 10 (by decide) (hts (.fieldLink RX7 101 "TypingPool$Floor" "workLeft" "[I") (List.mem_cons_of_mem _ (List.mem_append_left _ (List.mem_of_getElem? (i := 11) rfl)))) (fun _ h9 => h9) rfl dX7_beginHand_79 ?_
      refine lv_iload hx hb dX7_beginHand_82 (lv_at hl 0 rfl) ?_
      refine tw_iald hx hb hK hT 0 (fx_27 hX) (by decide) cl_e37 rfl (z_in rfl (by omega) (by omega)) dX7_beginHand_84 ?_
      refine lv_aload_n hx hb dX7_beginHand_85 rfl (lv_at hl 4 rfl) ?_
      refine tw_get (D := (dC, dI)) (v := .ref (a 3)) (C := RX7) (T := TX7) (N := 13) hx hb hts (fun _ hh => (List.mem_cons_of_mem _ (List.mem_append_right _ (List.mem_append_left _ hh)))) hown hK hT (fx_6 hX) (by decide) cl_e16 rfl 1 (by decide) (hts (.fieldLink RX7 31 "TypingPool$Planner" "floor" "LTypingPool$Floor;") (List.mem_cons_of_mem _ (List.mem_append_left _ (List.mem_of_getElem? (i := 2) rfl)))) (fun _ h9 => h9) rfl dX7_beginHand_86 ?_
      refine tw_get (D := (dC, dI)) (v := .ref (a 21)) (C := RX3) (T := TX3) (N := 12) hx hb hts (fun _ hh => (List.mem_cons_of_mem _ (List.mem_append_right _ (List.mem_append_right _ (List.mem_append_left _ hh))))) hown hK hT (fx_3 hX) (by decide) cl_e13 rfl 4 (by decide) (hts (.fieldLink RX7 104 "TypingPool$Floor" "rate" "[I") (List.mem_cons_of_mem _ (List.mem_append_left _ (List.mem_of_getElem? (i := 12) rfl)))) (fun _ h9 => h9) rfl dX7_beginHand_89 ?_
      refine lv_iload hx hb dX7_beginHand_92 (lv_at hl 3 rfl) ?_
      refine tw_iald hx hb hK hT 0 (fx_21 hX) (by decide) cl_e31 rfl (z_in rfl (by omega) (by omega)) dX7_beginHand_94 ?_
      have hFc := tw_free hF hS hA
      refine va_calli (va_runSN (As := [.int (y (a 27) (y (a 20) (y (a 42) p0.toNatClampNeg).toNatClampNeg).toNatClampNeg), .int (y (a 21) (y (a 42) p0.toNatClampNeg).toNatClampNeg)]) (rest := []) ⟨hx, hb, hml, hown, hts⟩ (c_minutesFor l dC dI ad av H.size a k τ ln y g u (y (a 27) (y (a 20) (y (a 42) p0.toNatClampNeg).toNatClampNeg).toNatClampNeg) (y (a 21) (y (a 42) p0.toNatClampNeg).toNatClampNeg)  ) ⟨va_cnB 2 hts (gi_0  (fun _ hh => (List.mem_cons_of_mem _ (List.mem_append_right _ (List.mem_append_right _ (List.mem_append_right _ (List.mem_append_right _ (List.mem_append_left _ hh))))))) gd_c_minutesFor) rfl rfl rfl hM.1.2.2.2.1 (hts (.initialized RX11) (List.mem_cons_of_mem _ (List.mem_append_left _ (List.mem_of_getElem? (i := 13) rfl)))) (by decide +kernel) ⟨Nat.le_of_ble_eq_true rfl, Nat.le_of_ble_eq_true rfl⟩, (hts (.static yX11_minutesFor) (List.mem_cons_of_mem _ (List.mem_append_left _ (List.mem_of_getElem? (i := 14) rfl)))), trivial⟩ ⟨pw_blind, pw_use hT hK hFc hS hM⟩ rfl rfl hl.1 rfl (lv_room (Nat.le_of_ble_eq_true rfl)) dX7_beginHand_95 ⟨Nat.le_of_ble_eq_true rfl, Nat.le_of_ble_eq_true rfl⟩) hS (fun q _ h => hFc q h) hFc (fun r0 r_8 t H locs ht hvm hw hB hz1 hk1 hS => ?_)
      refine W.widen (k := 0) (n := 0) (Nat.le_of_ble_eq_true rfl) (Nat.le_of_ble_eq_true rfl) ?_
      clear hvm hz1 hk1
      subst hw
      have hT := hB
      rw [ht] at hT
      refine lv_istore (lv' := [(10, .int r_8), (9, .int (y (a 20) (y (a 42) p0.toNatClampNeg).toNatClampNeg)), (8, .int (y (a 22) (y (a 42) p0.toNatClampNeg).toNatClampNeg)), (7, .int (y (a 3) 2)), (6, .int (y (a 42) p0.toNatClampNeg)), (0, .ref (a 6)), (1, .int p0), (2, .int p1), (3, .int p2), (4, .int p3), (5, .int p4)]) hx hb dX7_beginHand_98 hl (by decide) rfl (fun ls hl => ?_)
      refine lv_aload_n hx hb dX7_beginHand_100 rfl (lv_at hl 5 rfl) ?_
      refine tw_get (D := (dC, dI)) (v := .ref (a 1)) (C := RX7) (T := TX7) (N := 13) hx hb hts (fun _ hh => (List.mem_cons_of_mem _ (List.mem_append_right _ (List.mem_append_left _ hh)))) hown hK hT (fx_6 hX) (by decide) cl_e16 rfl 0 (by decide) (hts (.fieldLink RX7 27 "TypingPool$Planner" "book" "LTypingPool$Book;") (List.mem_cons_of_mem _ (List.mem_append_left _ (List.mem_of_getElem? (i := 6) rfl)))) (fun _ h9 => h9) rfl dX7_beginHand_101 ?_
      refine lv_iload hx hb dX7_beginHand_104 (lv_at hl 4 rfl) ?_
      refine lv_iload hx hb dX7_beginHand_106 (lv_at hl 3 rfl) ?_
      refine lv_iload hx hb dX7_beginHand_108 (lv_at hl 0 rfl) ?_
      have hFc := tw_free hF hS hA
      refine va_calli (va_runV (As := [.int (y (a 42) p0.toNatClampNeg), .int (y (a 3) 2), .int r_8]) (rest := []) ⟨hx, hb, hml, hown, hts⟩ (c_minuteAfterWork l dC dI ad av H.size a k τ ln y g u (y (a 42) p0.toNatClampNeg) (y (a 3) 2) r_8 hI ) (cwV 3 hts (gi_4 (List.mem_cons_of_mem _ (List.mem_append_left _ (List.mem_of_getElem? (i := 15) rfl))) (List.mem_cons_of_mem _ (List.mem_append_left _ (List.mem_of_getElem? (i := 16) rfl))) (List.mem_cons_of_mem _ (List.mem_append_left _ (List.mem_of_getElem? (i := 17) rfl))) (List.mem_cons_of_mem _ (List.mem_append_left _ (List.mem_of_getElem? (i := 10) rfl))) (fun _ hh => (List.mem_cons_of_mem _ (List.mem_append_right _ (List.mem_append_right _ (List.mem_append_right _ (List.mem_append_right _ (List.mem_append_right _ (List.mem_append_left _ hh)))))))) gd_c_minuteAfterWork) rfl rfl rfl (by decide +kernel) ⟨Nat.le_of_ble_eq_true rfl, Nat.le_of_ble_eq_true rfl⟩) ⟨pw_blind, tw_recv hK hT (fx_1 hX) (by decide) cl_e11 rfl, pw_use hT hK hFc hS hM⟩ rfl rfl hl.1 rfl (lv_room (Nat.le_of_ble_eq_true rfl)) dX7_beginHand_110 ⟨Nat.le_of_ble_eq_true rfl, Nat.le_of_ble_eq_true rfl⟩) hS (fun q _ h => hFc q h) hFc (fun r0 r_9 t H locs ht hvm hw hB hz1 hk1 hS => ?_)
      refine W.widen (k := 0) (n := 0) (Nat.le_of_ble_eq_true rfl) (Nat.le_of_ble_eq_true rfl) ?_
      clear hvm hz1 hk1
      subst hw
      have hT := hB
      rw [ht] at hT
      refine lv_istore (lv' := [(7, .int r_9), (10, .int r_8), (9, .int (y (a 20) (y (a 42) p0.toNatClampNeg).toNatClampNeg)), (8, .int (y (a 22) (y (a 42) p0.toNatClampNeg).toNatClampNeg)), (6, .int (y (a 42) p0.toNatClampNeg)), (0, .ref (a 6)), (1, .int p0), (2, .int p1), (3, .int p2), (4, .int p3), (5, .int p4)]) hx hb dX7_beginHand_113 hl (by decide) rfl (fun ls hl => ?_)
      refine lv_iload hx hb dX7_beginHand_115 (lv_at hl 3 rfl) ?_
      refine lv_aload_n hx hb dX7_beginHand_117 rfl (lv_at hl 5 rfl) ?_
      refine tw_get (D := (dC, dI)) (v := .ref (a 1)) (C := RX7) (T := TX7) (N := 13) hx hb hts (fun _ hh => (List.mem_cons_of_mem _ (List.mem_append_right _ (List.mem_append_left _ hh)))) hown hK hT (fx_6 hX) (by decide) cl_e16 rfl 0 (by decide) (hts (.fieldLink RX7 27 "TypingPool$Planner" "book" "LTypingPool$Book;") (List.mem_cons_of_mem _ (List.mem_append_left _ (List.mem_of_getElem? (i := 6) rfl)))) (fun _ h9 => h9) rfl dX7_beginHand_118 ?_
      refine tw_get (D := (dC, dI)) (v := .ref (a 11)) (C := RX1) (T := TX1) (N := 8) hx hb hts (fun _ hh => (List.mem_cons_of_mem _ (List.mem_append_right _ (List.mem_append_right _ (List.mem_append_right _ (List.mem_append_right _ (List.mem_append_right _ (List.mem_append_right _ (List.mem_append_left _ hh))))))))) hown hK hT (fx_1 hX) (by decide) cl_e11 rfl 4 (by decide) (hts (.fieldLink RX7 115 "TypingPool$Book" "pieces" "[LTypingPool$Piece;") (List.mem_cons_of_mem _ (List.mem_append_left _ (List.mem_of_getElem? (i := 18) rfl)))) (fun _ h9 => h9) rfl dX7_beginHand_121 ?_
      refine lv_iload hx hb dX7_beginHand_124 (lv_at hl 2 rfl) ?_
      refine tw_aald hx hb hK hT 4 (fx_11 hX) (by decide) cl_e21 rfl (z_in rfl (by omega) (by omega)) dX7_beginHand_126 ?_
      obtain ⟨q_10, hgq_10, htq_10⟩ := ic_l11 hI (x := (y (a 20) (y (a 42) p0.toNatClampNeg).toNatClampNeg)) rfl (by omega) (by omega)
      refine lq_topr hgq_10 ?_
      refine tw_get (D := (dC, dI)) (v := .int (y q_10 7)) (C := RX6) (T := TX6) (N := 11) hx hb hts (fun _ hh => (List.mem_cons_of_mem _ (List.mem_append_right _ (List.mem_append_right _ (List.mem_append_right _ (List.mem_append_right _ (List.mem_append_right _ (List.mem_append_right _ (List.mem_append_right _ (List.mem_append_left _ hh)))))))))) hown hK hT htq_10 (by decide) cl_e2 rfl 7 (by decide) (hts (.fieldLink RX7 118 "TypingPool$Piece" "words" "I") (List.mem_cons_of_mem _ (List.mem_append_left _ (List.mem_of_getElem? (i := 19) rfl)))) (fun _ h9 => h9) rfl dX7_beginHand_127 ?_
      refine lv_ior hx hb dX7_beginHand_130 ?_
      refine lv_topi (fun x_11 ex_11 => ?_)
      refine lv_istore (lv' := [(8, .int x_11), (7, .int r_9), (10, .int r_8), (9, .int (y (a 20) (y (a 42) p0.toNatClampNeg).toNatClampNeg)), (6, .int (y (a 42) p0.toNatClampNeg)), (0, .ref (a 6)), (1, .int p0), (2, .int p1), (3, .int p2), (4, .int p3), (5, .int p4)]) hx hb dX7_beginHand_131 hl (by decide) rfl (fun ls hl => ?_)
      refine lv_aload_n hx hb dX7_beginHand_133 rfl (lv_at hl 5 rfl) ?_
      refine lv_iload_n hx hb dX7_beginHand_134 rfl (lv_at hl 6 rfl) ?_
      refine lv_iload_n hx hb dX7_beginHand_135 rfl (lv_at hl 7 rfl) ?_
      refine lv_iload hx hb dX7_beginHand_136 (lv_at hl 1 rfl) ?_
      refine lv_iload hx hb dX7_beginHand_138 (lv_at hl 0 rfl) ?_
      refine lv_iload_n hx hb dX7_beginHand_140 rfl (lv_at hl 8 rfl) ?_
      refine lv_iload hx hb dX7_beginHand_141 (lv_at hl 9 rfl) ?_
      refine lv_iload hx hb dX7_beginHand_143 (lv_at hl 10 rfl) ?_
      have hFc := tw_free hF hS hA
      refine va_callv (va_runV (As := [.int p0, .int p1, .int r_9, .int x_11, .int p2, .int p3, .int p4]) (rest := []) ⟨hx, hb, hml, hown, hts⟩ (c_goOn8 l dC dI ad av H.size a k τ ln y g u p0 p1 r_9 x_11 p2 p3 p4 nP nH hI (by omega) (by omega) gn gp gh (by omega) (by omega) (by omega)) (cwV 7 hts (gi_4 (List.mem_cons_of_mem _ (List.mem_append_left _ (List.mem_of_getElem? (i := 20) rfl))) (List.mem_cons_of_mem _ (List.mem_append_left _ (List.mem_of_getElem? (i := 21) rfl))) (List.mem_cons_of_mem _ (List.mem_append_left _ (List.mem_of_getElem? (i := 22) rfl))) (List.mem_cons_of_mem _ (List.mem_append_left _ (List.mem_of_getElem? (i := 23) rfl))) (fun _ hh => (List.mem_cons_of_mem _ (List.mem_append_right _ (List.mem_append_right _ (List.mem_append_right _ (List.mem_append_right _ (List.mem_append_right _ (List.mem_append_right _ (List.mem_append_right _ (List.mem_append_right _ (List.mem_append_left _ hh))))))))))) gd_c_goOn8) rfl rfl rfl (by decide +kernel) ⟨Nat.le_of_ble_eq_true rfl, Nat.le_of_ble_eq_true rfl⟩) ⟨pw_blind, tw_recv hK hT (fx_6 hX) (by decide) cl_e16 rfl, pw_use hT hK hFc hS hM⟩ rfl rfl hl.1 rfl (lv_room (Nat.le_of_ble_eq_true rfl)) dX7_beginHand_145 ⟨Nat.le_of_ble_eq_true rfl, Nat.le_of_ble_eq_true rfl⟩) hS (fun q _ h => hFc q h) hFc (fun u0 t H locs ht hvm hw hB hz1 hk1 hS => ?_)
      refine W.widen (k := 0) (n := 0) (Nat.le_of_ble_eq_true rfl) (Nat.le_of_ble_eq_true rfl) ?_
      clear hvm hz1 hk1
      obtain ⟨y_13, hgy_13, hf_14, hf_15, hf_16, hT⟩ := hB
      rw [ht] at hT
      have hG := hG.tr hgy_13 (by decide)
      have hI := hI.ag hgy_13 (by decide)
      exact W.vret hx hb hr (fun t ht hW9 => ⟨⟨(), rfl, trivial, ⟨y_13, hG, by omega, by omega, by omega, tw_at ht hT⟩⟩, hS.F ht⟩) hS.2.2 dX7_beginHand_148
    · refine lq_top (v := 0) hre ?_
      rw [ht] at hT
      refine lv_if_eq (tgt := 133) hx hb dX7_beginHand_72 (by decide) (fun c_17 => ?_) (fun c_17 => absurd c_17 (by decide))
      refine lv_aload_n hx hb dX7_beginHand_133 rfl (lv_at hl 4 rfl) ?_
      refine lv_iload_n hx hb dX7_beginHand_134 rfl (lv_at hl 5 rfl) ?_
      refine lv_iload_n hx hb dX7_beginHand_135 rfl (lv_at hl 6 rfl) ?_
      refine lv_iload hx hb dX7_beginHand_136 (lv_at hl 2 rfl) ?_
      refine lv_iload hx hb dX7_beginHand_138 (lv_at hl 1 rfl) ?_
      refine lv_iload_n hx hb dX7_beginHand_140 rfl (lv_at hl 7 rfl) ?_
      refine lv_iload hx hb dX7_beginHand_141 (lv_at hl 8 rfl) ?_
      refine lv_iload hx hb dX7_beginHand_143 (lv_at hl 9 rfl) ?_
      have hFc := tw_free hF hS hA
      refine va_callv (va_runV (As := [.int p0, .int p1, .int (y (a 3) 2), .int (y (a 22) (y (a 42) p0.toNatClampNeg).toNatClampNeg), .int p2, .int p3, .int p4]) (rest := []) ⟨hx, hb, hml, hown, hts⟩ (c_goOn8 l dC dI ad av H.size a k τ ln y g u p0 p1 (y (a 3) 2) (y (a 22) (y (a 42) p0.toNatClampNeg).toNatClampNeg) p2 p3 p4 nP nH hI (by omega) (by omega) gn gp gh (by omega) (by omega) (by omega)) (cwV 7 hts (gi_4 (List.mem_cons_of_mem _ (List.mem_append_left _ (List.mem_of_getElem? (i := 20) rfl))) (List.mem_cons_of_mem _ (List.mem_append_left _ (List.mem_of_getElem? (i := 21) rfl))) (List.mem_cons_of_mem _ (List.mem_append_left _ (List.mem_of_getElem? (i := 22) rfl))) (List.mem_cons_of_mem _ (List.mem_append_left _ (List.mem_of_getElem? (i := 23) rfl))) (fun _ hh => (List.mem_cons_of_mem _ (List.mem_append_right _ (List.mem_append_right _ (List.mem_append_right _ (List.mem_append_right _ (List.mem_append_right _ (List.mem_append_right _ (List.mem_append_right _ (List.mem_append_right _ (List.mem_append_left _ hh))))))))))) gd_c_goOn8) rfl rfl rfl (by decide +kernel) ⟨Nat.le_of_ble_eq_true rfl, Nat.le_of_ble_eq_true rfl⟩) ⟨pw_blind, tw_recv hK hT (fx_6 hX) (by decide) cl_e16 rfl, pw_use hT hK hFc hS hM⟩ rfl rfl hl.1 rfl (lv_room (Nat.le_of_ble_eq_true rfl)) dX7_beginHand_145 ⟨Nat.le_of_ble_eq_true rfl, Nat.le_of_ble_eq_true rfl⟩) hS (fun q _ h => hFc q h) hFc (fun u0 t H locs ht hvm hw hB hz1 hk1 hS => ?_)
      refine W.widen (k := 0) (n := 0) (Nat.le_of_ble_eq_true rfl) (Nat.le_of_ble_eq_true rfl) ?_
      clear hvm hz1 hk1
      obtain ⟨y_19, hgy_19, hf_20, hf_21, hf_22, hT⟩ := hB
      rw [ht] at hT
      have hG := hG.tr hgy_19 (by decide)
      have hI := hI.ag hgy_19 (by decide)
      exact W.vret hx hb hr (fun t ht hW9 => ⟨⟨(), rfl, trivial, ⟨y_19, hG, by omega, by omega, by omega, tw_at ht hT⟩⟩, hS.F ht⟩) hS.2.2 dX7_beginHand_148
  · have nc_1 := z_nlt rfl rfl c_1
    refine lv_iload_n hx hb dX7_beginHand_8 rfl (lv_at hl 2 rfl) ?_
    refine lv_if_ne (tgt := 21) hx hb dX7_beginHand_9 (by decide) (fun c_23 => ?_) (fun c_23 => ?_)
    · have nc_23 := z_ne rfl (zk (x := 0) 0 rfl) c_23
      exact W.vret hx hb hr (fun t ht hW9 => ⟨⟨(), rfl, trivial, ⟨y, hG, by omega, by omega, by omega, tw_at ht hT⟩⟩, hS.F ht⟩) hS.2.2 dX7_beginHand_21
    · have nc_23 := z_eq rfl (zk (x := 0) 0 rfl) c_23
      refine lv_aload_n hx hb dX7_beginHand_12 rfl (lv_at hl 0 rfl) ?_
      refine lv_iload_n hx hb dX7_beginHand_13 rfl (lv_at hl 3 rfl) ?_
      refine lv_iload hx hb dX7_beginHand_14 (lv_at hl 4 rfl) ?_
      refine lv_iload hx hb dX7_beginHand_16 (lv_at hl 5 rfl) ?_
      have hFc := tw_free hF hS hA
      refine va_callv (va_runV (As := [.int p2, .int p3, .int p4]) (rest := []) ⟨hx, hb, hml, hown, hts⟩ (c_keep l dC dI ad av s.heap.size a k τ ln y g u p2 p3 p4 hI (by omega) (by omega) (by omega)) (cwV 3 hts (gi_4 (List.mem_cons_of_mem _ (List.mem_append_left _ (List.mem_of_getElem? (i := 24) rfl))) (List.mem_cons_of_mem _ (List.mem_append_left _ (List.mem_of_getElem? (i := 25) rfl))) (List.mem_cons_of_mem _ (List.mem_append_left _ (List.mem_of_getElem? (i := 26) rfl))) (List.mem_cons_of_mem _ (List.mem_append_left _ (List.mem_of_getElem? (i := 23) rfl))) (fun _ hh => (List.mem_cons_of_mem _ (List.mem_append_right _ (List.mem_append_right _ (List.mem_append_right _ (List.mem_append_right _ (List.mem_append_right _ (List.mem_append_right _ (List.mem_append_right _ (List.mem_append_right _ (List.mem_append_right _ (List.mem_append_left _ hh)))))))))))) gd_c_keep) rfl rfl rfl (by decide +kernel) ⟨Nat.le_of_ble_eq_true rfl, Nat.le_of_ble_eq_true rfl⟩) ⟨pw_blind, tw_recv hK hT (fx_6 hX) (by decide) cl_e16 rfl, pw_use hT hK hFc hS hM⟩ rfl rfl hl.1 rfl (lv_room (Nat.le_of_ble_eq_true rfl)) dX7_beginHand_18 ⟨Nat.le_of_ble_eq_true rfl, Nat.le_of_ble_eq_true rfl⟩) hS (fun q _ h => hFc q h) hFc (fun u0 t H locs ht hvm hw hB hz1 hk1 hS => ?_)
      refine W.widen (k := 0) (n := 0) (Nat.le_of_ble_eq_true rfl) (Nat.le_of_ble_eq_true rfl) ?_
      clear hvm hz1 hk1
      obtain ⟨y_25, hgy_25, hf_26, hf_27, hf_28, hT⟩ := hB
      rw [ht] at hT
      have hG := hG.tr hgy_25 (by decide)
      have hI := hI.ag hgy_25 (by decide)
      exact W.vret hx hb hr (fun t ht hW9 => ⟨⟨(), rfl, trivial, ⟨y_25, hG, by omega, by omega, by omega, tw_at ht hT⟩⟩, hS.F ht⟩) hS.2.2 dX7_beginHand_21
def wo_c_goOn7 : List Cond := [.fieldLink RX7 78 "TypingPool$Planner" "handCount" "I", .methodLink RX7 126 yX7_isBetter, .instanceMethod yX7_isBetter, .selects RX7 yX7_isBetter yX7_isBetter, .initialized RX7, .fieldLink RX7 21 "TypingPool$Planner" "current" "[I", .methodLink RX7 63 yX7_beginHand, .instanceMethod yX7_beginHand, .selects RX7 yX7_beginHand yX7_beginHand, .fieldLink RX7 15 "TypingPool$Planner" "hands" "[I", .fieldLink RX7 42 "TypingPool$Planner" "pieceCount" "I", .fieldLink RX7 18 "TypingPool$Planner" "allowed" "[I", .fieldLink RX7 9 "TypingPool$Planner" "pieces" "[I", .fieldLink RX7 27 "TypingPool$Planner" "book" "LTypingPool$Book;", .fieldLink RX7 115 "TypingPool$Book" "pieces" "[LTypingPool$Piece;", .methodLink RX7 130 yX6_allWork, .instanceMethod yX6_allWork, .selects RX6 yX6_allWork yX6_allWork, .initialized RX6, .fieldLink RX7 31 "TypingPool$Planner" "floor" "LTypingPool$Floor;", .methodLink RX7 133 yX3_rateFor, .instanceMethod yX3_rateFor, .selects RX3 yX3_rateFor yX3_rateFor, .initialized RX3, .initialized RX11, .static yX11_minutesFor, .methodLink RX7 111 yX1_minuteAfterWork, .instanceMethod yX1_minuteAfterWork, .selects RX1 yX1_minuteAfterWork yX1_minuteAfterWork, .initialized RX1, .fieldLink RX7 136 "TypingPool$Piece" "due" "I", .methodLink RX7 139 Lib.Math.max.name, .static Lib.Math.max.name, .initialized "java/lang/Math", .code Lib.Math.max.name Lib.Math.max.code 2 (some .int), .fieldLink RX7 118 "TypingPool$Piece" "words" "I", .methodLink RX7 122 yX7_goOn, .instanceMethod yX7_goOn, .selects RX7 yX7_goOn yX7_goOn]
def wm_c_goOn7 : List Cond := .code yX7_goOn cX7_goOn 15 none :: (wo_c_goOn7 ++ (wsX70 ++ (wm_c_isBetter ++ (wm_c_beginHand8 ++ (wsX10 ++ (wm_c_allWork ++ (wm_c_rateFor ++ (wm_c_minutesFor ++ (wm_c_minuteAfterWork ++ (wsX60 ++ (wm_c_goOn8 ++ ([] : List Cond))))))))))))
theorem gd_c_goOn7 : ∀ w ∈ wm_c_goOn7, goodWord w = true := gd_c rfl (gd_a (by decide) (gd_a gd_wsX70 (gd_a gd_c_isBetter (gd_a gd_c_beginHand8 (gd_a gd_wsX10 (gd_a gd_c_allWork (gd_a gd_c_rateFor (gd_a gd_c_minutesFor (gd_a gd_c_minuteAfterWork (gd_a gd_wsX60 (gd_a gd_c_goOn8 gd_nil)))))))))))
set_option maxRecDepth 20000 in
theorem im_c_goOn7 : ∀ w ∈ wm_c_goOn7, w ∈ lw_tbl := im_c (in_r [.code yX7_goOn cX7_goOn 15 none] [1060] (by decide +kernel)) (in_app (in_r wo_c_goOn7 [520, 1047, 1049, 23, 85, 522, 1039, 1041, 21, 519, 518, 521, 517, 515, 128, 1061, 720, 721, 89, 516, 1062, 820, 821, 83, 70, 845, 1053, 1054, 1055, 71, 683, 1063, 289, 78, 290, 687, 1057, 1059, 24] (by decide +kernel)) (in_app im_wsX70 (in_app im_c_isBetter (in_app im_c_beginHand8 (in_app im_wsX10 (in_app im_c_allWork (in_app im_c_rateFor (in_app im_c_minutesFor (in_app im_c_minuteAfterWork (in_app im_wsX60 (in_app im_c_goOn8 im_nil)))))))))))
set_option maxHeartbeats 4000000 in
set_option maxRecDepth 100000 in
theorem c_goOn7 (l : Launch) (dC : Nat → ClassId) (dI : Nat → Nat → Nat) (ad av : Nat → Nat) (sz : Nat) (a : Nat → Nat) (k : Nat → ClassId) (τ ln : Nat → Nat) (y : Nat → Nat → Int32) (g : Nat → Nat → Option Nat) (u : Nat → Int) (p0 : Int32) (p1 : Int32) (p2 : Int32) (p3 : Int32) (p4 : Int32) (p5 : Int32) (p6 : Int32) (nP : Int) (nH : Int) (hI : IC a u τ ln y g) (g3 : (y (a 6) 3).toInt = nP) (g5 : (y (a 6) 5).toInt = nH) (gn : (0 ≤ nP ∧ nP ≤ 5) ∧ 0 ≤ nH ∧ nH ≤ 3) (gp : vl nP (u 2) (y (a 41))) (gh : vl nH (u 1) (y (a 42))) (g9 : 0 ≤ (y (a 6) 9).toInt ∧ (y (a 6) 9).toInt ≤ 8) (hp0 : 0 ≤ p0.toInt) (hlen : p6.toInt = 7) : Met l yX7_goOn wm_c_goOn7 ({ frames := 4, cells := 0, slots := 0, locals := 240 }) (pw_ ad av (dC, dI) sz [.ref (a 6), .int p0, .int p1, .int p2, .int p3, .int p4, .int p5, .int p6] a k τ ln y g) (va_Qv (fun (_ : Unit) => True) (fun (_ : Unit) (t : State) => (∃ (y' : Nat → Nat → Int32), ag τ [16, 54, 55] y y' ∧ (y' (a 6) 3).toInt = (y (a 6) 3).toInt ∧ (y' (a 6) 5).toInt = (y (a 6) 5).toInt ∧ (0 ≤ (y' (a 6) 9).toInt ∧ (y' (a 6) 9).toInt ≤ 8) ∧ tw (dC, dI) a k τ ln y' g t.heap)) (fr τ sz)) 0 0 (fr τ sz) := by
  refine Met.ofW (cc := cX7_goOn) (maxL := 15) (ret := none) (by decide) rfl ?_
  intro p e s m args below meth c s₁ B hml hv
  obtain ⟨rfl, hsz, hT, hK, hM⟩ := hv
  have hx := B.exec
  have hb := B.bytes
  have hr := B.returns
  have hts := atoms_spec (ws := wm_c_goOn7) B.pre
  have hown : s.vm.findClass RX7 = some m.cls := findClass_of_methodNamed B.named
  have hlocks := B.notSynchronized
  subst hsz
  generalize hAe : fr τ s.heap.size = A at hM ⊢
  have hA : ∀ q : Nat, s.heap.size ≤ q → A q := fun q h => by rw [← hAe]; exact Or.inr h
  have hF : ∀ q, τ q ≠ 0 → A q := fun q h => by rw [← hAe]; exact Or.inl h
  have hS : va_S A s.heap s.heap [] := va_S.rf
  have hX := hI.1
  have hR := ic_r hI
  have hG : ag τ [16, 54, 55] y y := ag.rf
  have hl := lv_entry ([.ref (a 6), .int p0, .int p1, .int p2, .int p3, .int p4, .int p5, .int p6]) (n := 15) (Nat.le_of_ble_eq_true rfl)
  rw [lg_entry_eq]
  generalize (lg_sl ([.ref (a 6), .int p0, .int p1, .int p2, .int p3, .int p4, .int p5, .int p6]) ++ List.replicate (15 - (lg_sl ([.ref (a 6), .int p0, .int p1, .int p2, .int p3, .int p4, .int p5, .int p6])).length) Slot.unset).toArray = ls at hl ⊢
  have hl : lv_has ls 15 [(0, .ref (a 6)), (1, .int p0), (2, .int p1), (3, .int p2), (4, .int p3), (5, .int p4), (6, .int p5), (7, .int p6)] := hl
  refine lv_iload hx hb dX7_goOn_0 (lv_at hl 7 rfl) ?_
  refine lv_bipush (v := 8) hx hb dX7_goOn_2 (by decide) ?_
  refine lv_icmp_ge (tgt := 26) hx hb dX7_goOn_4 (by decide) (fun c_1 => ?_) (fun c_1 => ?_)
  · have nc_1 := z_le (zk (x := 8) 8 rfl) rfl c_1
    exact W.vret hx hb hr (fun t ht hW9 => ⟨⟨(), rfl, trivial, ⟨y, hG, by omega, by omega, by omega, tw_at ht hT⟩⟩, hS.F ht⟩) hS.2.2 dX7_goOn_26
  · have nc_1 := z_nle (zk (x := 8) 8 rfl) rfl c_1
    refine lv_iload_n hx hb dX7_goOn_7 rfl (lv_at hl 1 rfl) ?_
    refine lv_aload_n hx hb dX7_goOn_8 rfl (lv_at hl 0 rfl) ?_
    refine tw_get (D := (dC, dI)) (v := .int (y (a 6) 5)) (C := RX7) (T := TX7) (N := 13) hx hb hts (fun _ hh => (List.mem_cons_of_mem _ (List.mem_append_right _ (List.mem_append_left _ hh)))) hown hK hT (fx_6 hX) (by decide) cl_e16 rfl 5 (by decide) (hts (.fieldLink RX7 78 "TypingPool$Planner" "handCount" "I") (List.mem_cons_of_mem _ (List.mem_append_left _ (List.mem_of_getElem? (i := 0) rfl)))) (fun _ h9 => h9) rfl dX7_goOn_9 ?_
    refine lv_icmp_ge (tgt := 26) hx hb dX7_goOn_12 (by decide) (fun c_2 => ?_) (fun c_2 => ?_)
    · have nc_2 := z_le rfl rfl c_2
      exact W.vret hx hb hr (fun t ht hW9 => ⟨⟨(), rfl, trivial, ⟨y, hG, by omega, by omega, by omega, tw_at ht hT⟩⟩, hS.F ht⟩) hS.2.2 dX7_goOn_26
    · have nc_2 := z_nle rfl rfl c_2
      refine lv_aload_n hx hb dX7_goOn_15 rfl (lv_at hl 0 rfl) ?_
      refine lv_iload hx hb dX7_goOn_16 (lv_at hl 5 rfl) ?_
      refine lv_iload hx hb dX7_goOn_18 (lv_at hl 6 rfl) ?_
      have hFc := tw_free hF hS hA
      refine va_calli (va_runV (As := [.int p4, .int p5]) (rest := []) ⟨hx, hb, hml, hown, hts⟩ (c_isBetter l dC dI ad av s.heap.size a k τ ln y g u p4 p5 hI ) (cwV 2 hts (gi_4 (List.mem_cons_of_mem _ (List.mem_append_left _ (List.mem_of_getElem? (i := 1) rfl))) (List.mem_cons_of_mem _ (List.mem_append_left _ (List.mem_of_getElem? (i := 2) rfl))) (List.mem_cons_of_mem _ (List.mem_append_left _ (List.mem_of_getElem? (i := 3) rfl))) (List.mem_cons_of_mem _ (List.mem_append_left _ (List.mem_of_getElem? (i := 4) rfl))) (fun _ hh => (List.mem_cons_of_mem _ (List.mem_append_right _ (List.mem_append_right _ (List.mem_append_left _ hh))))) gd_c_isBetter) rfl rfl rfl (by decide +kernel) ⟨Nat.le_of_ble_eq_true rfl, Nat.le_of_ble_eq_true rfl⟩) ⟨pw_blind, tw_recv hK hT (fx_6 hX) (by decide) cl_e16 rfl, pw_use hT hK hFc hS hM⟩ rfl rfl hl.1 rfl (lv_room (Nat.le_of_ble_eq_true rfl)) dX7_goOn_20 ⟨Nat.le_of_ble_eq_true rfl, Nat.le_of_ble_eq_true rfl⟩) hS (fun q _ h => hFc q h) hFc (fun r0 r_3 t H locs ht hvm hw hB hz1 hk1 hS => ?_)
      refine W.widen (k := 0) (n := 0) (Nat.le_of_ble_eq_true rfl) (Nat.le_of_ble_eq_true rfl) ?_
      clear hvm hz1 hk1
      subst hw
      rcases hB with ⟨hre, hT⟩ | ⟨hre, hT⟩
      · refine lq_top (v := 1) hre ?_
        rw [ht] at hT
        refine lv_if_ne (tgt := 27) hx hb dX7_goOn_23 (by decide) (fun c_4 => ?_) (fun c_4 => absurd c_4 (by decide))
        refine lv_aload_n hx hb dX7_goOn_27 rfl (lv_at hl 0 rfl) ?_
        refine tw_get (D := (dC, dI)) (v := .ref (a 44)) (C := RX7) (T := TX7) (N := 13) hx hb hts (fun _ hh => (List.mem_cons_of_mem _ (List.mem_append_right _ (List.mem_append_left _ hh)))) hown hK hT (fx_6 hX) (by decide) cl_e16 rfl 7 (by decide) (hts (.fieldLink RX7 21 "TypingPool$Planner" "current" "[I") (List.mem_cons_of_mem _ (List.mem_append_left _ (List.mem_of_getElem? (i := 5) rfl)))) (fun _ h9 => h9) rfl dX7_goOn_28 ?_
        refine lv_iload hx hb dX7_goOn_31 (lv_at hl 7 rfl) ?_
        refine lv_iconst (v := (-1)) hx hb dX7_goOn_33 (by decide) ?_
        refine tw_iast hx hb hK hT hF hS 0 (fx_44 hX) (by decide) (fun _ => cl_e54) rfl (z_in rfl (by omega) (by omega)) dX7_goOn_34 (fun H locs hT hS => ?_)
        obtain ⟨y_5, hy_5, hT⟩ : ∃ z : Nat → Nat → Int32, z = up2 y (a 44) p6.toNatClampNeg (-1 : Int32) ∧ tw (dC, dI) a k τ ln z g H := ⟨_, rfl, hT⟩
        have hG : ag τ [16, 54, 55] y y_5 := by rw [hy_5]; exact hG.up (fx_44 hX) (by decide)
        have : (y_5 (a 6) 3).toInt = (y (a 6) 3).toInt := by rw [hy_5, up2_o (kd_ne (fx_6 hX) (fx_44 hX) (by decide))]
        have : (y_5 (a 6) 5).toInt = (y (a 6) 5).toInt := by rw [hy_5, up2_o (kd_ne (fx_6 hX) (fx_44 hX) (by decide))]
        have : (y_5 (a 6) 9).toInt = (y (a 6) 9).toInt := by rw [hy_5, up2_o (kd_ne (fx_6 hX) (fx_44 hX) (by decide))]
        have hI := hI.ag (S := [54]) (y' := y_5) (by rw [hy_5]; exact ag.one (fx_44 hX)) (by decide)
        refine lv_aload_n hx hb dX7_goOn_35 rfl (lv_at hl 0 rfl) ?_
        refine lv_iload_n hx hb dX7_goOn_36 rfl (lv_at hl 1 rfl) ?_
        refine lv_iconst (v := 1) hx hb dX7_goOn_37 (by decide) ?_
        refine lv_iadd hx hb dX7_goOn_38 ?_
        refine lv_topi (fun x_6 ex_6 => ?_)
        have hx_6 := z_add ex_6 rfl (zk (x := 1) 1 rfl) (by omega) (by omega)
        refine lv_iload_n hx hb dX7_goOn_39 rfl (lv_at hl 2 rfl) ?_
        refine lv_iload hx hb dX7_goOn_40 (lv_at hl 5 rfl) ?_
        refine lv_iload hx hb dX7_goOn_42 (lv_at hl 6 rfl) ?_
        refine lv_iload hx hb dX7_goOn_44 (lv_at hl 7 rfl) ?_
        refine lv_iconst (v := 1) hx hb dX7_goOn_46 (by decide) ?_
        refine lv_iadd hx hb dX7_goOn_47 ?_
        refine lv_topi (fun x_7 ex_7 => ?_)
        have hx_7 := z_add ex_7 rfl (zk (x := 1) 1 rfl) (by omega) (by omega)
        have hFc := tw_free hF hS hA
        refine va_callv (va_runV (As := [.int x_6, .int p1, .int p4, .int p5, .int x_7]) (rest := []) ⟨hx, hb, hml, hown, hts⟩ (c_beginHand8 l dC dI ad av H.size a k τ ln y_5 g u x_6 p1 p4 p5 x_7 nP nH hI (by omega) (by omega) gn (by rw [hG.at (fx_41 hX) (by decide)]; exact gp) (by rw [hG.at (fx_42 hX) (by decide)]; exact gh) (by omega) (by omega) (by omega)) (cwV 5 hts (gi_4 (List.mem_cons_of_mem _ (List.mem_append_left _ (List.mem_of_getElem? (i := 6) rfl))) (List.mem_cons_of_mem _ (List.mem_append_left _ (List.mem_of_getElem? (i := 7) rfl))) (List.mem_cons_of_mem _ (List.mem_append_left _ (List.mem_of_getElem? (i := 8) rfl))) (List.mem_cons_of_mem _ (List.mem_append_left _ (List.mem_of_getElem? (i := 4) rfl))) (fun _ hh => (List.mem_cons_of_mem _ (List.mem_append_right _ (List.mem_append_right _ (List.mem_append_right _ (List.mem_append_left _ hh)))))) gd_c_beginHand8) rfl rfl rfl (by decide +kernel) ⟨Nat.le_of_ble_eq_true rfl, Nat.le_of_ble_eq_true rfl⟩) ⟨pw_blind, tw_recv hK hT (fx_6 hX) (by decide) cl_e16 rfl, pw_use hT hK hFc hS hM⟩ rfl rfl hl.1 rfl (lv_room (Nat.le_of_ble_eq_true rfl)) dX7_goOn_48 ⟨Nat.le_of_ble_eq_true rfl, Nat.le_of_ble_eq_true rfl⟩) hS (fun q _ h => hFc q h) hFc (fun u0 t H locs ht hvm hw hB hz1 hk1 hS => ?_)
        refine W.widen (k := 0) (n := 0) (Nat.le_of_ble_eq_true rfl) (Nat.le_of_ble_eq_true rfl) ?_
        clear hvm hz1 hk1
        obtain ⟨y_9, hgy_9, hf_10, hf_11, hf_12, hT⟩ := hB
        rw [ht] at hT
        have hG := hG.tr hgy_9 (by decide)
        have hI := hI.ag hgy_9 (by decide)
        refine lv_aload_n hx hb dX7_goOn_51 rfl (lv_at hl 0 rfl) ?_
        refine tw_get (D := (dC, dI)) (v := .ref (a 42)) (C := RX7) (T := TX7) (N := 13) hx hb hts (fun _ hh => (List.mem_cons_of_mem _ (List.mem_append_right _ (List.mem_append_left _ hh)))) hown hK hT (fx_6 hX) (by decide) cl_e16 rfl 4 (by decide) (hts (.fieldLink RX7 15 "TypingPool$Planner" "hands" "[I") (List.mem_cons_of_mem _ (List.mem_append_left _ (List.mem_of_getElem? (i := 9) rfl)))) (fun _ h9 => h9) rfl dX7_goOn_52 ?_
        refine lv_iload_n hx hb dX7_goOn_55 rfl (lv_at hl 1 rfl) ?_
        refine tw_iald hx hb hK hT 0 (fx_42 hX) (by decide) cl_e52 rfl (z_in rfl (by omega) (by omega)) dX7_goOn_56 ?_
        have hv0 : vl nH (u 1) (y_9 (a 42)) := (by rw [hG.at (fx_42 hX) (by decide)]; exact gh)
        have hv_13 := vl_at hv0 (x := p0) rfl (by omega) (by omega)
        refine lv_istore (lv' := [(8, .int (y_9 (a 42) p0.toNatClampNeg)), (0, .ref (a 6)), (1, .int p0), (2, .int p1), (3, .int p2), (4, .int p3), (5, .int p4), (6, .int p5), (7, .int p6)]) hx hb dX7_goOn_57 hl (by decide) rfl (fun ls hl => ?_)
        refine lv_iconst (v := 0) hx hb dX7_goOn_59 (by decide) ?_
        refine lv_istore (lv' := [(9, .int 0), (8, .int (y_9 (a 42) p0.toNatClampNeg)), (0, .ref (a 6)), (1, .int p0), (2, .int p1), (3, .int p2), (4, .int p3), (5, .int p4), (6, .int p5), (7, .int p6)]) hx hb dX7_goOn_60 hl (by decide) rfl (fun ls hl => ?_)
        have loop_62 : ∀ (n : Nat) (i9 : Int32) (y_L62 : Nat → Nat → Int32) (H : Heap) (locs : List Loc) (ls : Array Slot), (nP - i9.toInt).toNat < n → ag τ [16, 54, 55] y y_L62 → IC a u τ ln y_L62 g → 0 ≤ i9.toInt → i9.toInt ≤ nP → (y_L62 (a 6) 3).toInt = nP → (y_L62 (a 6) 5).toInt = nH → 0 ≤ (y_L62 (a 6) 9).toInt ∧ (y_L62 (a 6) 9).toInt ≤ 8 → tw (dC, dI) a k τ ln y_L62 g H → va_S A s.heap H locs → lv_has ls 15 [(0, .ref (a 6)), (1, .int p0), (2, .int p1), (3, .int p2), (4, .int p3), (5, .int p4), (6, .int p5), (7, .int p6), (8, .int (y_9 (a 42) p0.toNatClampNeg)), (9, .int i9)] → W p l e (headSpec wm_c_goOn7 ({ frames := 4, cells := 0, slots := 0, locals := 240 })).room s m ([.ref (a 6), .int p0, .int p1, .int p2, .int p3, .int p4, .int p5, .int p6] : List Value).toArray below meth c H locs 0 0 (MQ below (va_Qv (fun (_ : Unit) => True) (fun (_ : Unit) (t : State) => (∃ (y' : Nat → Nat → Int32), ag τ [16, 54, 55] y y' ∧ (y' (a 6) 3).toInt = (y (a 6) 3).toInt ∧ (y' (a 6) 5).toInt = (y (a 6) 5).toInt ∧ (0 ≤ (y' (a 6) 9).toInt ∧ (y' (a 6) 9).toInt ≤ 8) ∧ tw (dC, dI) a k τ ln y' g t.heap)) A) ([.ref (a 6), .int p0, .int p1, .int p2, .int p3, .int p4, .int p5, .int p6] : List Value).toArray s 0 0 A) (F0 m 62 ls []) := by
          intro n
          induction n with
          | zero => intro i9 y_L62 H locs ls hlt; exact absurd hlt (Nat.not_lt_zero _)
          | succ n ih_62 =>
            intro i9 y_L62 H locs ls hlt hG hI hi62_0 hi62_1 hi62_2 hi62_3 hi62_4 hT hS hl
            refine lv_iload hx hb dX7_goOn_62 (lv_at hl 9 rfl) ?_
            refine lv_aload_n hx hb dX7_goOn_64 rfl (lv_at hl 0 rfl) ?_
            refine tw_get (D := (dC, dI)) (v := .int (y_L62 (a 6) 3)) (C := RX7) (T := TX7) (N := 13) hx hb hts (fun _ hh => (List.mem_cons_of_mem _ (List.mem_append_right _ (List.mem_append_left _ hh)))) hown hK hT (fx_6 hX) (by decide) cl_e16 rfl 3 (by decide) (hts (.fieldLink RX7 42 "TypingPool$Planner" "pieceCount" "I") (List.mem_cons_of_mem _ (List.mem_append_left _ (List.mem_of_getElem? (i := 10) rfl)))) (fun _ h9 => h9) rfl dX7_goOn_65 ?_
            refine lv_icmp_ge (tgt := 220) hx hb dX7_goOn_68 (by decide) (fun c_14 => ?_) (fun c_14 => ?_)
            · have nc_14 := z_le rfl rfl c_14
              exact W.vret hx hb hr (fun t ht hW9 => ⟨⟨(), rfl, trivial, ⟨y_L62, hG, by omega, by omega, by omega, tw_at ht hT⟩⟩, hS.F ht⟩) hS.2.2 dX7_goOn_220
            · have nc_14 := z_nle rfl rfl c_14
              refine lv_iload_n hx hb dX7_goOn_71 rfl (lv_at hl 2 rfl) ?_
              refine lv_aload_n hx hb dX7_goOn_72 rfl (lv_at hl 0 rfl) ?_
              refine tw_get (D := (dC, dI)) (v := .ref (a 43)) (C := RX7) (T := TX7) (N := 13) hx hb hts (fun _ hh => (List.mem_cons_of_mem _ (List.mem_append_right _ (List.mem_append_left _ hh)))) hown hK hT (fx_6 hX) (by decide) cl_e16 rfl 6 (by decide) (hts (.fieldLink RX7 18 "TypingPool$Planner" "allowed" "[I") (List.mem_cons_of_mem _ (List.mem_append_left _ (List.mem_of_getElem? (i := 11) rfl)))) (fun _ h9 => h9) rfl dX7_goOn_73 ?_
              refine lv_iload_n hx hb dX7_goOn_76 rfl (lv_at hl 1 rfl) ?_
              refine tw_iald hx hb hK hT 0 (fx_43 hX) (by decide) cl_e53 rfl (z_in rfl (by omega) (by omega)) dX7_goOn_77 ?_
              refine lv_iand hx hb dX7_goOn_78 ?_
              refine lv_topi (fun x_15 ex_15 => ?_)
              refine lv_iload hx hb dX7_goOn_79 (lv_at hl 9 rfl) ?_
              refine lv_ishr hx hb dX7_goOn_81 ?_
              refine lv_topi (fun x_16 ex_16 => ?_)
              refine lv_iconst (v := 1) hx hb dX7_goOn_82 (by decide) ?_
              refine lv_iand hx hb dX7_goOn_83 ?_
              refine lv_topi (fun x_17 ex_17 => ?_)
              have hx_17 := z_and (x := x_16) (zk (x := 1) 1 rfl) (by omega)
              rw [← ex_17] at hx_17
              refine lv_iconst (v := 1) hx hb dX7_goOn_84 (by decide) ?_
              refine lv_icmp_ne (tgt := 214) hx hb dX7_goOn_85 (by decide) (fun c_18 => ?_) (fun c_18 => ?_)
              · have nc_18 := z_ne rfl (zk (x := 1) 1 rfl) c_18
                obtain ⟨x_19, ex_19⟩ : ∃ y : Int32, y = i9 + Int32.ofInt 1 := ⟨_, rfl⟩
                have hx_19 := z_add ex_19 rfl (zk (x := Int32.ofInt 1) 1 rfl) (by omega) (by omega)
                refine lv_iinc (v := x_19) (lv' := [(9, .int x_19), (0, .ref (a 6)), (1, .int p0), (2, .int p1), (3, .int p2), (4, .int p3), (5, .int p4), (6, .int p5), (7, .int p6), (8, .int (y_9 (a 42) p0.toNatClampNeg))]) hx hb dX7_goOn_214 hl (k := 9) rfl ex_19.symm (by decide) rfl (fun ls hl => ?_)
                refine lv_goto (tgt := 62) hx hb dX7_goOn_217 (by decide) ?_
                exact ih_62  x_19 y_L62 H _ ls (by omega) hG hI (by omega) (by omega) (by omega) (by omega) (by omega) hT hS (lv_sub hl [1, 2, 3, 4, 5, 6, 7, 8, 9, 0] rfl)
              · have nc_18 := z_eq rfl (zk (x := 1) 1 rfl) c_18
                refine lv_aload_n hx hb dX7_goOn_88 rfl (lv_at hl 0 rfl) ?_
                refine tw_get (D := (dC, dI)) (v := .ref (a 41)) (C := RX7) (T := TX7) (N := 13) hx hb hts (fun _ hh => (List.mem_cons_of_mem _ (List.mem_append_right _ (List.mem_append_left _ hh)))) hown hK hT (fx_6 hX) (by decide) cl_e16 rfl 2 (by decide) (hts (.fieldLink RX7 9 "TypingPool$Planner" "pieces" "[I") (List.mem_cons_of_mem _ (List.mem_append_left _ (List.mem_of_getElem? (i := 12) rfl)))) (fun _ h9 => h9) rfl dX7_goOn_89 ?_
                refine lv_iload hx hb dX7_goOn_92 (lv_at hl 9 rfl) ?_
                refine tw_iald hx hb hK hT 0 (fx_41 hX) (by decide) cl_e51 rfl (z_in rfl (by omega) (by omega)) dX7_goOn_94 ?_
                have hv0 : vl nP (u 2) (y_L62 (a 41)) := (by rw [hG.at (fx_41 hX) (by decide)]; exact gp)
                have hv_20 := vl_at hv0 (x := i9) rfl (by omega) (by omega)
                refine lv_istore (lv' := [(10, .int (y_L62 (a 41) i9.toNatClampNeg)), (0, .ref (a 6)), (1, .int p0), (2, .int p1), (3, .int p2), (4, .int p3), (5, .int p4), (6, .int p5), (7, .int p6), (8, .int (y_9 (a 42) p0.toNatClampNeg)), (9, .int i9)]) hx hb dX7_goOn_95 hl (by decide) rfl (fun ls hl => ?_)
                refine lv_aload_n hx hb dX7_goOn_97 rfl (lv_at hl 1 rfl) ?_
                refine tw_get (D := (dC, dI)) (v := .ref (a 1)) (C := RX7) (T := TX7) (N := 13) hx hb hts (fun _ hh => (List.mem_cons_of_mem _ (List.mem_append_right _ (List.mem_append_left _ hh)))) hown hK hT (fx_6 hX) (by decide) cl_e16 rfl 0 (by decide) (hts (.fieldLink RX7 27 "TypingPool$Planner" "book" "LTypingPool$Book;") (List.mem_cons_of_mem _ (List.mem_append_left _ (List.mem_of_getElem? (i := 13) rfl)))) (fun _ h9 => h9) rfl dX7_goOn_98 ?_
                refine tw_get (D := (dC, dI)) (v := .ref (a 11)) (C := RX1) (T := TX1) (N := 8) hx hb hts (fun _ hh => (List.mem_cons_of_mem _ (List.mem_append_right _ (List.mem_append_right _ (List.mem_append_right _ (List.mem_append_right _ (List.mem_append_left _ hh))))))) hown hK hT (fx_1 hX) (by decide) cl_e11 rfl 4 (by decide) (hts (.fieldLink RX7 115 "TypingPool$Book" "pieces" "[LTypingPool$Piece;") (List.mem_cons_of_mem _ (List.mem_append_left _ (List.mem_of_getElem? (i := 14) rfl)))) (fun _ h9 => h9) rfl dX7_goOn_101 ?_
                refine lv_iload hx hb dX7_goOn_104 (lv_at hl 0 rfl) ?_
                refine tw_aald hx hb hK hT 4 (fx_11 hX) (by decide) cl_e21 rfl (z_in rfl (by omega) (by omega)) dX7_goOn_106 ?_
                obtain ⟨q_21, hgq_21, htq_21⟩ := ic_l11 hI (x := (y_L62 (a 41) i9.toNatClampNeg)) rfl (by omega) (by omega)
                refine lq_topr hgq_21 ?_
                refine lv_astore (lv' := [(11, .ref q_21), (10, .int (y_L62 (a 41) i9.toNatClampNeg)), (0, .ref (a 6)), (1, .int p0), (2, .int p1), (3, .int p2), (4, .int p3), (5, .int p4), (6, .int p5), (7, .int p6), (8, .int (y_9 (a 42) p0.toNatClampNeg)), (9, .int i9)]) hx hb dX7_goOn_107 hl (by decide) rfl (fun ls hl => ?_)
                refine lv_aload hx hb dX7_goOn_109 (lv_at hl 0 rfl) ?_
                have hFc := tw_free hF hS hA
                refine va_calli (va_runV (As := []) (rest := []) ⟨hx, hb, hml, hown, hts⟩ (c_allWork l dC dI ad av H.size a k τ ln y_L62 g u q_21 hI htq_21) (cwV 0 hts (gi_4 (List.mem_cons_of_mem _ (List.mem_append_left _ (List.mem_of_getElem? (i := 15) rfl))) (List.mem_cons_of_mem _ (List.mem_append_left _ (List.mem_of_getElem? (i := 16) rfl))) (List.mem_cons_of_mem _ (List.mem_append_left _ (List.mem_of_getElem? (i := 17) rfl))) (List.mem_cons_of_mem _ (List.mem_append_left _ (List.mem_of_getElem? (i := 18) rfl))) (fun _ hh => (List.mem_cons_of_mem _ (List.mem_append_right _ (List.mem_append_right _ (List.mem_append_right _ (List.mem_append_right _ (List.mem_append_right _ (List.mem_append_left _ hh)))))))) gd_c_allWork) rfl rfl rfl (by decide +kernel) ⟨Nat.le_of_ble_eq_true rfl, Nat.le_of_ble_eq_true rfl⟩) ⟨pw_blind, tw_recv hK hT htq_21 (by decide) cl_e2 rfl, pw_use hT hK hFc hS hM⟩ rfl rfl hl.1 rfl (lv_room (Nat.le_of_ble_eq_true rfl)) dX7_goOn_111 ⟨Nat.le_of_ble_eq_true rfl, Nat.le_of_ble_eq_true rfl⟩) hS (fun q _ h => hFc q h) hFc (fun r0 r_22 t H locs ht hvm hw hB hz1 hk1 hS => ?_)
                refine W.widen (k := 0) (n := 0) (Nat.le_of_ble_eq_true rfl) (Nat.le_of_ble_eq_true rfl) ?_
                clear hvm hz1 hk1
                subst hw
                have hT := hB
                rw [ht] at hT
                refine lv_aload_n hx hb dX7_goOn_114 rfl (lv_at hl 2 rfl) ?_
                refine tw_get (D := (dC, dI)) (v := .ref (a 3)) (C := RX7) (T := TX7) (N := 13) hx hb hts (fun _ hh => (List.mem_cons_of_mem _ (List.mem_append_right _ (List.mem_append_left _ hh)))) hown hK hT (fx_6 hX) (by decide) cl_e16 rfl 1 (by decide) (hts (.fieldLink RX7 31 "TypingPool$Planner" "floor" "LTypingPool$Floor;") (List.mem_cons_of_mem _ (List.mem_append_left _ (List.mem_of_getElem? (i := 19) rfl)))) (fun _ h9 => h9) rfl dX7_goOn_115 ?_
                refine lv_iload hx hb dX7_goOn_118 (lv_at hl 10 rfl) ?_
                refine lv_iload hx hb dX7_goOn_120 (lv_at hl 1 rfl) ?_
                refine lv_iload hx hb dX7_goOn_122 (lv_at hl 6 rfl) ?_
                have hFc := tw_free hF hS hA
                refine va_calli (va_runV (As := [.int (y_9 (a 42) p0.toNatClampNeg), .int (y_L62 (a 41) i9.toNatClampNeg), .int p3]) (rest := [.int r_22]) ⟨hx, hb, hml, hown, hts⟩ (c_rateFor l dC dI ad av H.size a k τ ln y_L62 g u (y_9 (a 42) p0.toNatClampNeg) (y_L62 (a 41) i9.toNatClampNeg) p3 hI (by omega) (by omega) (by omega) (by omega)) (cwV 3 hts (gi_4 (List.mem_cons_of_mem _ (List.mem_append_left _ (List.mem_of_getElem? (i := 20) rfl))) (List.mem_cons_of_mem _ (List.mem_append_left _ (List.mem_of_getElem? (i := 21) rfl))) (List.mem_cons_of_mem _ (List.mem_append_left _ (List.mem_of_getElem? (i := 22) rfl))) (List.mem_cons_of_mem _ (List.mem_append_left _ (List.mem_of_getElem? (i := 23) rfl))) (fun _ hh => (List.mem_cons_of_mem _ (List.mem_append_right _ (List.mem_append_right _ (List.mem_append_right _ (List.mem_append_right _ (List.mem_append_right _ (List.mem_append_right _ (List.mem_append_left _ hh))))))))) gd_c_rateFor) rfl rfl rfl (by decide +kernel) ⟨Nat.le_of_ble_eq_true rfl, Nat.le_of_ble_eq_true rfl⟩) ⟨pw_blind, tw_recv hK hT (fx_3 hX) (by decide) cl_e13 rfl, pw_use hT hK hFc hS hM⟩ rfl rfl hl.1 rfl (lv_room (Nat.le_of_ble_eq_true rfl)) dX7_goOn_124 ⟨Nat.le_of_ble_eq_true rfl, Nat.le_of_ble_eq_true rfl⟩) hS (fun q _ h => hFc q h) hFc (fun r0 r_23 t H locs ht hvm hw hB hz1 hk1 hS => ?_)
                refine W.widen (k := 0) (n := 0) (Nat.le_of_ble_eq_true rfl) (Nat.le_of_ble_eq_true rfl) ?_
                clear hvm hz1 hk1
                subst hw
                have hT := hB
                rw [ht] at hT
                have hFc := tw_free hF hS hA
                refine va_calli (va_runSN (As := [.int r_22, .int r_23]) (rest := []) ⟨hx, hb, hml, hown, hts⟩ (c_minutesFor l dC dI ad av H.size a k τ ln y_L62 g u r_22 r_23  ) ⟨va_cnB 2 hts (gi_0  (fun _ hh => (List.mem_cons_of_mem _ (List.mem_append_right _ (List.mem_append_right _ (List.mem_append_right _ (List.mem_append_right _ (List.mem_append_right _ (List.mem_append_right _ (List.mem_append_right _ (List.mem_append_left _ hh)))))))))) gd_c_minutesFor) rfl rfl rfl hM.1.2.2.2.1 (hts (.initialized RX11) (List.mem_cons_of_mem _ (List.mem_append_left _ (List.mem_of_getElem? (i := 24) rfl)))) (by decide +kernel) ⟨Nat.le_of_ble_eq_true rfl, Nat.le_of_ble_eq_true rfl⟩, (hts (.static yX11_minutesFor) (List.mem_cons_of_mem _ (List.mem_append_left _ (List.mem_of_getElem? (i := 25) rfl)))), trivial⟩ ⟨pw_blind, pw_use hT hK hFc hS hM⟩ rfl rfl hl.1 rfl (lv_room (Nat.le_of_ble_eq_true rfl)) dX7_goOn_127 ⟨Nat.le_of_ble_eq_true rfl, Nat.le_of_ble_eq_true rfl⟩) hS (fun q _ h => hFc q h) hFc (fun r0 r_24 t H locs ht hvm hw hB hz1 hk1 hS => ?_)
                refine W.widen (k := 0) (n := 0) (Nat.le_of_ble_eq_true rfl) (Nat.le_of_ble_eq_true rfl) ?_
                clear hvm hz1 hk1
                subst hw
                have hT := hB
                rw [ht] at hT
                refine lv_istore (lv' := [(12, .int r_24), (11, .ref q_21), (10, .int (y_L62 (a 41) i9.toNatClampNeg)), (0, .ref (a 6)), (1, .int p0), (2, .int p1), (3, .int p2), (4, .int p3), (5, .int p4), (6, .int p5), (7, .int p6), (8, .int (y_9 (a 42) p0.toNatClampNeg)), (9, .int i9)]) hx hb dX7_goOn_130 hl (by decide) rfl (fun ls hl => ?_)
                refine lv_aload_n hx hb dX7_goOn_132 rfl (lv_at hl 3 rfl) ?_
                refine tw_get (D := (dC, dI)) (v := .ref (a 1)) (C := RX7) (T := TX7) (N := 13) hx hb hts (fun _ hh => (List.mem_cons_of_mem _ (List.mem_append_right _ (List.mem_append_left _ hh)))) hown hK hT (fx_6 hX) (by decide) cl_e16 rfl 0 (by decide) (hts (.fieldLink RX7 27 "TypingPool$Planner" "book" "LTypingPool$Book;") (List.mem_cons_of_mem _ (List.mem_append_left _ (List.mem_of_getElem? (i := 13) rfl)))) (fun _ h9 => h9) rfl dX7_goOn_133 ?_
                refine lv_iload hx hb dX7_goOn_136 (lv_at hl 11 rfl) ?_
                refine lv_iload_n hx hb dX7_goOn_138 rfl (lv_at hl 6 rfl) ?_
                refine lv_iload hx hb dX7_goOn_139 (lv_at hl 0 rfl) ?_
                have hFc := tw_free hF hS hA
                refine va_calli (va_runV (As := [.int (y_9 (a 42) p0.toNatClampNeg), .int p2, .int r_24]) (rest := []) ⟨hx, hb, hml, hown, hts⟩ (c_minuteAfterWork l dC dI ad av H.size a k τ ln y_L62 g u (y_9 (a 42) p0.toNatClampNeg) p2 r_24 hI ) (cwV 3 hts (gi_4 (List.mem_cons_of_mem _ (List.mem_append_left _ (List.mem_of_getElem? (i := 26) rfl))) (List.mem_cons_of_mem _ (List.mem_append_left _ (List.mem_of_getElem? (i := 27) rfl))) (List.mem_cons_of_mem _ (List.mem_append_left _ (List.mem_of_getElem? (i := 28) rfl))) (List.mem_cons_of_mem _ (List.mem_append_left _ (List.mem_of_getElem? (i := 29) rfl))) (fun _ hh => (List.mem_cons_of_mem _ (List.mem_append_right _ (List.mem_append_right _ (List.mem_append_right _ (List.mem_append_right _ (List.mem_append_right _ (List.mem_append_right _ (List.mem_append_right _ (List.mem_append_right _ (List.mem_append_left _ hh))))))))))) gd_c_minuteAfterWork) rfl rfl rfl (by decide +kernel) ⟨Nat.le_of_ble_eq_true rfl, Nat.le_of_ble_eq_true rfl⟩) ⟨pw_blind, tw_recv hK hT (fx_1 hX) (by decide) cl_e11 rfl, pw_use hT hK hFc hS hM⟩ rfl rfl hl.1 rfl (lv_room (Nat.le_of_ble_eq_true rfl)) dX7_goOn_141 ⟨Nat.le_of_ble_eq_true rfl, Nat.le_of_ble_eq_true rfl⟩) hS (fun q _ h => hFc q h) hFc (fun r0 r_25 t H locs ht hvm hw hB hz1 hk1 hS => ?_)
                refine W.widen (k := 0) (n := 0) (Nat.le_of_ble_eq_true rfl) (Nat.le_of_ble_eq_true rfl) ?_
                clear hvm hz1 hk1
                subst hw
                have hT := hB
                rw [ht] at hT
                refine lv_istore (lv' := [(13, .int r_25), (12, .int r_24), (11, .ref q_21), (10, .int (y_L62 (a 41) i9.toNatClampNeg)), (0, .ref (a 6)), (1, .int p0), (2, .int p1), (3, .int p2), (4, .int p3), (5, .int p4), (6, .int p5), (7, .int p6), (8, .int (y_9 (a 42) p0.toNatClampNeg)), (9, .int i9)]) hx hb dX7_goOn_144 hl (by decide) rfl (fun ls hl => ?_)
                refine lv_iconst (v := 0) hx hb dX7_goOn_146 (by decide) ?_
                refine lv_iload hx hb dX7_goOn_147 (lv_at hl 0 rfl) ?_
                refine lv_aload hx hb dX7_goOn_149 (lv_at hl 2 rfl) ?_
                refine tw_get (D := (dC, dI)) (v := .int (y_L62 q_21 6)) (C := RX6) (T := TX6) (N := 11) hx hb hts (fun _ hh => (List.mem_cons_of_mem _ (List.mem_append_right _ (List.mem_append_right _ (List.mem_append_right _ (List.mem_append_right _ (List.mem_append_right _ (List.mem_append_right _ (List.mem_append_right _ (List.mem_append_right _ (List.mem_append_right _ (List.mem_append_left _ hh)))))))))))) hown hK hT htq_21 (by decide) cl_e2 rfl 6 (by decide) (hts (.fieldLink RX7 136 "TypingPool$Piece" "due" "I") (List.mem_cons_of_mem _ (List.mem_append_left _ (List.mem_of_getElem? (i := 30) rfl)))) (fun _ h9 => h9) rfl dX7_goOn_151 ?_
                refine lv_isub hx hb dX7_goOn_154 ?_
                refine lv_topi (fun x_26 ex_26 => ?_)
                refine va_mmax hx hb (by rw [hml]; exact hl.1.symm) hown (hts (.methodLink RX7 139 Lib.Math.max.name) (List.mem_cons_of_mem _ (List.mem_append_left _ (List.mem_of_getElem? (i := 31) rfl)))) (hts (.static Lib.Math.max.name) (List.mem_cons_of_mem _ (List.mem_append_left _ (List.mem_of_getElem? (i := 32) rfl)))) (hts (.initialized "java/lang/Math") (List.mem_cons_of_mem _ (List.mem_append_left _ (List.mem_of_getElem? (i := 33) rfl)))) (hts (.code Lib.Math.max.name Lib.Math.max.code 2 (some .int)) (List.mem_cons_of_mem _ (List.mem_append_left _ (List.mem_of_getElem? (i := 34) rfl)))) (Nat.le_of_ble_eq_true rfl) (Nat.le_of_ble_eq_true rfl) (Nat.le_of_ble_eq_true rfl) (Nat.le_of_ble_eq_true rfl) dX7_goOn_155 ?_
                refine lv_topi (fun x_27 ex_27 => ?_)
                have hx_27 := z_max ex_27 (zk (x := 0) 0 rfl) rfl
                refine lv_istore (lv' := [(14, .int x_27), (13, .int r_25), (12, .int r_24), (11, .ref q_21), (10, .int (y_L62 (a 41) i9.toNatClampNeg)), (0, .ref (a 6)), (1, .int p0), (2, .int p1), (3, .int p2), (4, .int p3), (5, .int p4), (6, .int p5), (7, .int p6), (8, .int (y_9 (a 42) p0.toNatClampNeg)), (9, .int i9)]) hx hb dX7_goOn_158 hl (by decide) rfl (fun ls hl => ?_)
                refine lv_aload_n hx hb dX7_goOn_160 rfl (lv_at hl 5 rfl) ?_
                refine tw_get (D := (dC, dI)) (v := .ref (a 44)) (C := RX7) (T := TX7) (N := 13) hx hb hts (fun _ hh => (List.mem_cons_of_mem _ (List.mem_append_right _ (List.mem_append_left _ hh)))) hown hK hT (fx_6 hX) (by decide) cl_e16 rfl 7 (by decide) (hts (.fieldLink RX7 21 "TypingPool$Planner" "current" "[I") (List.mem_cons_of_mem _ (List.mem_append_left _ (List.mem_of_getElem? (i := 5) rfl)))) (fun _ h9 => h9) rfl dX7_goOn_161 ?_
                refine lv_iload hx hb dX7_goOn_164 (lv_at hl 12 rfl) ?_
                refine lv_iload hx hb dX7_goOn_166 (lv_at hl 4 rfl) ?_
                refine tw_iast hx hb hK hT hF hS 0 (fx_44 hX) (by decide) (fun _ => cl_e54) rfl (z_in rfl (by omega) (by omega)) dX7_goOn_168 (fun H locs hT hS => ?_)
                obtain ⟨y_28, hy_28, hT⟩ : ∃ z : Nat → Nat → Int32, z = up2 y_L62 (a 44) p6.toNatClampNeg (y_L62 (a 41) i9.toNatClampNeg) ∧ tw (dC, dI) a k τ ln z g H := ⟨_, rfl, hT⟩
                have hG : ag τ [16, 54, 55] y y_28 := by rw [hy_28]; exact hG.up (fx_44 hX) (by decide)
                have : (y_28 (a 6) 3).toInt = (y_L62 (a 6) 3).toInt := by rw [hy_28, up2_o (kd_ne (fx_6 hX) (fx_44 hX) (by decide))]
                have : (y_28 (a 6) 5).toInt = (y_L62 (a 6) 5).toInt := by rw [hy_28, up2_o (kd_ne (fx_6 hX) (fx_44 hX) (by decide))]
                have : (y_28 (a 6) 9).toInt = (y_L62 (a 6) 9).toInt := by rw [hy_28, up2_o (kd_ne (fx_6 hX) (fx_44 hX) (by decide))]
                have hI := hI.ag (S := [54]) (y' := y_28) (by rw [hy_28]; exact ag.one (fx_44 hX)) (by decide)
                refine lv_aload_n hx hb dX7_goOn_169 rfl (lv_at hl 5 rfl) ?_
                refine lv_iload_n hx hb dX7_goOn_170 rfl (lv_at hl 6 rfl) ?_
                refine lv_iload_n hx hb dX7_goOn_171 rfl (lv_at hl 7 rfl) ?_
                refine lv_iconst (v := 1) hx hb dX7_goOn_172 (by decide) ?_
                refine lv_iload hx hb dX7_goOn_173 (lv_at hl 14 rfl) ?_
                refine lv_ishl hx hb dX7_goOn_175 ?_
                refine lv_topi (fun x_29 ex_29 => ?_)
                refine lv_iconst (v := (-1)) hx hb dX7_goOn_176 (by decide) ?_
                refine lv_ixor hx hb dX7_goOn_177 ?_
                refine lv_topi (fun x_30 ex_30 => ?_)
                refine lv_iand hx hb dX7_goOn_178 ?_
                refine lv_topi (fun x_31 ex_31 => ?_)
                refine lv_iload hx hb dX7_goOn_179 (lv_at hl 1 rfl) ?_
                refine lv_iload hx hb dX7_goOn_181 (lv_at hl 9 rfl) ?_
                refine lv_aload hx hb dX7_goOn_183 (lv_at hl 3 rfl) ?_
                refine tw_get (D := (dC, dI)) (v := .int (y_28 q_21 7)) (C := RX6) (T := TX6) (N := 11) hx hb hts (fun _ hh => (List.mem_cons_of_mem _ (List.mem_append_right _ (List.mem_append_right _ (List.mem_append_right _ (List.mem_append_right _ (List.mem_append_right _ (List.mem_append_right _ (List.mem_append_right _ (List.mem_append_right _ (List.mem_append_right _ (List.mem_append_left _ hh)))))))))))) hown hK hT htq_21 (by decide) cl_e2 rfl 7 (by decide) (hts (.fieldLink RX7 118 "TypingPool$Piece" "words" "I") (List.mem_cons_of_mem _ (List.mem_append_left _ (List.mem_of_getElem? (i := 35) rfl)))) (fun _ h9 => h9) rfl dX7_goOn_185 ?_
                refine lv_ior hx hb dX7_goOn_188 ?_
                refine lv_topi (fun x_32 ex_32 => ?_)
                refine lv_iload hx hb dX7_goOn_189 (lv_at hl 10 rfl) ?_
                refine lv_iload hx hb dX7_goOn_191 (lv_at hl 0 rfl) ?_
                refine lv_if_le (tgt := 200) hx hb dX7_goOn_193 (by decide) (fun c_33 => ?_) (fun c_33 => ?_)
                · have nc_33 := z_le rfl (zk (x := 0) 0 rfl) c_33
                  refine lv_iconst (v := 0) hx hb dX7_goOn_200 (by decide) ?_
                  refine lv_iadd hx hb dX7_goOn_201 ?_
                  refine lv_topi (fun x_34 ex_34 => ?_)
                  refine lv_iload hx hb dX7_goOn_202 (lv_at hl 11 rfl) ?_
                  refine lv_iload hx hb dX7_goOn_204 (lv_at hl 0 rfl) ?_
                  refine lv_iadd hx hb dX7_goOn_206 ?_
                  refine lv_topi (fun x_35 ex_35 => ?_)
                  refine lv_iload hx hb dX7_goOn_207 (lv_at hl 12 rfl) ?_
                  refine lv_iconst (v := 1) hx hb dX7_goOn_209 (by decide) ?_
                  refine lv_iadd hx hb dX7_goOn_210 ?_
                  refine lv_topi (fun x_36 ex_36 => ?_)
                  have hx_36 := z_add ex_36 rfl (zk (x := 1) 1 rfl) (by omega) (by omega)
                  have hFc := tw_free hF hS hA
                  refine va_callv (va_runV (As := [.int p0, .int x_31, .int r_25, .int x_32, .int x_34, .int x_35, .int x_36]) (rest := []) ⟨hx, hb, hml, hown, hts⟩ (c_goOn8 l dC dI ad av H.size a k τ ln y_28 g u p0 x_31 r_25 x_32 x_34 x_35 x_36 nP nH hI (by omega) (by omega) gn (by rw [hG.at (fx_41 hX) (by decide)]; exact gp) (by rw [hG.at (fx_42 hX) (by decide)]; exact gh) (by omega) (by omega) (by omega)) (cwV 7 hts (gi_4 (List.mem_cons_of_mem _ (List.mem_append_left _ (List.mem_of_getElem? (i := 36) rfl))) (List.mem_cons_of_mem _ (List.mem_append_left _ (List.mem_of_getElem? (i := 37) rfl))) (List.mem_cons_of_mem _ (List.mem_append_left _ (List.mem_of_getElem? (i := 38) rfl))) (List.mem_cons_of_mem _ (List.mem_append_left _ (List.mem_of_getElem? (i := 4) rfl))) (fun _ hh => (List.mem_cons_of_mem _ (List.mem_append_right _ (List.mem_append_right _ (List.mem_append_right _ (List.mem_append_right _ (List.mem_append_right _ (List.mem_append_right _ (List.mem_append_right _ (List.mem_append_right _ (List.mem_append_right _ (List.mem_append_right _ (List.mem_append_left _ hh))))))))))))) gd_c_goOn8) rfl rfl rfl (by decide +kernel) ⟨Nat.le_of_ble_eq_true rfl, Nat.le_of_ble_eq_true rfl⟩) ⟨pw_blind, tw_recv hK hT (fx_6 hX) (by decide) cl_e16 rfl, pw_use hT hK hFc hS hM⟩ rfl rfl hl.1 rfl (lv_room (Nat.le_of_ble_eq_true rfl)) dX7_goOn_211 ⟨Nat.le_of_ble_eq_true rfl, Nat.le_of_ble_eq_true rfl⟩) hS (fun q _ h => hFc q h) hFc (fun u0 t H locs ht hvm hw hB hz1 hk1 hS => ?_)
                  refine W.widen (k := 0) (n := 0) (Nat.le_of_ble_eq_true rfl) (Nat.le_of_ble_eq_true rfl) ?_
                  clear hvm hz1 hk1
                  obtain ⟨y_38, hgy_38, hf_39, hf_40, hf_41, hT⟩ := hB
                  rw [ht] at hT
                  have hG := hG.tr hgy_38 (by decide)
                  have hI := hI.ag hgy_38 (by decide)
                  obtain ⟨x_42, ex_42⟩ : ∃ y : Int32, y = i9 + Int32.ofInt 1 := ⟨_, rfl⟩
                  have hx_42 := z_add ex_42 rfl (zk (x := Int32.ofInt 1) 1 rfl) (by omega) (by omega)
                  refine lv_iinc (v := x_42) (lv' := [(9, .int x_42), (14, .int x_27), (13, .int r_25), (12, .int r_24), (11, .ref q_21), (10, .int (y_L62 (a 41) i9.toNatClampNeg)), (0, .ref (a 6)), (1, .int p0), (2, .int p1), (3, .int p2), (4, .int p3), (5, .int p4), (6, .int p5), (7, .int p6), (8, .int (y_9 (a 42) p0.toNatClampNeg))]) hx hb dX7_goOn_214 hl (k := 14) rfl ex_42.symm (by decide) rfl (fun ls hl => ?_)
                  refine lv_goto (tgt := 62) hx hb dX7_goOn_217 (by decide) ?_
                  exact ih_62  x_42 y_38 H _ ls (by omega) hG hI (by omega) (by omega) (by omega) (by omega) (by omega) hT hS (lv_sub hl [6, 7, 8, 9, 10, 11, 12, 13, 14, 0] rfl)
                · have nc_33 := z_nle rfl (zk (x := 0) 0 rfl) c_33
                  refine lv_iconst (v := 1) hx hb dX7_goOn_196 (by decide) ?_
                  refine lv_goto (tgt := 201) hx hb dX7_goOn_197 (by decide) ?_
                  refine lv_iadd hx hb dX7_goOn_201 ?_
                  refine lv_topi (fun x_43 ex_43 => ?_)
                  refine lv_iload hx hb dX7_goOn_202 (lv_at hl 11 rfl) ?_
                  refine lv_iload hx hb dX7_goOn_204 (lv_at hl 0 rfl) ?_
                  refine lv_iadd hx hb dX7_goOn_206 ?_
                  refine lv_topi (fun x_44 ex_44 => ?_)
                  refine lv_iload hx hb dX7_goOn_207 (lv_at hl 12 rfl) ?_
                  refine lv_iconst (v := 1) hx hb dX7_goOn_209 (by decide) ?_
                  refine lv_iadd hx hb dX7_goOn_210 ?_
                  refine lv_topi (fun x_45 ex_45 => ?_)
                  have hx_45 := z_add ex_45 rfl (zk (x := 1) 1 rfl) (by omega) (by omega)
                  have hFc := tw_free hF hS hA
                  refine va_callv (va_runV (As := [.int p0, .int x_31, .int r_25, .int x_32, .int x_43, .int x_44, .int x_45]) (rest := []) ⟨hx, hb, hml, hown, hts⟩ (c_goOn8 l dC dI ad av H.size a k τ ln y_28 g u p0 x_31 r_25 x_32 x_43 x_44 x_45 nP nH hI (by omega) (by omega) gn (by rw [hG.at (fx_41 hX) (by decide)]; exact gp) (by rw [hG.at (fx_42 hX) (by decide)]; exact gh) (by omega) (by omega) (by omega)) (cwV 7 hts (gi_4 (List.mem_cons_of_mem _ (List.mem_append_left _ (List.mem_of_getElem? (i := 36) rfl))) (List.mem_cons_of_mem _ (List.mem_append_left _ (List.mem_of_getElem? (i := 37) rfl))) (List.mem_cons_of_mem _ (List.mem_append_left _ (List.mem_of_getElem? (i := 38) rfl))) (List.mem_cons_of_mem _ (List.mem_append_left _ (List.mem_of_getElem? (i := 4) rfl))) (fun _ hh => (List.mem_cons_of_mem _ (List.mem_append_right _ (List.mem_append_right _ (List.mem_append_right _ (List.mem_append_right _ (List.mem_append_right _ (List.mem_append_right _ (List.mem_append_right _ (List.mem_append_right _ (List.mem_append_right _ (List.mem_append_right _ (List.mem_append_left _ hh))))))))))))) gd_c_goOn8) rfl rfl rfl (by decide +kernel) ⟨Nat.le_of_ble_eq_true rfl, Nat.le_of_ble_eq_true rfl⟩) ⟨pw_blind, tw_recv hK hT (fx_6 hX) (by decide) cl_e16 rfl, pw_use hT hK hFc hS hM⟩ rfl rfl hl.1 rfl (lv_room (Nat.le_of_ble_eq_true rfl)) dX7_goOn_211 ⟨Nat.le_of_ble_eq_true rfl, Nat.le_of_ble_eq_true rfl⟩) hS (fun q _ h => hFc q h) hFc (fun u0 t H locs ht hvm hw hB hz1 hk1 hS => ?_)
                  refine W.widen (k := 0) (n := 0) (Nat.le_of_ble_eq_true rfl) (Nat.le_of_ble_eq_true rfl) ?_
                  clear hvm hz1 hk1
                  obtain ⟨y_47, hgy_47, hf_48, hf_49, hf_50, hT⟩ := hB
                  rw [ht] at hT
                  have hG := hG.tr hgy_47 (by decide)
                  have hI := hI.ag hgy_47 (by decide)
                  obtain ⟨x_51, ex_51⟩ : ∃ y : Int32, y = i9 + Int32.ofInt 1 := ⟨_, rfl⟩
                  have hx_51 := z_add ex_51 rfl (zk (x := Int32.ofInt 1) 1 rfl) (by omega) (by omega)
                  refine lv_iinc (v := x_51) (lv' := [(9, .int x_51), (14, .int x_27), (13, .int r_25), (12, .int r_24), (11, .ref q_21), (10, .int (y_L62 (a 41) i9.toNatClampNeg)), (0, .ref (a 6)), (1, .int p0), (2, .int p1), (3, .int p2), (4, .int p3), (5, .int p4), (6, .int p5), (7, .int p6), (8, .int (y_9 (a 42) p0.toNatClampNeg))]) hx hb dX7_goOn_214 hl (k := 14) rfl ex_51.symm (by decide) rfl (fun ls hl => ?_)
                  refine lv_goto (tgt := 62) hx hb dX7_goOn_217 (by decide) ?_
                  exact ih_62  x_51 y_47 H _ ls (by omega) hG hI (by omega) (by omega) (by omega) (by omega) (by omega) hT hS (lv_sub hl [6, 7, 8, 9, 10, 11, 12, 13, 14, 0] rfl)
        have hp_52 : (0 : Int32).toInt = 0 := (zk (x := 0) 0 rfl)
        exact loop_62 _ (0 : Int32) y_9 H _ ls (Nat.lt_succ_self _) hG hI (by omega) (by omega) (by omega) (by omega) (by omega) hT hS (lv_sub hl [2, 3, 4, 5, 6, 7, 8, 9, 1, 0] rfl)
      · refine lq_top (v := 0) hre ?_
        rw [ht] at hT
        refine lv_if_ne (tgt := 27) hx hb dX7_goOn_23 (by decide) (fun c_53 => absurd c_53 (by decide)) (fun c_53 => ?_)
        exact W.vret hx hb hr (fun t ht hW9 => ⟨⟨(), rfl, trivial, ⟨y, hG, by omega, by omega, by omega, tw_at ht hT⟩⟩, hS.F ht⟩) hS.2.2 dX7_goOn_26
def wo_c_beginHand7 : List Cond := [.fieldLink RX7 78 "TypingPool$Planner" "handCount" "I", .fieldLink RX7 15 "TypingPool$Planner" "hands" "[I", .fieldLink RX7 31 "TypingPool$Planner" "floor" "LTypingPool$Floor;", .fieldLink RX7 92 "TypingPool$Floor" "now" "I", .fieldLink RX7 95 "TypingPool$Floor" "words" "[I", .fieldLink RX7 98 "TypingPool$Floor" "has" "[I", .fieldLink RX7 27 "TypingPool$Planner" "book" "LTypingPool$Book;", .methodLink RX7 67 yX1_hasPiece, .instanceMethod yX1_hasPiece, .selects RX1 yX1_hasPiece yX1_hasPiece, .initialized RX1, .fieldLink RX7 101 "TypingPool$Floor" "workLeft" "[I", .fieldLink RX7 104 "TypingPool$Floor" "rate" "[I", .initialized RX11, .static yX11_minutesFor, .methodLink RX7 111 yX1_minuteAfterWork, .instanceMethod yX1_minuteAfterWork, .selects RX1 yX1_minuteAfterWork yX1_minuteAfterWork, .fieldLink RX7 115 "TypingPool$Book" "pieces" "[LTypingPool$Piece;", .fieldLink RX7 118 "TypingPool$Piece" "words" "I", .methodLink RX7 122 yX7_goOn, .instanceMethod yX7_goOn, .selects RX7 yX7_goOn yX7_goOn, .initialized RX7, .methodLink RX7 88 yX7_keep, .instanceMethod yX7_keep, .selects RX7 yX7_keep yX7_keep]
def wm_c_beginHand7 : List Cond := .code yX7_beginHand cX7_beginHand 11 none :: (wo_c_beginHand7 ++ (wsX70 ++ (wsX30 ++ (wm_c_hasPiece ++ (wm_c_minutesFor ++ (wm_c_minuteAfterWork ++ (wsX10 ++ (wsX60 ++ (wm_c_goOn7 ++ (wm_c_keep ++ ([] : List Cond)))))))))))
theorem gd_c_beginHand7 : ∀ w ∈ wm_c_beginHand7, goodWord w = true := gd_c rfl (gd_a (by decide) (gd_a gd_wsX70 (gd_a gd_wsX30 (gd_a gd_c_hasPiece (gd_a gd_c_minutesFor (gd_a gd_c_minuteAfterWork (gd_a gd_wsX10 (gd_a gd_wsX60 (gd_a gd_c_goOn7 (gd_a gd_c_keep gd_nil))))))))))
set_option maxRecDepth 20000 in
theorem im_c_beginHand7 : ∀ w ∈ wm_c_beginHand7, w ∈ lw_tbl := im_c (in_r [.code yX7_beginHand cX7_beginHand 11 none] [1042] (by decide +kernel)) (in_app (in_r wo_c_beginHand7 [520, 519, 516, 430, 438, 432, 515, 1027, 841, 842, 71, 450, 435, 70, 845, 1053, 1054, 1055, 128, 687, 1057, 1059, 24, 85, 1043, 1045, 22] (by decide +kernel)) (in_app im_wsX70 (in_app im_wsX30 (in_app im_c_hasPiece (in_app im_c_minutesFor (in_app im_c_minuteAfterWork (in_app im_wsX10 (in_app im_wsX60 (in_app im_c_goOn7 (in_app im_c_keep im_nil))))))))))
set_option maxHeartbeats 4000000 in
set_option maxRecDepth 100000 in
theorem c_beginHand7 (l : Launch) (dC : Nat → ClassId) (dI : Nat → Nat → Nat) (ad av : Nat → Nat) (sz : Nat) (a : Nat → Nat) (k : Nat → ClassId) (τ ln : Nat → Nat) (y : Nat → Nat → Int32) (g : Nat → Nat → Option Nat) (u : Nat → Int) (p0 : Int32) (p1 : Int32) (p2 : Int32) (p3 : Int32) (p4 : Int32) (nP : Int) (nH : Int) (hI : IC a u τ ln y g) (g3 : (y (a 6) 3).toInt = nP) (g5 : (y (a 6) 5).toInt = nH) (gn : (0 ≤ nP ∧ nP ≤ 5) ∧ 0 ≤ nH ∧ nH ≤ 3) (gp : vl nP (u 2) (y (a 41))) (gh : vl nH (u 1) (y (a 42))) (g9 : 0 ≤ (y (a 6) 9).toInt ∧ (y (a 6) 9).toInt ≤ 8) (hp0 : 0 ≤ p0.toInt) (hlen : p4.toInt = 7) : Met l yX7_beginHand wm_c_beginHand7 ({ frames := 5, cells := 0, slots := 0, locals := 300 }) (pw_ ad av (dC, dI) sz [.ref (a 6), .int p0, .int p1, .int p2, .int p3, .int p4] a k τ ln y g) (va_Qv (fun (_ : Unit) => True) (fun (_ : Unit) (t : State) => (∃ (y' : Nat → Nat → Int32), ag τ [16, 54, 55] y y' ∧ (y' (a 6) 3).toInt = (y (a 6) 3).toInt ∧ (y' (a 6) 5).toInt = (y (a 6) 5).toInt ∧ (0 ≤ (y' (a 6) 9).toInt ∧ (y' (a 6) 9).toInt ≤ 8) ∧ tw (dC, dI) a k τ ln y' g t.heap)) (fr τ sz)) 0 0 (fr τ sz) := by
  refine Met.ofW (cc := cX7_beginHand) (maxL := 11) (ret := none) (by decide) rfl ?_
  intro p e s m args below meth c s₁ B hml hv
  obtain ⟨rfl, hsz, hT, hK, hM⟩ := hv
  have hx := B.exec
  have hb := B.bytes
  have hr := B.returns
  have hts := atoms_spec (ws := wm_c_beginHand7) B.pre
  have hown : s.vm.findClass RX7 = some m.cls := findClass_of_methodNamed B.named
  have hlocks := B.notSynchronized
  subst hsz
  generalize hAe : fr τ s.heap.size = A at hM ⊢
  have hA : ∀ q : Nat, s.heap.size ≤ q → A q := fun q h => by rw [← hAe]; exact Or.inr h
  have hF : ∀ q, τ q ≠ 0 → A q := fun q h => by rw [← hAe]; exact Or.inl h
  have hS : va_S A s.heap s.heap [] := va_S.rf
  have hX := hI.1
  have hR := ic_r hI
  have hG : ag τ [16, 54, 55] y y := ag.rf
  have hl := lv_entry ([.ref (a 6), .int p0, .int p1, .int p2, .int p3, .int p4]) (n := 11) (Nat.le_of_ble_eq_true rfl)
  rw [lg_entry_eq]
  generalize (lg_sl ([.ref (a 6), .int p0, .int p1, .int p2, .int p3, .int p4]) ++ List.replicate (11 - (lg_sl ([.ref (a 6), .int p0, .int p1, .int p2, .int p3, .int p4])).length) Slot.unset).toArray = ls at hl ⊢
  have hl : lv_has ls 11 [(0, .ref (a 6)), (1, .int p0), (2, .int p1), (3, .int p2), (4, .int p3), (5, .int p4)] := hl
  refine lv_iload_n hx hb dX7_beginHand_0 rfl (lv_at hl 1 rfl) ?_
  refine lv_aload_n hx hb dX7_beginHand_1 rfl (lv_at hl 0 rfl) ?_
  refine tw_get (D := (dC, dI)) (v := .int (y (a 6) 5)) (C := RX7) (T := TX7) (N := 13) hx hb hts (fun _ hh => (List.mem_cons_of_mem _ (List.mem_append_right _ (List.mem_append_left _ hh)))) hown hK hT (fx_6 hX) (by decide) cl_e16 rfl 5 (by decide) (hts (.fieldLink RX7 78 "TypingPool$Planner" "handCount" "I") (List.mem_cons_of_mem _ (List.mem_append_left _ (List.mem_of_getElem? (i := 0) rfl)))) (fun _ h9 => h9) rfl dX7_beginHand_2 ?_
  refine lv_icmp_lt (tgt := 22) hx hb dX7_beginHand_5 (by decide) (fun c_1 => ?_) (fun c_1 => ?_)
  · have nc_1 := z_lt rfl rfl c_1
    refine lv_aload_n hx hb dX7_beginHand_22 rfl (lv_at hl 0 rfl) ?_
    refine tw_get (D := (dC, dI)) (v := .ref (a 42)) (C := RX7) (T := TX7) (N := 13) hx hb hts (fun _ hh => (List.mem_cons_of_mem _ (List.mem_append_right _ (List.mem_append_left _ hh)))) hown hK hT (fx_6 hX) (by decide) cl_e16 rfl 4 (by decide) (hts (.fieldLink RX7 15 "TypingPool$Planner" "hands" "[I") (List.mem_cons_of_mem _ (List.mem_append_left _ (List.mem_of_getElem? (i := 1) rfl)))) (fun _ h9 => h9) rfl dX7_beginHand_23 ?_
    refine lv_iload_n hx hb dX7_beginHand_26 rfl (lv_at hl 1 rfl) ?_
    refine tw_iald hx hb hK hT 0 (fx_42 hX) (by decide) cl_e52 rfl (z_in rfl (by omega) (by omega)) dX7_beginHand_27 ?_
    have hv0 : vl nH (u 1) (y (a 42)) := gh
    have hv_2 := vl_at hv0 (x := p0) rfl (by omega) (by omega)
    refine lv_istore (lv' := [(6, .int (y (a 42) p0.toNatClampNeg)), (0, .ref (a 6)), (1, .int p0), (2, .int p1), (3, .int p2), (4, .int p3), (5, .int p4)]) hx hb dX7_beginHand_28 hl (by decide) rfl (fun ls hl => ?_)
    refine lv_aload_n hx hb dX7_beginHand_30 rfl (lv_at hl 1 rfl) ?_
    refine tw_get (D := (dC, dI)) (v := .ref (a 3)) (C := RX7) (T := TX7) (N := 13) hx hb hts (fun _ hh => (List.mem_cons_of_mem _ (List.mem_append_right _ (List.mem_append_left _ hh)))) hown hK hT (fx_6 hX) (by decide) cl_e16 rfl 1 (by decide) (hts (.fieldLink RX7 31 "TypingPool$Planner" "floor" "LTypingPool$Floor;") (List.mem_cons_of_mem _ (List.mem_append_left _ (List.mem_of_getElem? (i := 2) rfl)))) (fun _ h9 => h9) rfl dX7_beginHand_31 ?_
    refine tw_get (D := (dC, dI)) (v := .int (y (a 3) 2)) (C := RX3) (T := TX3) (N := 12) hx hb hts (fun _ hh => (List.mem_cons_of_mem _ (List.mem_append_right _ (List.mem_append_right _ (List.mem_append_left _ hh))))) hown hK hT (fx_3 hX) (by decide) cl_e13 rfl 2 (by decide) (hts (.fieldLink RX7 92 "TypingPool$Floor" "now" "I") (List.mem_cons_of_mem _ (List.mem_append_left _ (List.mem_of_getElem? (i := 3) rfl)))) (fun _ h9 => h9) rfl dX7_beginHand_34 ?_
    refine lv_istore (lv' := [(7, .int (y (a 3) 2)), (6, .int (y (a 42) p0.toNatClampNeg)), (0, .ref (a 6)), (1, .int p0), (2, .int p1), (3, .int p2), (4, .int p3), (5, .int p4)]) hx hb dX7_beginHand_37 hl (by decide) rfl (fun ls hl => ?_)
    refine lv_aload_n hx hb dX7_beginHand_39 rfl (lv_at hl 2 rfl) ?_
    refine tw_get (D := (dC, dI)) (v := .ref (a 3)) (C := RX7) (T := TX7) (N := 13) hx hb hts (fun _ hh => (List.mem_cons_of_mem _ (List.mem_append_right _ (List.mem_append_left _ hh)))) hown hK hT (fx_6 hX) (by decide) cl_e16 rfl 1 (by decide) (hts (.fieldLink RX7 31 "TypingPool$Planner" "floor" "LTypingPool$Floor;") (List.mem_cons_of_mem _ (List.mem_append_left _ (List.mem_of_getElem? (i := 2) rfl)))) (fun _ h9 => h9) rfl dX7_beginHand_40 ?_
    refine tw_get (D := (dC, dI)) (v := .ref (a 22)) (C := RX3) (T := TX3) (N := 12) hx hb hts (fun _ hh => (List.mem_cons_of_mem _ (List.mem_append_right _ (List.mem_append_right _ (List.mem_append_left _ hh))))) hown hK hT (fx_3 hX) (by decide) cl_e13 rfl 5 (by decide) (hts (.fieldLink RX7 95 "TypingPool$Floor" "words" "[I") (List.mem_cons_of_mem _ (List.mem_append_left _ (List.mem_of_getElem? (i := 4) rfl)))) (fun _ h9 => h9) rfl dX7_beginHand_43 ?_
    refine lv_iload hx hb dX7_beginHand_46 (lv_at hl 1 rfl) ?_
    refine tw_iald hx hb hK hT 0 (fx_22 hX) (by decide) cl_e32 rfl (z_in rfl (by omega) (by omega)) dX7_beginHand_48 ?_
    refine lv_istore (lv' := [(8, .int (y (a 22) (y (a 42) p0.toNatClampNeg).toNatClampNeg)), (7, .int (y (a 3) 2)), (6, .int (y (a 42) p0.toNatClampNeg)), (0, .ref (a 6)), (1, .int p0), (2, .int p1), (3, .int p2), (4, .int p3), (5, .int p4)]) hx hb dX7_beginHand_49 hl (by decide) rfl (fun ls hl => ?_)
    refine lv_aload_n hx hb dX7_beginHand_51 rfl (lv_at hl 3 rfl) ?_
    refine tw_get (D := (dC, dI)) (v := .ref (a 3)) (C := RX7) (T := TX7) (N := 13) hx hb hts (fun _ hh => (List.mem_cons_of_mem _ (List.mem_append_right _ (List.mem_append_left _ hh)))) hown hK hT (fx_6 hX) (by decide) cl_e16 rfl 1 (by decide) (hts (.fieldLink RX7 31 "TypingPool$Planner" "floor" "LTypingPool$Floor;") (List.mem_cons_of_mem _ (List.mem_append_left _ (List.mem_of_getElem? (i := 2) rfl)))) (fun _ h9 => h9) rfl dX7_beginHand_52 ?_
    refine tw_get (D := (dC, dI)) (v := .ref (a 20)) (C := RX3) (T := TX3) (N := 12) hx hb hts (fun _ hh => (List.mem_cons_of_mem _ (List.mem_append_right _ (List.mem_append_right _ (List.mem_append_left _ hh))))) hown hK hT (fx_3 hX) (by decide) cl_e13 rfl 3 (by decide) (hts (.fieldLink RX7 98 "TypingPool$Floor" "has" "[I") (List.mem_cons_of_mem _ (List.mem_append_left _ (List.mem_of_getElem? (i := 5) rfl)))) (fun _ h9 => h9) rfl dX7_beginHand_55 ?_
    refine lv_iload hx hb dX7_beginHand_58 (lv_at hl 2 rfl) ?_
    refine tw_iald hx hb hK hT 0 (fx_20 hX) (by decide) cl_e30 rfl (z_in rfl (by omega) (by omega)) dX7_beginHand_60 ?_
    refine lv_istore (lv' := [(9, .int (y (a 20) (y (a 42) p0.toNatClampNeg).toNatClampNeg)), (8, .int (y (a 22) (y (a 42) p0.toNatClampNeg).toNatClampNeg)), (7, .int (y (a 3) 2)), (6, .int (y (a 42) p0.toNatClampNeg)), (0, .ref (a 6)), (1, .int p0), (2, .int p1), (3, .int p2), (4, .int p3), (5, .int p4)]) hx hb dX7_beginHand_61 hl (by decide) rfl (fun ls hl => ?_)
    refine lv_aload_n hx hb dX7_beginHand_63 rfl (lv_at hl 4 rfl) ?_
    refine tw_get (D := (dC, dI)) (v := .ref (a 1)) (C := RX7) (T := TX7) (N := 13) hx hb hts (fun _ hh => (List.mem_cons_of_mem _ (List.mem_append_right _ (List.mem_append_left _ hh)))) hown hK hT (fx_6 hX) (by decide) cl_e16 rfl 0 (by decide) (hts (.fieldLink RX7 27 "TypingPool$Planner" "book" "LTypingPool$Book;") (List.mem_cons_of_mem _ (List.mem_append_left _ (List.mem_of_getElem? (i := 6) rfl)))) (fun _ h9 => h9) rfl dX7_beginHand_64 ?_
    refine lv_iload hx hb dX7_beginHand_67 (lv_at hl 0 rfl) ?_
    have hFc := tw_free hF hS hA
    refine va_calli (va_runV (As := [.int (y (a 20) (y (a 42) p0.toNatClampNeg).toNatClampNeg)]) (rest := []) ⟨hx, hb, hml, hown, hts⟩ (c_hasPiece l dC dI ad av s.heap.size a k τ ln y g u (y (a 20) (y (a 42) p0.toNatClampNeg).toNatClampNeg) hI ) (cwV 1 hts (gi_4 (List.mem_cons_of_mem _ (List.mem_append_left _ (List.mem_of_getElem? (i := 7) rfl))) (List.mem_cons_of_mem _ (List.mem_append_left _ (List.mem_of_getElem? (i := 8) rfl))) (List.mem_cons_of_mem _ (List.mem_append_left _ (List.mem_of_getElem? (i := 9) rfl))) (List.mem_cons_of_mem _ (List.mem_append_left _ (List.mem_of_getElem? (i := 10) rfl))) (fun _ hh => (List.mem_cons_of_mem _ (List.mem_append_right _ (List.mem_append_right _ (List.mem_append_right _ (List.mem_append_left _ hh)))))) gd_c_hasPiece) rfl rfl rfl (by decide +kernel) ⟨Nat.le_of_ble_eq_true rfl, Nat.le_of_ble_eq_true rfl⟩) ⟨pw_blind, tw_recv hK hT (fx_1 hX) (by decide) cl_e11 rfl, pw_use hT hK hFc hS hM⟩ rfl rfl hl.1 rfl (lv_room (Nat.le_of_ble_eq_true rfl)) dX7_beginHand_69 ⟨Nat.le_of_ble_eq_true rfl, Nat.le_of_ble_eq_true rfl⟩) hS (fun q _ h => hFc q h) hFc (fun r0 r_3 t H locs ht hvm hw hB hz1 hk1 hS => ?_)
    refine W.widen (k := 0) (n := 0) (Nat.le_of_ble_eq_true rfl) (Nat.le_of_ble_eq_true rfl) ?_
    clear hvm hz1 hk1
    subst hw
    rcases hB with ⟨hre, hf_4, hf_5, hT⟩ | ⟨hre, hf_6, hT⟩
    · refine lq_top (v := 1) hre ?_
      rw [ht] at hT
      refine lv_if_eq (tgt := 133) hx hb dX7_beginHand_72 (by decide) (fun c_7 => absurd c_7 (by decide)) (fun c_7 => ?_)
      refine lv_aload_n hx hb dX7_beginHand_75 rfl (lv_at hl 4 rfl) ?_
      refine tw_get (D := (dC, dI)) (v := .ref (a 3)) (C := RX7) (T := TX7) (N := 13) hx hb hts (fun _ hh => (List.mem_cons_of_mem _ (List.mem_append_right _ (List.mem_append_left _ hh)))) hown hK hT (fx_6 hX) (by decide) cl_e16 rfl 1 (by decide) (hts (.fieldLink RX7 31 "TypingPool$Planner" "floor" "LTypingPool$Floor;") (List.mem_cons_of_mem _ (List.mem_append_left _ (List.mem_of_getElem? (i := 2) rfl)))) (fun _ h9 => h9) rfl dX7_beginHand_76 ?_
      refine tw_get (D := (dC, dI)) (v := .ref (a 27)) (C := RX3) (T := TX3) (N := 12) hx hb hts (fun _ hh => (List.mem_cons_of_mem _ (List.mem_append_right _ (List.mem_append_right _ (List.mem_append_left _ hh))))) hown hK hT (fx_3 hX) (by decide) cl_e13 rfl 10 (by decide) (hts (.fieldLink RX7 101 "TypingPool$Floor" "workLeft" "[I") (List.mem_cons_of_mem _ (List.mem_append_left _ (List.mem_of_getElem? (i := 11) rfl)))) (fun _ h9 => h9) rfl dX7_beginHand_79 ?_
      refine lv_iload hx hb dX7_beginHand_82 (lv_at hl 0 rfl) ?_
      refine tw_iald hx hb hK hT 0 (fx_27 hX) (by decide) cl_e37 rfl (z_in rfl (by omega) (by omega)) dX7_beginHand_84 ?_
      refine lv_aload_n hx hb dX7_beginHand_85 rfl (lv_at hl 4 rfl) ?_
      refine tw_get (D := (dC, dI)) (v := .ref (a 3)) (C := RX7) (T := TX7) (N := 13) hx hb hts (fun _ hh => (List.mem_cons_of_mem _ (List.mem_append_right _ (List.mem_append_left _ hh)))) hown hK hT (fx_6 hX) (by decide) cl_e16 rfl 1 (by decide) (hts (.fieldLink RX7 31 "TypingPool$Planner" "floor" "LTypingPool$Floor;") (List.mem_cons_of_mem _ (List.mem_append_left _ (List.mem_of_getElem? (i := 2) rfl)))) (fun _ h9 => h9) rfl dX7_beginHand_86 ?_
      refine tw_get (D := (dC, dI)) (v := .ref (a 21)) (C := RX3) (T := TX3) (N := 12) hx hb hts (fun _ hh => (List.mem_cons_of_mem _ (List.mem_append_right _ (List.mem_append_right _ (List.mem_append_left _ hh))))) hown hK hT (fx_3 hX) (by decide) cl_e13 rfl 4 (by decide) (hts (.fieldLink RX7 104 "TypingPool$Floor" "rate" "[I") (List.mem_cons_of_mem _ (List.mem_append_left _ (List.mem_of_getElem? (i := 12) rfl)))) (fun _ h9 => h9) rfl dX7_beginHand_89 ?_
      refine lv_iload hx hb dX7_beginHand_92 (lv_at hl 3 rfl) ?_
      refine tw_iald hx hb hK hT 0 (fx_21 hX) (by decide) cl_e31 rfl (z_in rfl (by omega) (by omega)) dX7_beginHand_94 ?_
      have hFc := tw_free hF hS hA
      refine va_calli (va_runSN (As := [.int (y (a 27) (y (a 20) (y (a 42) p0.toNatClampNeg).toNatClampNeg).toNatClampNeg), .int (y (a 21) (y (a 42) p0.toNatClampNeg).toNatClampNeg)]) (rest := []) ⟨hx, hb, hml, hown, hts⟩ (c_minutesFor l dC dI ad av H.size a k τ ln y g u (y (a 27) (y (a 20) (y (a 42) p0.toNatClampNeg).toNatClampNeg).toNatClampNeg) (y (a 21) (y (a 42) p0.toNatClampNeg).toNatClampNeg)  ) ⟨va_cnB 2 hts (gi_0  (fun _ hh => (List.mem_cons_of_mem _ (List.mem_append_right _ (List.mem_append_right _ (List.mem_append_right _ (List.mem_append_right _ (List.mem_append_left _ hh))))))) gd_c_minutesFor) rfl rfl rfl hM.1.2.2.2.1 (hts (.initialized RX11) (List.mem_cons_of_mem _ (List.mem_append_left _ (List.mem_of_getElem? (i := 13) rfl)))) (by decide +kernel) ⟨Nat.le_of_ble_eq_true rfl, Nat.le_of_ble_eq_true rfl⟩, (hts (.static yX11_minutesFor) (List.mem_cons_of_mem _ (List.mem_append_left _ (List.mem_of_getElem? (i := 14) rfl)))), trivial⟩ ⟨pw_blind, pw_use hT hK hFc hS hM⟩ rfl rfl hl.1 rfl (lv_room (Nat.le_of_ble_eq_true rfl)) dX7_beginHand_95 ⟨Nat.le_of_ble_eq_true rfl, Nat.le_of_ble_eq_true rfl⟩) hS (fun q _ h => hFc q h) hFc (fun r0 r_8 t H locs ht hvm hw hB hz1 hk1 hS => ?_)
      refine W.widen (k := 0) (n := 0) (Nat.le_of_ble_eq_true rfl) (Nat.le_of_ble_eq_true rfl) ?_
      clear hvm hz1 hk1
      subst hw
      have hT := hB
      rw [ht] at hT
      refine lv_istore (lv' := [(10, .int r_8), (9, .int (y (a 20) (y (a 42) p0.toNatClampNeg).toNatClampNeg)), (8, .int (y (a 22) (y (a 42) p0.toNatClampNeg).toNatClampNeg)), (7, .int (y (a 3) 2)), (6, .int (y (a 42) p0.toNatClampNeg)), (0, .ref (a 6)), (1, .int p0), (2, .int p1), (3, .int p2), (4, .int p3), (5, .int p4)]) hx hb dX7_beginHand_98 hl (by decide) rfl (fun ls hl => ?_)
      refine lv_aload_n hx hb dX7_beginHand_100 rfl (lv_at hl 5 rfl) ?_
      refine tw_get (D := (dC, dI)) (v := .ref (a 1)) (C := RX7) (T := TX7) (N := 13) hx hb hts (fun _ hh => (List.mem_cons_of_mem _ (List.mem_append_right _ (List.mem_append_left _ hh)))) hown hK hT (fx_6 hX) (by decide) cl_e16 rfl 0 (by decide) (hts (.fieldLink RX7 27 "TypingPool$Planner" "book" "LTypingPool$Book;") (List.mem_cons_of_mem _ (List.mem_append_left _ (List.mem_of_getElem? (i := 6) rfl)))) (fun _ h9 => h9) rfl dX7_beginHand_101 ?_
      refine lv_iload hx hb dX7_beginHand_104 (lv_at hl 4 rfl) ?_
      refine lv_iload hx hb dX7_beginHand_106 (lv_at hl 3 rfl) ?_
      refine lv_iload hx hb dX7_beginHand_108 (lv_at hl 0 rfl) ?_
      have hFc := tw_free hF hS hA
      refine va_calli (va_runV (As := [.int (y (a 42) p0.toNatClampNeg), .int (y (a 3) 2), .int r_8]) (rest := []) ⟨hx, hb, hml, hown, hts⟩ (c_minuteAfterWork l dC dI ad av H.size a k τ ln y g u (y (a 42) p0.toNatClampNeg) (y (a 3) 2) r_8 hI ) (cwV 3 hts (gi_4 (List.mem_cons_of_mem _ (List.mem_append_left _ (List.mem_of_getElem? (i := 15) rfl))) (List.mem_cons_of_mem _ (List.mem_append_left _ (List.mem_of_getElem? (i := 16) rfl))) (List.mem_cons_of_mem _ (List.mem_append_left _ (List.mem_of_getElem? (i := 17) rfl))) (List.mem_cons_of_mem _ (List.mem_append_left _ (List.mem_of_getElem? (i := 10) rfl))) (fun _ hh => (List.mem_cons_of_mem _ (List.mem_append_right _ (List.mem_append_right _ (List.mem_append_right _ (List.mem_append_right _ (List.mem_append_right _ (List.mem_append_left _ hh)))))))) gd_c_minuteAfterWork) rfl rfl rfl (by decide +kernel) ⟨Nat.le_of_ble_eq_true rfl, Nat.le_of_ble_eq_true rfl⟩) ⟨pw_blind, tw_recv hK hT (fx_1 hX) (by decide) cl_e11 rfl, pw_use hT hK hFc hS hM⟩ rfl rfl hl.1 rfl (lv_room (Nat.le_of_ble_eq_true rfl)) dX7_beginHand_110 ⟨Nat.le_of_ble_eq_true rfl, Nat.le_of_ble_eq_true rfl⟩) hS (fun q _ h => hFc q h) hFc (fun r0 r_9 t H locs ht hvm hw hB hz1 hk1 hS => ?_)
      refine W.widen (k := 0) (n := 0) (Nat.le_of_ble_eq_true rfl) (Nat.le_of_ble_eq_true rfl) ?_
      clear hvm hz1 hk1
      subst hw
      have hT := hB
      rw [ht] at hT
      refine lv_istore (lv' := [(7, .int r_9), (10, .int r_8), (9, .int (y (a 20) (y (a 42) p0.toNatClampNeg).toNatClampNeg)), (8, .int (y (a 22) (y (a 42) p0.toNatClampNeg).toNatClampNeg)), (6, .int (y (a 42) p0.toNatClampNeg)), (0, .ref (a 6)), (1, .int p0), (2, .int p1), (3, .int p2), (4, .int p3), (5, .int p4)]) hx hb dX7_beginHand_113 hl (by decide) rfl (fun ls hl => ?_)
      refine lv_iload hx hb dX7_beginHand_115 (lv_at hl 3 rfl) ?_
      refine lv_aload_n hx hb dX7_beginHand_117 rfl (lv_at hl 5 rfl) ?_
      refine tw_get (D := (dC, dI)) (v := .ref (a 1)) (C := RX7) (T := TX7) (N := 13) hx hb hts (fun _ hh => (List.mem_cons_of_mem _ (List.mem_append_right _ (List.mem_append_left _ hh)))) hown hK hT (fx_6 hX) (by decide) cl_e16 rfl 0 (by decide) (hts (.fieldLink RX7 27 "TypingPool$Planner" "book" "LTypingPool$Book;") (List.mem_cons_of_mem _ (List.mem_append_left _ (List.mem_of_getElem? (i := 6) rfl)))) (fun _ h9 => h9) rfl dX7_beginHand_118 ?_
      refine tw_get (D := (dC, dI)) (v := .ref (a 11)) (C := RX1) (T := TX1) (N := 8) hx hb hts (fun _ hh => (List.mem_cons_of_mem _ (List.mem_append_right _ (List.mem_append_right _ (List.mem_append_right _ (List.mem_append_right _ (List.mem_append_right _ (List.mem_append_right _ (List.mem_append_left _ hh))))))))) hown hK hT (fx_1 hX) (by decide) cl_e11 rfl 4 (by decide) (hts (.fieldLink RX7 115 "TypingPool$Book" "pieces" "[LTypingPool$Piece;") (List.mem_cons_of_mem _ (List.mem_append_left _ (List.mem_of_getElem? (i := 18) rfl)))) (fun _ h9 => h9) rfl dX7_beginHand_121 ?_
      refine lv_iload hx hb dX7_beginHand_124 (lv_at hl 2 rfl) ?_
      refine tw_aald hx hb hK hT 4 (fx_11 hX) (by decide) cl_e21 rfl (z_in rfl (by omega) (by omega)) dX7_beginHand_126 ?_
      obtain ⟨q_10, hgq_10, htq_10⟩ := ic_l11 hI (x := (y (a 20) (y (a 42) p0.toNatClampNeg).toNatClampNeg)) rfl (by omega) (by omega)
      refine lq_topr hgq_10 ?_
      refine tw_get (D := (dC, dI)) (v := .int (y q_10 7)) (C := RX6) (T := TX6) (N := 11) hx hb hts (fun _ hh => (List.mem_cons_of_mem _ (List.mem_append_right _ (List.mem_append_right _ (List.mem_append_right _ (List.mem_append_right _ (List.mem_append_right _ (List.mem_append_right _ (List.mem_append_right _ (List.mem_append_left _ hh)))))))))) hown hK hT htq_10 (by decide) cl_e2 rfl 7 (by decide) (hts (.fieldLink RX7 118 "TypingPool$Piece" "words" "I") (List.mem_cons_of_mem _ (List.mem_append_left _ (List.mem_of_getElem? (i := 19) rfl)))) (fun _ h9 => h9) rfl dX7_beginHand_127 ?_
      refine lv_ior hx hb dX7_beginHand_130 ?_
      refine lv_topi (fun x_11 ex_11 => ?_)
      refine lv_istore (lv' := [(8, .int x_11), (7, .int r_9), (10, .int r_8), (9, .int (y (a 20) (y (a 42) p0.toNatClampNeg).toNatClampNeg)), (6, .int (y (a 42) p0.toNatClampNeg)), (0, .ref (a 6)), (1, .int p0), (2, .int p1), (3, .int p2), (4, .int p3), (5, .int p4)]) hx hb dX7_beginHand_131 hl (by decide) rfl (fun ls hl => ?_)
      refine lv_aload_n hx hb dX7_beginHand_133 rfl (lv_at hl 5 rfl) ?_
      refine lv_iload_n hx hb dX7_beginHand_134 rfl (lv_at hl 6 rfl) ?_
      refine lv_iload_n hx hb dX7_beginHand_135 rfl (lv_at hl 7 rfl) ?_
      refine lv_iload hx hb dX7_beginHand_136 (lv_at hl 1 rfl) ?_
      refine lv_iload hx hb dX7_beginHand_138 (lv_at hl 0 rfl) ?_
      refine lv_iload_n hx hb dX7_beginHand_140 rfl (lv_at hl 8 rfl) ?_
      refine lv_iload hx hb dX7_beginHand_141 (lv_at hl 9 rfl) ?_
      refine lv_iload hx hb dX7_beginHand_143 (lv_at hl 10 rfl) ?_
      have hFc := tw_free hF hS hA
      refine va_callv (va_runV (As := [.int p0, .int p1, .int r_9, .int x_11, .int p2, .int p3, .int p4]) (rest := []) ⟨hx, hb, hml, hown, hts⟩ (c_goOn7 l dC dI ad av H.size a k τ ln y g u p0 p1 r_9 x_11 p2 p3 p4 nP nH hI (by omega) (by omega) gn gp gh (by omega) (by omega) (by omega)) (cwV 7 hts (gi_4 (List.mem_cons_of_mem _ (List.mem_append_left _ (List.mem_of_getElem? (i := 20) rfl))) (List.mem_cons_of_mem _ (List.mem_append_left _ (List.mem_of_getElem? (i := 21) rfl))) (List.mem_cons_of_mem _ (List.mem_append_left _ (List.mem_of_getElem? (i := 22) rfl))) (List.mem_cons_of_mem _ (List.mem_append_left _ (List.mem_of_getElem? (i := 23) rfl))) (fun _ hh => (List.mem_cons_of_mem _ (List.mem_append_right _ (List.mem_append_right _ (List.mem_append_right _ (List.mem_append_right _ (List.mem_append_right _ (List.mem_append_right _ (List.mem_append_right _ (List.mem_append_right _ (List.mem_append_left _ hh))))))))))) gd_c_goOn7) rfl rfl rfl (by decide +kernel) ⟨Nat.le_of_ble_eq_true rfl, Nat.le_of_ble_eq_true rfl⟩) ⟨pw_blind, tw_recv hK hT (fx_6 hX) (by decide) cl_e16 rfl, pw_use hT hK hFc hS hM⟩ rfl rfl hl.1 rfl (lv_room (Nat.le_of_ble_eq_true rfl)) dX7_beginHand_145 ⟨Nat.le_of_ble_eq_true rfl, Nat.le_of_ble_eq_true rfl⟩) hS (fun q _ h => hFc q h) hFc (fun u0 t H locs ht hvm hw hB hz1 hk1 hS => ?_)
      refine W.widen (k := 0) (n := 0) (Nat.le_of_ble_eq_true rfl) (Nat.le_of_ble_eq_true rfl) ?_
      clear hvm hz1 hk1
      obtain ⟨y_13, hgy_13, hf_14, hf_15, hf_16, hT⟩ := hB
      rw [ht] at hT
      have hG := hG.tr hgy_13 (by decide)
      have hI := hI.ag hgy_13 (by decide)
      exact W.vret hx hb hr (fun t ht hW9 => ⟨⟨(), rfl, trivial, ⟨y_13, hG, by omega, by omega, by omega, tw_at ht hT⟩⟩, hS.F ht⟩) hS.2.2 dX7_beginHand_148
    · refine lq_top (v := 0) hre ?_
      rw [ht] at hT
      refine lv_if_eq (tgt := 133) hx hb dX7_beginHand_72 (by decide) (fun c_17 => ?_) (fun c_17 => absurd c_17 (by decide))
      refine lv_aload_n hx hb dX7_beginHand_133 rfl (lv_at hl 4 rfl) ?_
      refine lv_iload_n hx hb dX7_beginHand_134 rfl (lv_at hl 5 rfl) ?_
      refine lv_iload_n hx hb dX7_beginHand_135 rfl (lv_at hl 6 rfl) ?_
      refine lv_iload hx hb dX7_beginHand_136 (lv_at hl 2 rfl) ?_
      refine lv_iload hx hb dX7_beginHand_138 (lv_at hl 1 rfl) ?_
      refine lv_iload_n hx hb dX7_beginHand_140 rfl (lv_at hl 7 rfl) ?_
      refine lv_iload hx hb dX7_beginHand_141 (lv_at hl 8 rfl) ?_
      refine lv_iload hx hb dX7_beginHand_143 (lv_at hl 9 rfl) ?_
      have hFc := tw_free hF hS hA
      refine va_callv (va_runV (As := [.int p0, .int p1, .int (y (a 3) 2), .int (y (a 22) (y (a 42) p0.toNatClampNeg).toNatClampNeg), .int p2, .int p3, .int p4]) (rest := []) ⟨hx, hb, hml, hown, hts⟩ (c_goOn7 l dC dI ad av H.size a k τ ln y g u p0 p1 (y (a 3) 2) (y (a 22) (y (a 42) p0.toNatClampNeg).toNatClampNeg) p2 p3 p4 nP nH hI (by omega) (by omega) gn gp gh (by omega) (by omega) (by omega)) (cwV 7 hts (gi_4 (List.mem_cons_of_mem _ (List.mem_append_left _ (List.mem_of_getElem? (i := 20) rfl))) (List.mem_cons_of_mem _ (List.mem_append_left _ (List.mem_of_getElem? (i := 21) rfl))) (List.mem_cons_of_mem _ (List.mem_append_left _ (List.mem_of_getElem? (i := 22) rfl))) (List.mem_cons_of_mem _ (List.mem_append_left _ (List.mem_of_getElem? (i := 23) rfl))) (fun _ hh => (List.mem_cons_of_mem _ (List.mem_append_right _ (List.mem_append_right _ (List.mem_append_right _ (List.mem_append_right _ (List.mem_append_right _ (List.mem_append_right _ (List.mem_append_right _ (List.mem_append_right _ (List.mem_append_left _ hh))))))))))) gd_c_goOn7) rfl rfl rfl (by decide +kernel) ⟨Nat.le_of_ble_eq_true rfl, Nat.le_of_ble_eq_true rfl⟩) ⟨pw_blind, tw_recv hK hT (fx_6 hX) (by decide) cl_e16 rfl, pw_use hT hK hFc hS hM⟩ rfl rfl hl.1 rfl (lv_room (Nat.le_of_ble_eq_true rfl)) dX7_beginHand_145 ⟨Nat.le_of_ble_eq_true rfl, Nat.le_of_ble_eq_true rfl⟩) hS (fun q _ h => hFc q h) hFc (fun u0 t H locs ht hvm hw hB hz1 hk1 hS => ?_)
      refine W.widen (k := 0) (n := 0) (Nat.le_of_ble_eq_true rfl) (Nat.le_of_ble_eq_true rfl) ?_
      clear hvm hz1 hk1
      obtain ⟨y_19, hgy_19, hf_20, hf_21, hf_22, hT⟩ := hB
      rw [ht] at hT
      have hG := hG.tr hgy_19 (by decide)
      have hI := hI.ag hgy_19 (by decide)
      exact W.vret hx hb hr (fun t ht hW9 => ⟨⟨(), rfl, trivial, ⟨y_19, hG, by omega, by omega, by omega, tw_at ht hT⟩⟩, hS.F ht⟩) hS.2.2 dX7_beginHand_148
  · have nc_1 := z_nlt rfl rfl c_1
    refine lv_iload_n hx hb dX7_beginHand_8 rfl (lv_at hl 2 rfl) ?_
    refine lv_if_ne (tgt := 21) hx hb dX7_beginHand_9 (by decide) (fun c_23 => ?_) (fun c_23 => ?_)
    · have nc_23 := z_ne rfl (zk (x := 0) 0 rfl) c_23
      exact W.vret hx hb hr (fun t ht hW9 => ⟨⟨(), rfl, trivial, ⟨y, hG, by omega, by omega, by omega, tw_at ht hT⟩⟩, hS.F ht⟩) hS.2.2 dX7_beginHand_21
    · have nc_23 := z_eq rfl (zk (x := 0) 0 rfl) c_23
      refine lv_aload_n hx hb dX7_beginHand_12 rfl (lv_at hl 0 rfl) ?_
      refine lv_iload_n hx hb dX7_beginHand_13 rfl (lv_at hl 3 rfl) ?_
      refine lv_iload hx hb dX7_beginHand_14 (lv_at hl 4 rfl) ?_
      refine lv_iload hx hb dX7_beginHand_16 (lv_at hl 5 rfl) ?_
      have hFc := tw_free hF hS hA
      refine va_callv (va_runV (As := [.int p2, .int p3, .int p4]) (rest := []) ⟨hx, hb, hml, hown, hts⟩ (c_keep l dC dI ad av s.heap.size a k τ ln y g u p2 p3 p4 hI (by omega) (by omega) (by omega)) (cwV 3 hts (gi_4 (List.mem_cons_of_mem _ (List.mem_append_left _ (List.mem_of_getElem? (i := 24) rfl))) (List.mem_cons_of_mem _ (List.mem_append_left _ (List.mem_of_getElem? (i := 25) rfl))) (List.mem_cons_of_mem _ (List.mem_append_left _ (List.mem_of_getElem? (i := 26) rfl))) (List.mem_cons_of_mem _ (List.mem_append_left _ (List.mem_of_getElem? (i := 23) rfl))) (fun _ hh => (List.mem_cons_of_mem _ (List.mem_append_right _ (List.mem_append_right _ (List.mem_append_right _ (List.mem_append_right _ (List.mem_append_right _ (List.mem_append_right _ (List.mem_append_right _ (List.mem_append_right _ (List.mem_append_right _ (List.mem_append_left _ hh)))))))))))) gd_c_keep) rfl rfl rfl (by decide +kernel) ⟨Nat.le_of_ble_eq_true rfl, Nat.le_of_ble_eq_true rfl⟩) ⟨pw_blind, tw_recv hK hT (fx_6 hX) (by decide) cl_e16 rfl, pw_use hT hK hFc hS hM⟩ rfl rfl hl.1 rfl (lv_room (Nat.le_of_ble_eq_true rfl)) dX7_beginHand_18 ⟨Nat.le_of_ble_eq_true rfl, Nat.le_of_ble_eq_true rfl⟩) hS (fun q _ h => hFc q h) hFc (fun u0 t H locs ht hvm hw hB hz1 hk1 hS => ?_)
      refine W.widen (k := 0) (n := 0) (Nat.le_of_ble_eq_true rfl) (Nat.le_of_ble_eq_true rfl) ?_
      clear hvm hz1 hk1
      obtain ⟨y_25, hgy_25, hf_26, hf_27, hf_28, hT⟩ := hB
      rw [ht] at hT
      have hG := hG.tr hgy_25 (by decide)
      have hI := hI.ag hgy_25 (by decide)
      exact W.vret hx hb hr (fun t ht hW9 => ⟨⟨(), rfl, trivial, ⟨y_25, hG, by omega, by omega, by omega, tw_at ht hT⟩⟩, hS.F ht⟩) hS.2.2 dX7_beginHand_21
def wo_c_goOn6 : List Cond := [.fieldLink RX7 78 "TypingPool$Planner" "handCount" "I", .methodLink RX7 126 yX7_isBetter, .instanceMethod yX7_isBetter, .selects RX7 yX7_isBetter yX7_isBetter, .initialized RX7, .fieldLink RX7 21 "TypingPool$Planner" "current" "[I", .methodLink RX7 63 yX7_beginHand, .instanceMethod yX7_beginHand, .selects RX7 yX7_beginHand yX7_beginHand, .fieldLink RX7 15 "TypingPool$Planner" "hands" "[I", .fieldLink RX7 42 "TypingPool$Planner" "pieceCount" "I", .fieldLink RX7 18 "TypingPool$Planner" "allowed" "[I", .fieldLink RX7 9 "TypingPool$Planner" "pieces" "[I", .fieldLink RX7 27 "TypingPool$Planner" "book" "LTypingPool$Book;", .fieldLink RX7 115 "TypingPool$Book" "pieces" "[LTypingPool$Piece;", .methodLink RX7 130 yX6_allWork, .instanceMethod yX6_allWork, .selects RX6 yX6_allWork yX6_allWork, .initialized RX6, .fieldLink RX7 31 "TypingPool$Planner" "floor" "LTypingPool$Floor;", .methodLink RX7 133 yX3_rateFor, .instanceMethod yX3_rateFor, .selects RX3 yX3_rateFor yX3_rateFor, .initialized RX3, .initialized RX11, .static yX11_minutesFor, .methodLink RX7 111 yX1_minuteAfterWork, .instanceMethod yX1_minuteAfterWork, .selects RX1 yX1_minuteAfterWork yX1_minuteAfterWork, .initialized RX1, .fieldLink RX7 136 "TypingPool$Piece" "due" "I", .methodLink RX7 139 Lib.Math.max.name, .static Lib.Math.max.name, .initialized "java/lang/Math", .code Lib.Math.max.name Lib.Math.max.code 2 (some .int), .fieldLink RX7 118 "TypingPool$Piece" "words" "I", .methodLink RX7 122 yX7_goOn, .instanceMethod yX7_goOn, .selects RX7 yX7_goOn yX7_goOn]
def wm_c_goOn6 : List Cond := .code yX7_goOn cX7_goOn 15 none :: (wo_c_goOn6 ++ (wsX70 ++ (wm_c_isBetter ++ (wm_c_beginHand7 ++ (wsX10 ++ (wm_c_allWork ++ (wm_c_rateFor ++ (wm_c_minutesFor ++ (wm_c_minuteAfterWork ++ (wsX60 ++ (wm_c_goOn7 ++ ([] : List Cond))))))))))))
theorem gd_c_goOn6 : ∀ w ∈ wm_c_goOn6, goodWord w = true := gd_c rfl (gd_a (by decide) (gd_a gd_wsX70 (gd_a gd_c_isBetter (gd_a gd_c_beginHand7 (gd_a gd_wsX10 (gd_a gd_c_allWork (gd_a gd_c_rateFor (gd_a gd_c_minutesFor (gd_a gd_c_minuteAfterWork (gd_a gd_wsX60 (gd_a gd_c_goOn7 gd_nil)))))))))))
set_option maxRecDepth 20000 in
theorem im_c_goOn6 : ∀ w ∈ wm_c_goOn6, w ∈ lw_tbl := im_c (in_r [.code yX7_goOn cX7_goOn 15 none] [1060] (by decide +kernel)) (in_app (in_r wo_c_goOn6 [520, 1047, 1049, 23, 85, 522, 1039, 1041, 21, 519, 518, 521, 517, 515, 128, 1061, 720, 721, 89, 516, 1062, 820, 821, 83, 70, 845, 1053, 1054, 1055, 71, 683, 1063, 289, 78, 290, 687, 1057, 1059, 24] (by decide +kernel)) (in_app im_wsX70 (in_app im_c_isBetter (in_app im_c_beginHand7 (in_app im_wsX10 (in_app im_c_allWork (in_app im_c_rateFor (in_app im_c_minutesFor (in_app im_c_minuteAfterWork (in_app im_wsX60 (in_app im_c_goOn7 im_nil)))))))))))
set_option maxHeartbeats 4000000 in
set_option maxRecDepth 100000 in
theorem c_goOn6 (l : Launch) (dC : Nat → ClassId) (dI : Nat → Nat → Nat) (ad av : Nat → Nat) (sz : Nat) (a : Nat → Nat) (k : Nat → ClassId) (τ ln : Nat → Nat) (y : Nat → Nat → Int32) (g : Nat → Nat → Option Nat) (u : Nat → Int) (p0 : Int32) (p1 : Int32) (p2 : Int32) (p3 : Int32) (p4 : Int32) (p5 : Int32) (p6 : Int32) (nP : Int) (nH : Int) (hI : IC a u τ ln y g) (g3 : (y (a 6) 3).toInt = nP) (g5 : (y (a 6) 5).toInt = nH) (gn : (0 ≤ nP ∧ nP ≤ 5) ∧ 0 ≤ nH ∧ nH ≤ 3) (gp : vl nP (u 2) (y (a 41))) (gh : vl nH (u 1) (y (a 42))) (g9 : 0 ≤ (y (a 6) 9).toInt ∧ (y (a 6) 9).toInt ≤ 8) (hp0 : 0 ≤ p0.toInt) (hlen : p6.toInt = 6) : Met l yX7_goOn wm_c_goOn6 ({ frames := 6, cells := 0, slots := 0, locals := 360 }) (pw_ ad av (dC, dI) sz [.ref (a 6), .int p0, .int p1, .int p2, .int p3, .int p4, .int p5, .int p6] a k τ ln y g) (va_Qv (fun (_ : Unit) => True) (fun (_ : Unit) (t : State) => (∃ (y' : Nat → Nat → Int32), ag τ [16, 54, 55] y y' ∧ (y' (a 6) 3).toInt = (y (a 6) 3).toInt ∧ (y' (a 6) 5).toInt = (y (a 6) 5).toInt ∧ (0 ≤ (y' (a 6) 9).toInt ∧ (y' (a 6) 9).toInt ≤ 8) ∧ tw (dC, dI) a k τ ln y' g t.heap)) (fr τ sz)) 0 0 (fr τ sz) := by
  refine Met.ofW (cc := cX7_goOn) (maxL := 15) (ret := none) (by decide) rfl ?_
  intro p e s m args below meth c s₁ B hml hv
  obtain ⟨rfl, hsz, hT, hK, hM⟩ := hv
  have hx := B.exec
  have hb := B.bytes
  have hr := B.returns
  have hts := atoms_spec (ws := wm_c_goOn6) B.pre
  have hown : s.vm.findClass RX7 = some m.cls := findClass_of_methodNamed B.named
  have hlocks := B.notSynchronized
  subst hsz
  generalize hAe : fr τ s.heap.size = A at hM ⊢
  have hA : ∀ q : Nat, s.heap.size ≤ q → A q := fun q h => by rw [← hAe]; exact Or.inr h
  have hF : ∀ q, τ q ≠ 0 → A q := fun q h => by rw [← hAe]; exact Or.inl h
  have hS : va_S A s.heap s.heap [] := va_S.rf
  have hX := hI.1
  have hR := ic_r hI
  have hG : ag τ [16, 54, 55] y y := ag.rf
  have hl := lv_entry ([.ref (a 6), .int p0, .int p1, .int p2, .int p3, .int p4, .int p5, .int p6]) (n := 15) (Nat.le_of_ble_eq_true rfl)
  rw [lg_entry_eq]
  generalize (lg_sl ([.ref (a 6), .int p0, .int p1, .int p2, .int p3, .int p4, .int p5, .int p6]) ++ List.replicate (15 - (lg_sl ([.ref (a 6), .int p0, .int p1, .int p2, .int p3, .int p4, .int p5, .int p6])).length) Slot.unset).toArray = ls at hl ⊢
  have hl : lv_has ls 15 [(0, .ref (a 6)), (1, .int p0), (2, .int p1), (3, .int p2), (4, .int p3), (5, .int p4), (6, .int p5), (7, .int p6)] := hl
  refine lv_iload hx hb dX7_goOn_0 (lv_at hl 7 rfl) ?_
  refine lv_bipush (v := 8) hx hb dX7_goOn_2 (by decide) ?_
  refine lv_icmp_ge (tgt := 26) hx hb dX7_goOn_4 (by decide) (fun c_1 => ?_) (fun c_1 => ?_)
  · have nc_1 := z_le (zk (x := 8) 8 rfl) rfl c_1
    exact W.vret hx hb hr (fun t ht hW9 => ⟨⟨(), rfl, trivial, ⟨y, hG, by omega, by omega, by omega, tw_at ht hT⟩⟩, hS.F ht⟩) hS.2.2 dX7_goOn_26
  · have nc_1 := z_nle (zk (x := 8) 8 rfl) rfl c_1
    refine lv_iload_n hx hb dX7_goOn_7 rfl (lv_at hl 1 rfl) ?_
    refine lv_aload_n hx hb dX7_goOn_8 rfl (lv_at hl 0 rfl) ?_
    refine tw_get (D := (dC, dI)) (v := .int (y (a 6) 5)) (C := RX7) (T := TX7) (N := 13) hx hb hts (fun _ hh => (List.mem_cons_of_mem _ (List.mem_append_right _ (List.mem_append_left _ hh)))) hown hK hT (fx_6 hX) (by decide) cl_e16 rfl 5 (by decide) (hts (.fieldLink RX7 78 "TypingPool$Planner" "handCount" "I") (List.mem_cons_of_mem _ (List.mem_append_left _ (List.mem_of_getElem? (i := 0) rfl)))) (fun _ h9 => h9) rfl dX7_goOn_9 ?_
    refine lv_icmp_ge (tgt := 26) hx hb dX7_goOn_12 (by decide) (fun c_2 => ?_) (fun c_2 => ?_)
    · have nc_2 := z_le rfl rfl c_2
      exact W.vret hx hb hr (fun t ht hW9 => ⟨⟨(), rfl, trivial, ⟨y, hG, by omega, by omega, by omega, tw_at ht hT⟩⟩, hS.F ht⟩) hS.2.2 dX7_goOn_26
    · have nc_2 := z_nle rfl rfl c_2
      refine lv_aload_n hx hb dX7_goOn_15 rfl (lv_at hl 0 rfl) ?_
      refine lv_iload hx hb dX7_goOn_16 (lv_at hl 5 rfl) ?_
      refine lv_iload hx hb dX7_goOn_18 (lv_at hl 6 rfl) ?_
      have hFc := tw_free hF hS hA
      refine va_calli (va_runV (As := [.int p4, .int p5]) (rest := []) ⟨hx, hb, hml, hown, hts⟩ (c_isBetter l dC dI ad av s.heap.size a k τ ln y g u p4 p5 hI ) (cwV 2 hts (gi_4 (List.mem_cons_of_mem _ (List.mem_append_left _ (List.mem_of_getElem? (i := 1) rfl))) (List.mem_cons_of_mem _ (List.mem_append_left _ (List.mem_of_getElem? (i := 2) rfl))) (List.mem_cons_of_mem _ (List.mem_append_left _ (List.mem_of_getElem? (i := 3) rfl))) (List.mem_cons_of_mem _ (List.mem_append_left _ (List.mem_of_getElem? (i := 4) rfl))) (fun _ hh => (List.mem_cons_of_mem _ (List.mem_append_right _ (List.mem_append_right _ (List.mem_append_left _ hh))))) gd_c_isBetter) rfl rfl rfl (by decide +kernel) ⟨Nat.le_of_ble_eq_true rfl, Nat.le_of_ble_eq_true rfl⟩) ⟨pw_blind, tw_recv hK hT (fx_6 hX) (by decide) cl_e16 rfl, pw_use hT hK hFc hS hM⟩ rfl rfl hl.1 rfl (lv_room (Nat.le_of_ble_eq_true rfl)) dX7_goOn_20 ⟨Nat.le_of_ble_eq_true rfl, Nat.le_of_ble_eq_true rfl⟩) hS (fun q _ h => hFc q h) hFc (fun r0 r_3 t H locs ht hvm hw hB hz1 hk1 hS => ?_)
      refine W.widen (k := 0) (n := 0) (Nat.le_of_ble_eq_true rfl) (Nat.le_of_ble_eq_true rfl) ?_
      clear hvm hz1 hk1
      subst hw
      rcases hB with ⟨hre, hT⟩ | ⟨hre, hT⟩
      · refine lq_top (v := 1) hre ?_
        rw [ht] at hT
        refine lv_if_ne (tgt := 27) hx hb dX7_goOn_23 (by decide) (fun c_4 => ?_) (fun c_4 => absurd c_4 (by decide))
        refine lv_aload_n hx hb dX7_goOn_27 rfl (lv_at hl 0 rfl) ?_
        refine tw_get (D := (dC, dI)) (v := .ref (a 44)) (C := RX7) (T := TX7) (N := 13) hx hb hts (fun _ hh => (List.mem_cons_of_mem _ (List.mem_append_right _ (List.mem_append_left _ hh)))) hown hK hT (fx_6 hX) (by decide) cl_e16 rfl 7 (by decide) (hts (.fieldLink RX7 21 "TypingPool$Planner" "current" "[I") (List.mem_cons_of_mem _ (List.mem_append_left _ (List.mem_of_getElem? (i := 5) rfl)))) (fun _ h9 => h9) rfl dX7_goOn_28 ?_
        refine lv_iload hx hb dX7_goOn_31 (lv_at hl 7 rfl) ?_
        refine lv_iconst (v := (-1)) hx hb dX7_goOn_33 (by decide) ?_
        refine tw_iast hx hb hK hT hF hS 0 (fx_44 hX) (by decide) (fun _ => cl_e54) rfl (z_in rfl (by omega) (by omega)) dX7_goOn_34 (fun H locs hT hS => ?_)
        obtain ⟨y_5, hy_5, hT⟩ : ∃ z : Nat → Nat → Int32, z = up2 y (a 44) p6.toNatClampNeg (-1 : Int32) ∧ tw (dC, dI) a k τ ln z g H := ⟨_, rfl, hT⟩
        have hG : ag τ [16, 54, 55] y y_5 := by rw [hy_5]; exact hG.up (fx_44 hX) (by decide)
        have : (y_5 (a 6) 3).toInt = (y (a 6) 3).toInt := by rw [hy_5, up2_o (kd_ne (fx_6 hX) (fx_44 hX) (by decide))]
        have : (y_5 (a 6) 5).toInt = (y (a 6) 5).toInt := by rw [hy_5, up2_o (kd_ne (fx_6 hX) (fx_44 hX) (by decide))]
        have : (y_5 (a 6) 9).toInt = (y (a 6) 9).toInt := by rw [hy_5, up2_o (kd_ne (fx_6 hX) (fx_44 hX) (by decide))]
        have hI := hI.ag (S := [54]) (y' := y_5) (by rw [hy_5]; exact ag.one (fx_44 hX)) (by decide)
        refine lv_aload_n hx hb dX7_goOn_35 rfl (lv_at hl 0 rfl) ?_
        refine lv_iload_n hx hb dX7_goOn_36 rfl (lv_at hl 1 rfl) ?_
        refine lv_iconst (v := 1) hx hb dX7_goOn_37 (by decide) ?_
        refine lv_iadd hx hb dX7_goOn_38 ?_
        refine lv_topi (fun x_6 ex_6 => ?_)
        have hx_6 := z_add ex_6 rfl (zk (x := 1) 1 rfl) (by omega) (by omega)
        refine lv_iload_n hx hb dX7_goOn_39 rfl (lv_at hl 2 rfl) ?_
        refine lv_iload hx hb dX7_goOn_40 (lv_at hl 5 rfl) ?_
        refine lv_iload hx hb dX7_goOn_42 (lv_at hl 6 rfl) ?_
        refine lv_iload hx hb dX7_goOn_44 (lv_at hl 7 rfl) ?_
        refine lv_iconst (v := 1) hx hb dX7_goOn_46 (by decide) ?_
        refine lv_iadd hx hb dX7_goOn_47 ?_
        refine lv_topi (fun x_7 ex_7 => ?_)
        have hx_7 := z_add ex_7 rfl (zk (x := 1) 1 rfl) (by omega) (by omega)
        have hFc := tw_free hF hS hA
        refine va_callv (va_runV (As := [.int x_6, .int p1, .int p4, .int p5, .int x_7]) (rest := []) ⟨hx, hb, hml, hown, hts⟩ (c_beginHand7 l dC dI ad av H.size a k τ ln y_5 g u x_6 p1 p4 p5 x_7 nP nH hI (by omega) (by omega) gn (by rw [hG.at (fx_41 hX) (by decide)]; exact gp) (by rw [hG.at (fx_42 hX) (by decide)]; exact gh) (by omega) (by omega) (by omega)) (cwV 5 hts (gi_4 (List.mem_cons_of_mem _ (List.mem_append_left _ (List.mem_of_getElem? (i := 6) rfl))) (List.mem_cons_of_mem _ (List.mem_append_left _ (List.mem_of_getElem? (i := 7) rfl))) (List.mem_cons_of_mem _ (List.mem_append_left _ (List.mem_of_getElem? (i := 8) rfl))) (List.mem_cons_of_mem _ (List.mem_append_left _ (List.mem_of_getElem? (i := 4) rfl))) (fun _ hh => (List.mem_cons_of_mem _ (List.mem_append_right _ (List.mem_append_right _ (List.mem_append_right _ (List.mem_append_left _ hh)))))) gd_c_beginHand7) rfl rfl rfl (by decide +kernel) ⟨Nat.le_of_ble_eq_true rfl, Nat.le_of_ble_eq_true rfl⟩) ⟨pw_blind, tw_recv hK hT (fx_6 hX) (by decide) cl_e16 rfl, pw_use hT hK hFc hS hM⟩ rfl rfl hl.1 rfl (lv_room (Nat.le_of_ble_eq_true rfl)) dX7_goOn_48 ⟨Nat.le_of_ble_eq_true rfl, Nat.le_of_ble_eq_true rfl⟩) hS (fun q _ h => hFc q h) hFc (fun u0 t H locs ht hvm hw hB hz1 hk1 hS => ?_)
        refine W.widen (k := 0) (n := 0) (Nat.le_of_ble_eq_true rfl) (Nat.le_of_ble_eq_true rfl) ?_
        clear hvm hz1 hk1
        obtain ⟨y_9, hgy_9, hf_10, hf_11, hf_12, hT⟩ := hB
        rw [ht] at hT
        have hG := hG.tr hgy_9 (by decide)
        have hI := hI.ag hgy_9 (by decide)
        refine lv_aload_n hx hb dX7_goOn_51 rfl (lv_at hl 0 rfl) ?_
        refine tw_get (D := (dC, dI)) (v := .ref (a 42)) (C := RX7) (T := TX7) (N := 13) hx hb hts (fun _ hh => (List.mem_cons_of_mem _ (List.mem_append_right _ (List.mem_append_left _ hh)))) hown hK hT (fx_6 hX) (by decide) cl_e16 rfl 4 (by decide) (hts (.fieldLink RX7 15 "TypingPool$Planner" "hands" "[I") (List.mem_cons_of_mem _ (List.mem_append_left _ (List.mem_of_getElem? (i := 9) rfl)))) (fun _ h9 => h9) rfl dX7_goOn_52 ?_
        refine lv_iload_n hx hb dX7_goOn_55 rfl (lv_at hl 1 rfl) ?_
        refine tw_iald hx hb hK hT 0 (fx_42 hX) (by decide) cl_e52 rfl (z_in rfl (by omega) (by omega)) dX7_goOn_56 ?_
        have hv0 : vl nH (u 1) (y_9 (a 42)) := (by rw [hG.at (fx_42 hX) (by decide)]; exact gh)
        have hv_13 := vl_at hv0 (x := p0) rfl (by omega) (by omega)
        refine lv_istore (lv' := [(8, .int (y_9 (a 42) p0.toNatClampNeg)), (0, .ref (a 6)), (1, .int p0), (2, .int p1), (3, .int p2), (4, .int p3), (5, .int p4), (6, .int p5), (7, .int p6)]) hx hb dX7_goOn_57 hl (by decide) rfl (fun ls hl => ?_)
        refine lv_iconst (v := 0) hx hb dX7_goOn_59 (by decide) ?_
        refine lv_istore (lv' := [(9, .int 0), (8, .int (y_9 (a 42) p0.toNatClampNeg)), (0, .ref (a 6)), (1, .int p0), (2, .int p1), (3, .int p2), (4, .int p3), (5, .int p4), (6, .int p5), (7, .int p6)]) hx hb dX7_goOn_60 hl (by decide) rfl (fun ls hl => ?_)
        have loop_62 : ∀ (n : Nat) (i9 : Int32) (y_L62 : Nat → Nat → Int32) (H : Heap) (locs : List Loc) (ls : Array Slot), (nP - i9.toInt).toNat < n → ag τ [16, 54, 55] y y_L62 → IC a u τ ln y_L62 g → 0 ≤ i9.toInt → i9.toInt ≤ nP → (y_L62 (a 6) 3).toInt = nP → (y_L62 (a 6) 5).toInt = nH → 0 ≤ (y_L62 (a 6) 9).toInt ∧ (y_L62 (a 6) 9).toInt ≤ 8 → tw (dC, dI) a k τ ln y_L62 g H → va_S A s.heap H locs → lv_has ls 15 [(0, .ref (a 6)), (1, .int p0), (2, .int p1), (3, .int p2), (4, .int p3), (5, .int p4), (6, .int p5), (7, .int p6), (8, .int (y_9 (a 42) p0.toNatClampNeg)), (9, .int i9)] → W p l e (headSpec wm_c_goOn6 ({ frames := 6, cells := 0, slots := 0, locals := 360 })).room s m ([.ref (a 6), .int p0, .int p1, .int p2, .int p3, .int p4, .int p5, .int p6] : List Value).toArray below meth c H locs 0 0 (MQ below (va_Qv (fun (_ : Unit) => True) (fun (_ : Unit) (t : State) => (∃ (y' : Nat → Nat → Int32), ag τ [16, 54, 55] y y' ∧ (y' (a 6) 3).toInt = (y (a 6) 3).toInt ∧ (y' (a 6) 5).toInt = (y (a 6) 5).toInt ∧ (0 ≤ (y' (a 6) 9).toInt ∧ (y' (a 6) 9).toInt ≤ 8) ∧ tw (dC, dI) a k τ ln y' g t.heap)) A) ([.ref (a 6), .int p0, .int p1, .int p2, .int p3, .int p4, .int p5, .int p6] : List Value).toArray s 0 0 A) (F0 m 62 ls []) := by
          intro n
          induction n with
          | zero => intro i9 y_L62 H locs ls hlt; exact absurd hlt (Nat.not_lt_zero _)
          | succ n ih_62 =>
            intro i9 y_L62 H locs ls hlt hG hI hi62_0 hi62_1 hi62_2 hi62_3 hi62_4 hT hS hl
            refine lv_iload hx hb dX7_goOn_62 (lv_at hl 9 rfl) ?_
            refine lv_aload_n hx hb dX7_goOn_64 rfl (lv_at hl 0 rfl) ?_
            refine tw_get (D := (dC, dI)) (v := .int (y_L62 (a 6) 3)) (C := RX7) (T := TX7) (N := 13) hx hb hts (fun _ hh => (List.mem_cons_of_mem _ (List.mem_append_right _ (List.mem_append_left _ hh)))) hown hK hT (fx_6 hX) (by decide) cl_e16 rfl 3 (by decide) (hts (.fieldLink RX7 42 "TypingPool$Planner" "pieceCount" "I") (List.mem_cons_of_mem _ (List.mem_append_left _ (List.mem_of_getElem? (i := 10) rfl)))) (fun _ h9 => h9) rfl dX7_goOn_65 ?_
            refine lv_icmp_ge (tgt := 220) hx hb dX7_goOn_68 (by decide) (fun c_14 => ?_) (fun c_14 => ?_)
            · have nc_14 := z_le rfl rfl c_14
              exact W.vret hx hb hr (fun t ht hW9 => ⟨⟨(), rfl, trivial, ⟨y_L62, hG, by omega, by omega, by omega, tw_at ht hT⟩⟩, hS.F ht⟩) hS.2.2 dX7_goOn_220
            · have nc_14 := z_nle rfl rfl c_14
              refine lv_iload_n hx hb dX7_goOn_71 rfl (lv_at hl 2 rfl) ?_
              refine lv_aload_n hx hb dX7_goOn_72 rfl (lv_at hl 0 rfl) ?_
              refine tw_get (D := (dC, dI)) (v := .ref (a 43)) (C := RX7) (T := TX7) (N := 13) hx hb hts (fun _ hh => (List.mem_cons_of_mem _ (List.mem_append_right _ (List.mem_append_left _ hh)))) hown hK hT (fx_6 hX) (by decide) cl_e16 rfl 6 (by decide) (hts (.fieldLink RX7 18 "TypingPool$Planner" "allowed" "[I") (List.mem_cons_of_mem _ (List.mem_append_left _ (List.mem_of_getElem? (i := 11) rfl)))) (fun _ h9 => h9) rfl dX7_goOn_73 ?_
              refine lv_iload_n hx hb dX7_goOn_76 rfl (lv_at hl 1 rfl) ?_
              refine tw_iald hx hb hK hT 0 (fx_43 hX) (by decide) cl_e53 rfl (z_in rfl (by omega) (by omega)) dX7_goOn_77 ?_
              refine lv_iand hx hb dX7_goOn_78 ?_
              refine lv_topi (fun x_15 ex_15 => ?_)
              refine lv_iload hx hb dX7_goOn_79 (lv_at hl 9 rfl) ?_
              refine lv_ishr hx hb dX7_goOn_81 ?_
              refine lv_topi (fun x_16 ex_16 => ?_)
              refine lv_iconst (v := 1) hx hb dX7_goOn_82 (by decide) ?_
              refine lv_iand hx hb dX7_goOn_83 ?_
              refine lv_topi (fun x_17 ex_17 => ?_)
              have hx_17 := z_and (x := x_16) (zk (x := 1) 1 rfl) (by omega)
              rw [← ex_17] at hx_17
              refine lv_iconst (v := 1) hx hb dX7_goOn_84 (by decide) ?_
              refine lv_icmp_ne (tgt := 214) hx hb dX7_goOn_85 (by decide) (fun c_18 => ?_) (fun c_18 => ?_)
              · have nc_18 := z_ne rfl (zk (x := 1) 1 rfl) c_18
                obtain ⟨x_19, ex_19⟩ : ∃ y : Int32, y = i9 + Int32.ofInt 1 := ⟨_, rfl⟩
                have hx_19 := z_add ex_19 rfl (zk (x := Int32.ofInt 1) 1 rfl) (by omega) (by omega)
                refine lv_iinc (v := x_19) (lv' := [(9, .int x_19), (0, .ref (a 6)), (1, .int p0), (2, .int p1), (3, .int p2), (4, .int p3), (5, .int p4), (6, .int p5), (7, .int p6), (8, .int (y_9 (a 42) p0.toNatClampNeg))]) hx hb dX7_goOn_214 hl (k := 9) rfl ex_19.symm (by decide) rfl (fun ls hl => ?_)
                refine lv_goto (tgt := 62) hx hb dX7_goOn_217 (by decide) ?_
                exact ih_62  x_19 y_L62 H _ ls (by omega) hG hI (by omega) (by omega) (by omega) (by omega) (by omega) hT hS (lv_sub hl [1, 2, 3, 4, 5, 6, 7, 8, 9, 0] rfl)
              · have nc_18 := z_eq rfl (zk (x := 1) 1 rfl) c_18
                refine lv_aload_n hx hb dX7_goOn_88 rfl (lv_at hl 0 rfl) ?_
                refine tw_get (D := (dC, dI)) (v := .ref (a 41)) (C := RX7) (T := TX7) (N := 13) hx hb hts (fun _ hh => (List.mem_cons_of_mem _ (List.mem_append_right _ (List.mem_append_left _ hh)))) hown hK hT (fx_6 hX) (by decide) cl_e16 rfl 2 (by decide) (hts (.fieldLink RX7 9 "TypingPool$Planner" "pieces" "[I") (List.mem_cons_of_mem _ (List.mem_append_left _ (List.mem_of_getElem? (i := 12) rfl)))) (fun _ h9 => h9) rfl dX7_goOn_89 ?_
                refine lv_iload hx hb dX7_goOn_92 (lv_at hl 9 rfl) ?_
                refine tw_iald hx hb hK hT 0 (fx_41 hX) (by decide) cl_e51 rfl (z_in rfl (by omega) (by omega)) dX7_goOn_94 ?_
                have hv0 : vl nP (u 2) (y_L62 (a 41)) := (by rw [hG.at (fx_41 hX) (by decide)]; exact gp)
                have hv_20 := vl_at hv0 (x := i9) rfl (by omega) (by omega)
                refine lv_istore (lv' := [(10, .int (y_L62 (a 41) i9.toNatClampNeg)), (0, .ref (a 6)), (1, .int p0), (2, .int p1), (3, .int p2), (4, .int p3), (5, .int p4), (6, .int p5), (7, .int p6), (8, .int (y_9 (a 42) p0.toNatClampNeg)), (9, .int i9)]) hx hb dX7_goOn_95 hl (by decide) rfl (fun ls hl => ?_)
                refine lv_aload_n hx hb dX7_goOn_97 rfl (lv_at hl 1 rfl) ?_
                refine tw_get (D := (dC, dI)) (v := .ref (a 1)) (C := RX7) (T := TX7) (N := 13) hx hb hts (fun _ hh => (List.mem_cons_of_mem _ (List.mem_append_right _ (List.mem_append_left _ hh)))) hown hK hT (fx_6 hX) (by decide) cl_e16 rfl 0 (by decide) (hts (.fieldLink RX7 27 "TypingPool$Planner" "book" "LTypingPool$Book;") (List.mem_cons_of_mem _ (List.mem_append_left _ (List.mem_of_getElem? (i := 13) rfl)))) (fun _ h9 => h9) rfl dX7_goOn_98 ?_
                refine tw_get (D := (dC, dI)) (v := .ref (a 11)) (C := RX1) (T := TX1) (N := 8) hx hb hts (fun _ hh => (List.mem_cons_of_mem _ (List.mem_append_right _ (List.mem_append_right _ (List.mem_append_right _ (List.mem_append_right _ (List.mem_append_left _ hh))))))) hown hK hT (fx_1 hX) (by decide) cl_e11 rfl 4 (by decide) (hts (.fieldLink RX7 115 "TypingPool$Book" "pieces" "[LTypingPool$Piece;") (List.mem_cons_of_mem _ (List.mem_append_left _ (List.mem_of_getElem? (i := 14) rfl)))) (fun _ h9 => h9) rfl dX7_goOn_101 ?_
                refine lv_iload hx hb dX7_goOn_104 (lv_at hl 0 rfl) ?_
                refine tw_aald hx hb hK hT 4 (fx_11 hX) (by decide) cl_e21 rfl (z_in rfl (by omega) (by omega)) dX7_goOn_106 ?_
                obtain ⟨q_21, hgq_21, htq_21⟩ := ic_l11 hI (x := (y_L62 (a 41) i9.toNatClampNeg)) rfl (by omega) (by omega)
                refine lq_topr hgq_21 ?_
                refine lv_astore (lv' := [(11, .ref q_21), (10, .int (y_L62 (a 41) i9.toNatClampNeg)), (0, .ref (a 6)), (1, .int p0), (2, .int p1), (3, .int p2), (4, .int p3), (5, .int p4), (6, .int p5), (7, .int p6), (8, .int (y_9 (a 42) p0.toNatClampNeg)), (9, .int i9)]) hx hb dX7_goOn_107 hl (by decide) rfl (fun ls hl => ?_)
                refine lv_aload hx hb dX7_goOn_109 (lv_at hl 0 rfl) ?_
                have hFc := tw_free hF hS hA
                refine va_calli (va_runV (As := []) (rest := []) ⟨hx, hb, hml, hown, hts⟩ (c_allWork l dC dI ad av H.size a k τ ln y_L62 g u q_21 hI htq_21) (cwV 0 hts (gi_4 (List.mem_cons_of_mem _ (List.mem_append_left _ (List.mem_of_getElem? (i := 15) rfl))) (List.mem_cons_of_mem _ (List.mem_append_left _ (List.mem_of_getElem? (i := 16) rfl))) (List.mem_cons_of_mem _ (List.mem_append_left _ (List.mem_of_getElem? (i := 17) rfl))) (List.mem_cons_of_mem _ (List.mem_append_left _ (List.mem_of_getElem? (i := 18) rfl))) (fun _ hh => (List.mem_cons_of_mem _ (List.mem_append_right _ (List.mem_append_right _ (List.mem_append_right _ (List.mem_append_right _ (List.mem_append_right _ (List.mem_append_left _ hh)))))))) gd_c_allWork) rfl rfl rfl (by decide +kernel) ⟨Nat.le_of_ble_eq_true rfl, Nat.le_of_ble_eq_true rfl⟩) ⟨pw_blind, tw_recv hK hT htq_21 (by decide) cl_e2 rfl, pw_use hT hK hFc hS hM⟩ rfl rfl hl.1 rfl (lv_room (Nat.le_of_ble_eq_true rfl)) dX7_goOn_111 ⟨Nat.le_of_ble_eq_true rfl, Nat.le_of_ble_eq_true rfl⟩) hS (fun q _ h => hFc q h) hFc (fun r0 r_22 t H locs ht hvm hw hB hz1 hk1 hS => ?_)
                refine W.widen (k := 0) (n := 0) (Nat.le_of_ble_eq_true rfl) (Nat.le_of_ble_eq_true rfl) ?_
                clear hvm hz1 hk1
                subst hw
                have hT := hB
                rw [ht] at hT
                refine lv_aload_n hx hb dX7_goOn_114 rfl (lv_at hl 2 rfl) ?_
                refine tw_get (D := (dC, dI)) (v := .ref (a 3)) (C := RX7) (T := TX7) (N := 13) hx hb hts (fun _ hh => (List.mem_cons_of_mem _ (List.mem_append_right _ (List.mem_append_left _ hh)))) hown hK hT (fx_6 hX) (by decide) cl_e16 rfl 1 (by decide) (hts (.fieldLink RX7 31 "TypingPool$Planner" "floor" "LTypingPool$Floor;") (List.mem_cons_of_mem _ (List.mem_append_left _ (List.mem_of_getElem? (i := 19) rfl)))) (fun _ h9 => h9) rfl dX7_goOn_115 ?_
                refine lv_iload hx hb dX7_goOn_118 (lv_at hl 10 rfl) ?_
                refine lv_iload hx hb dX7_goOn_120 (lv_at hl 1 rfl) ?_
                refine lv_iload hx hb dX7_goOn_122 (lv_at hl 6 rfl) ?_
                have hFc := tw_free hF hS hA
                refine va_calli (va_runV (As := [.int (y_9 (a 42) p0.toNatClampNeg), .int (y_L62 (a 41) i9.toNatClampNeg), .int p3]) (rest := [.int r_22]) ⟨hx, hb, hml, hown, hts⟩ (c_rateFor l dC dI ad av H.size a k τ ln y_L62 g u (y_9 (a 42) p0.toNatClampNeg) (y_L62 (a 41) i9.toNatClampNeg) p3 hI (by omega) (by omega) (by omega) (by omega)) (cwV 3 hts (gi_4 (List.mem_cons_of_mem _ (List.mem_append_left _ (List.mem_of_getElem? (i := 20) rfl))) (List.mem_cons_of_mem _ (List.mem_append_left _ (List.mem_of_getElem? (i := 21) rfl))) (List.mem_cons_of_mem _ (List.mem_append_left _ (List.mem_of_getElem? (i := 22) rfl))) (List.mem_cons_of_mem _ (List.mem_append_left _ (List.mem_of_getElem? (i := 23) rfl))) (fun _ hh => (List.mem_cons_of_mem _ (List.mem_append_right _ (List.mem_append_right _ (List.mem_append_right _ (List.mem_append_right _ (List.mem_append_right _ (List.mem_append_right _ (List.mem_append_left _ hh))))))))) gd_c_rateFor) rfl rfl rfl (by decide +kernel) ⟨Nat.le_of_ble_eq_true rfl, Nat.le_of_ble_eq_true rfl⟩) ⟨pw_blind, tw_recv hK hT (fx_3 hX) (by decide) cl_e13 rfl, pw_use hT hK hFc hS hM⟩ rfl rfl hl.1 rfl (lv_room (Nat.le_of_ble_eq_true rfl)) dX7_goOn_124 ⟨Nat.le_of_ble_eq_true rfl, Nat.le_of_ble_eq_true rfl⟩) hS (fun q _ h => hFc q h) hFc (fun r0 r_23 t H locs ht hvm hw hB hz1 hk1 hS => ?_)
                refine W.widen (k := 0) (n := 0) (Nat.le_of_ble_eq_true rfl) (Nat.le_of_ble_eq_true rfl) ?_
                clear hvm hz1 hk1
                subst hw
                have hT := hB
                rw [ht] at hT
                have hFc := tw_free hF hS hA
                refine va_calli (va_runSN (As := [.int r_22, .int r_23]) (rest := []) ⟨hx, hb, hml, hown, hts⟩ (c_minutesFor l dC dI ad av H.size a k τ ln y_L62 g u r_22 r_23  ) ⟨va_cnB 2 hts (gi_0  (fun _ hh => (List.mem_cons_of_mem _ (List.mem_append_right _ (List.mem_append_right _ (List.mem_append_right _ (List.mem_append_right _ (List.mem_append_right _ (List.mem_append_right _ (List.mem_append_right _ (List.mem_append_left _ hh)))))))))) gd_c_minutesFor) rfl rfl rfl hM.1.2.2.2.1 (hts (.initialized RX11) (List.mem_cons_of_mem _ (List.mem_append_left _ (List.mem_of_getElem? (i := 24) rfl)))) (by decide +kernel) ⟨Nat.le_of_ble_eq_true rfl, Nat.le_of_ble_eq_true rfl⟩, (hts (.static yX11_minutesFor) (List.mem_cons_of_mem _ (List.mem_append_left _ (List.mem_of_getElem? (i := 25) rfl)))), trivial⟩ ⟨pw_blind, pw_use hT hK hFc hS hM⟩ rfl rfl hl.1 rfl (lv_room (Nat.le_of_ble_eq_true rfl)) dX7_goOn_127 ⟨Nat.le_of_ble_eq_true rfl, Nat.le_of_ble_eq_true rfl⟩) hS (fun q _ h => hFc q h) hFc (fun r0 r_24 t H locs ht hvm hw hB hz1 hk1 hS => ?_)
                refine W.widen (k := 0) (n := 0) (Nat.le_of_ble_eq_true rfl) (Nat.le_of_ble_eq_true rfl) ?_
                clear hvm hz1 hk1
                subst hw
                have hT := hB
                rw [ht] at hT
                refine lv_istore (lv' := [(12, .int r_24), (11, .ref q_21), (10, .int (y_L62 (a 41) i9.toNatClampNeg)), (0, .ref (a 6)), (1, .int p0), (2, .int p1), (3, .int p2), (4, .int p3), (5, .int p4), (6, .int p5), (7, .int p6), (8, .int (y_9 (a 42) p0.toNatClampNeg)), (9, .int i9)]) hx hb dX7_goOn_130 hl (by decide) rfl (fun ls hl => ?_)
                refine lv_aload_n hx hb dX7_goOn_132 rfl (lv_at hl 3 rfl) ?_
                refine tw_get (D := (dC, dI)) (v := .ref (a 1)) (C := RX7) (T := TX7) (N := 13) hx hb hts (fun _ hh => (List.mem_cons_of_mem _ (List.mem_append_right _ (List.mem_append_left _ hh)))) hown hK hT (fx_6 hX) (by decide) cl_e16 rfl 0 (by decide) (hts (.fieldLink RX7 27 "TypingPool$Planner" "book" "LTypingPool$Book;") (List.mem_cons_of_mem _ (List.mem_append_left _ (List.mem_of_getElem? (i := 13) rfl)))) (fun _ h9 => h9) rfl dX7_goOn_133 ?_
                refine lv_iload hx hb dX7_goOn_136 (lv_at hl 11 rfl) ?_
                refine lv_iload_n hx hb dX7_goOn_138 rfl (lv_at hl 6 rfl) ?_
                refine lv_iload hx hb dX7_goOn_139 (lv_at hl 0 rfl) ?_
                have hFc := tw_free hF hS hA
                refine va_calli (va_runV (As := [.int (y_9 (a 42) p0.toNatClampNeg), .int p2, .int r_24]) (rest := []) ⟨hx, hb, hml, hown, hts⟩ (c_minuteAfterWork l dC dI ad av H.size a k τ ln y_L62 g u (y_9 (a 42) p0.toNatClampNeg) p2 r_24 hI ) (cwV 3 hts (gi_4 (List.mem_cons_of_mem _ (List.mem_append_left _ (List.mem_of_getElem? (i := 26) rfl))) (List.mem_cons_of_mem _ (List.mem_append_left _ (List.mem_of_getElem? (i := 27) rfl))) (List.mem_cons_of_mem _ (List.mem_append_left _ (List.mem_of_getElem? (i := 28) rfl))) (List.mem_cons_of_mem _ (List.mem_append_left _ (List.mem_of_getElem? (i := 29) rfl))) (fun _ hh => (List.mem_cons_of_mem _ (List.mem_append_right _ (List.mem_append_right _ (List.mem_append_right _ (List.mem_append_right _ (List.mem_append_right _ (List.mem_append_right _ (List.mem_append_right _ (List.mem_append_right _ (List.mem_append_left _ hh))))))))))) gd_c_minuteAfterWork) rfl rfl rfl (by decide +kernel) ⟨Nat.le_of_ble_eq_true rfl, Nat.le_of_ble_eq_true rfl⟩) ⟨pw_blind, tw_recv hK hT (fx_1 hX) (by decide) cl_e11 rfl, pw_use hT hK hFc hS hM⟩ rfl rfl hl.1 rfl (lv_room (Nat.le_of_ble_eq_true rfl)) dX7_goOn_141 ⟨Nat.le_of_ble_eq_true rfl, Nat.le_of_ble_eq_true rfl⟩) hS (fun q _ h => hFc q h) hFc (fun r0 r_25 t H locs ht hvm hw hB hz1 hk1 hS => ?_)
                refine W.widen (k := 0) (n := 0) (Nat.le_of_ble_eq_true rfl) (Nat.le_of_ble_eq_true rfl) ?_
                clear hvm hz1 hk1
                subst hw
                have hT := hB
                rw [ht] at hT
                refine lv_istore (lv' := [(13, .int r_25), (12, .int r_24), (11, .ref q_21), (10, .int (y_L62 (a 41) i9.toNatClampNeg)), (0, .ref (a 6)), (1, .int p0), (2, .int p1), (3, .int p2), (4, .int p3), (5, .int p4), (6, .int p5), (7, .int p6), (8, .int (y_9 (a 42) p0.toNatClampNeg)), (9, .int i9)]) hx hb dX7_goOn_144 hl (by decide) rfl (fun ls hl => ?_)
                refine lv_iconst (v := 0) hx hb dX7_goOn_146 (by decide) ?_
                refine lv_iload hx hb dX7_goOn_147 (lv_at hl 0 rfl) ?_
                refine lv_aload hx hb dX7_goOn_149 (lv_at hl 2 rfl) ?_
                refine tw_get (D := (dC, dI)) (v := .int (y_L62 q_21 6)) (C := RX6) (T := TX6) (N := 11) hx hb hts (fun _ hh => (List.mem_cons_of_mem _ (List.mem_append_right _ (List.mem_append_right _ (List.mem_append_right _ (List.mem_append_right _ (List.mem_append_right _ (List.mem_append_right _ (List.mem_append_right _ (List.mem_append_right _ (List.mem_append_right _ (List.mem_append_left _ hh)))))))))))) hown hK hT htq_21 (by decide) cl_e2 rfl 6 (by decide) (hts (.fieldLink RX7 136 "TypingPool$Piece" "due" "I") (List.mem_cons_of_mem _ (List.mem_append_left _ (List.mem_of_getElem? (i := 30) rfl)))) (fun _ h9 => h9) rfl dX7_goOn_151 ?_
                refine lv_isub hx hb dX7_goOn_154 ?_
                refine lv_topi (fun x_26 ex_26 => ?_)
                refine va_mmax hx hb (by rw [hml]; exact hl.1.symm) hown (hts (.methodLink RX7 139 Lib.Math.max.name) (List.mem_cons_of_mem _ (List.mem_append_left _ (List.mem_of_getElem? (i := 31) rfl)))) (hts (.static Lib.Math.max.name) (List.mem_cons_of_mem _ (List.mem_append_left _ (List.mem_of_getElem? (i := 32) rfl)))) (hts (.initialized "java/lang/Math") (List.mem_cons_of_mem _ (List.mem_append_left _ (List.mem_of_getElem? (i := 33) rfl)))) (hts (.code Lib.Math.max.name Lib.Math.max.code 2 (some .int)) (List.mem_cons_of_mem _ (List.mem_append_left _ (List.mem_of_getElem? (i := 34) rfl)))) (Nat.le_of_ble_eq_true rfl) (Nat.le_of_ble_eq_true rfl) (Nat.le_of_ble_eq_true rfl) (Nat.le_of_ble_eq_true rfl) dX7_goOn_155 ?_
                refine lv_topi (fun x_27 ex_27 => ?_)
                have hx_27 := z_max ex_27 (zk (x := 0) 0 rfl) rfl
                refine lv_istore (lv' := [(14, .int x_27), (13, .int r_25), (12, .int r_24), (11, .ref q_21), (10, .int (y_L62 (a 41) i9.toNatClampNeg)), (0, .ref (a 6)), (1, .int p0), (2, .int p1), (3, .int p2), (4, .int p3), (5, .int p4), (6, .int p5), (7, .int p6), (8, .int (y_9 (a 42) p0.toNatClampNeg)), (9, .int i9)]) hx hb dX7_goOn_158 hl (by decide) rfl (fun ls hl => ?_)
                refine lv_aload_n hx hb dX7_goOn_160 rfl (lv_at hl 5 rfl) ?_
                refine tw_get (D := (dC, dI)) (v := .ref (a 44)) (C := RX7) (T := TX7) (N := 13) hx hb hts (fun _ hh => (List.mem_cons_of_mem _ (List.mem_append_right _ (List.mem_append_left _ hh)))) hown hK hT (fx_6 hX) (by decide) cl_e16 rfl 7 (by decide) (hts (.fieldLink RX7 21 "TypingPool$Planner" "current" "[I") (List.mem_cons_of_mem _ (List.mem_append_left _ (List.mem_of_getElem? (i := 5) rfl)))) (fun _ h9 => h9) rfl dX7_goOn_161 ?_
                refine lv_iload hx hb dX7_goOn_164 (lv_at hl 12 rfl) ?_
                refine lv_iload hx hb dX7_goOn_166 (lv_at hl 4 rfl) ?_
                refine tw_iast hx hb hK hT hF hS 0 (fx_44 hX) (by decide) (fun _ => cl_e54) rfl (z_in rfl (by omega) (by omega)) dX7_goOn_168 (fun H locs hT hS => ?_)
                obtain ⟨y_28, hy_28, hT⟩ : ∃ z : Nat → Nat → Int32, z = up2 y_L62 (a 44) p6.toNatClampNeg (y_L62 (a 41) i9.toNatClampNeg) ∧ tw (dC, dI) a k τ ln z g H := ⟨_, rfl, hT⟩
                have hG : ag τ [16, 54, 55] y y_28 := by rw [hy_28]; exact hG.up (fx_44 hX) (by decide)
                have : (y_28 (a 6) 3).toInt = (y_L62 (a 6) 3).toInt := by rw [hy_28, up2_o (kd_ne (fx_6 hX) (fx_44 hX) (by decide))]
                have : (y_28 (a 6) 5).toInt = (y_L62 (a 6) 5).toInt := by rw [hy_28, up2_o (kd_ne (fx_6 hX) (fx_44 hX) (by decide))]
                have : (y_28 (a 6) 9).toInt = (y_L62 (a 6) 9).toInt := by rw [hy_28, up2_o (kd_ne (fx_6 hX) (fx_44 hX) (by decide))]
                have hI := hI.ag (S := [54]) (y' := y_28) (by rw [hy_28]; exact ag.one (fx_44 hX)) (by decide)
                refine lv_aload_n hx hb dX7_goOn_169 rfl (lv_at hl 5 rfl) ?_
                refine lv_iload_n hx hb dX7_goOn_170 rfl (lv_at hl 6 rfl) ?_
                refine lv_iload_n hx hb dX7_goOn_171 rfl (lv_at hl 7 rfl) ?_
                refine lv_iconst (v := 1) hx hb dX7_goOn_172 (by decide) ?_
                refine lv_iload hx hb dX7_goOn_173 (lv_at hl 14 rfl) ?_
                refine lv_ishl hx hb dX7_goOn_175 ?_
                refine lv_topi (fun x_29 ex_29 => ?_)
                refine lv_iconst (v := (-1)) hx hb dX7_goOn_176 (by decide) ?_
                refine lv_ixor hx hb dX7_goOn_177 ?_
                refine lv_topi (fun x_30 ex_30 => ?_)
                refine lv_iand hx hb dX7_goOn_178 ?_
                refine lv_topi (fun x_31 ex_31 => ?_)
                refine lv_iload hx hb dX7_goOn_179 (lv_at hl 1 rfl) ?_
                refine lv_iload hx hb dX7_goOn_181 (lv_at hl 9 rfl) ?_
                refine lv_aload hx hb dX7_goOn_183 (lv_at hl 3 rfl) ?_
                refine tw_get (D := (dC, dI)) (v := .int (y_28 q_21 7)) (C := RX6) (T := TX6) (N := 11) hx hb hts (fun _ hh => (List.mem_cons_of_mem _ (List.mem_append_right _ (List.mem_append_right _ (List.mem_append_right _ (List.mem_append_right _ (List.mem_append_right _ (List.mem_append_right _ (List.mem_append_right _ (List.mem_append_right _ (List.mem_append_right _ (List.mem_append_left _ hh)))))))))))) hown hK hT htq_21 (by decide) cl_e2 rfl 7 (by decide) (hts (.fieldLink RX7 118 "TypingPool$Piece" "words" "I") (List.mem_cons_of_mem _ (List.mem_append_left _ (List.mem_of_getElem? (i := 35) rfl)))) (fun _ h9 => h9) rfl dX7_goOn_185 ?_
                refine lv_ior hx hb dX7_goOn_188 ?_
                refine lv_topi (fun x_32 ex_32 => ?_)
                refine lv_iload hx hb dX7_goOn_189 (lv_at hl 10 rfl) ?_
                refine lv_iload hx hb dX7_goOn_191 (lv_at hl 0 rfl) ?_
                refine lv_if_le (tgt := 200) hx hb dX7_goOn_193 (by decide) (fun c_33 => ?_) (fun c_33 => ?_)
                · have nc_33 := z_le rfl (zk (x := 0) 0 rfl) c_33
                  refine lv_iconst (v := 0) hx hb dX7_goOn_200 (by decide) ?_
                  refine lv_iadd hx hb dX7_goOn_201 ?_
                  refine lv_topi (fun x_34 ex_34 => ?_)
                  refine lv_iload hx hb dX7_goOn_202 (lv_at hl 11 rfl) ?_
                  refine lv_iload hx hb dX7_goOn_204 (lv_at hl 0 rfl) ?_
                  refine lv_iadd hx hb dX7_goOn_206 ?_
                  refine lv_topi (fun x_35 ex_35 => ?_)
                  refine lv_iload hx hb dX7_goOn_207 (lv_at hl 12 rfl) ?_
                  refine lv_iconst (v := 1) hx hb dX7_goOn_209 (by decide) ?_
                  refine lv_iadd hx hb dX7_goOn_210 ?_
                  refine lv_topi (fun x_36 ex_36 => ?_)
                  have hx_36 := z_add ex_36 rfl (zk (x := 1) 1 rfl) (by omega) (by omega)
                  have hFc := tw_free hF hS hA
                  refine va_callv (va_runV (As := [.int p0, .int x_31, .int r_25, .int x_32, .int x_34, .int x_35, .int x_36]) (rest := []) ⟨hx, hb, hml, hown, hts⟩ (c_goOn7 l dC dI ad av H.size a k τ ln y_28 g u p0 x_31 r_25 x_32 x_34 x_35 x_36 nP nH hI (by omega) (by omega) gn (by rw [hG.at (fx_41 hX) (by decide)]; exact gp) (by rw [hG.at (fx_42 hX) (by decide)]; exact gh) (by omega) (by omega) (by omega)) (cwV 7 hts (gi_4 (List.mem_cons_of_mem _ (List.mem_append_left _ (List.mem_of_getElem? (i := 36) rfl))) (List.mem_cons_of_mem _ (List.mem_append_left _ (List.mem_of_getElem? (i := 37) rfl))) (List.mem_cons_of_mem _ (List.mem_append_left _ (List.mem_of_getElem? (i := 38) rfl))) (List.mem_cons_of_mem _ (List.mem_append_left _ (List.mem_of_getElem? (i := 4) rfl))) (fun _ hh => (List.mem_cons_of_mem _ (List.mem_append_right _ (List.mem_append_right _ (List.mem_append_right _ (List.mem_append_right _ (List.mem_append_right _ (List.mem_append_right _ (List.mem_append_right _ (List.mem_append_right _ (List.mem_append_right _ (List.mem_append_right _ (List.mem_append_left _ hh))))))))))))) gd_c_goOn7) rfl rfl rfl (by decide +kernel) ⟨Nat.le_of_ble_eq_true rfl, Nat.le_of_ble_eq_true rfl⟩) ⟨pw_blind, tw_recv hK hT (fx_6 hX) (by decide) cl_e16 rfl, pw_use hT hK hFc hS hM⟩ rfl rfl hl.1 rfl (lv_room (Nat.le_of_ble_eq_true rfl)) dX7_goOn_211 ⟨Nat.le_of_ble_eq_true rfl, Nat.le_of_ble_eq_true rfl⟩) hS (fun q _ h => hFc q h) hFc (fun u0 t H locs ht hvm hw hB hz1 hk1 hS => ?_)
                  refine W.widen (k := 0) (n := 0) (Nat.le_of_ble_eq_true rfl) (Nat.le_of_ble_eq_true rfl) ?_
                  clear hvm hz1 hk1
                  obtain ⟨y_38, hgy_38, hf_39, hf_40, hf_41, hT⟩ := hB
                  rw [ht] at hT
                  have hG := hG.tr hgy_38 (by decide)
                  have hI := hI.ag hgy_38 (by decide)
                  obtain ⟨x_42, ex_42⟩ : ∃ y : Int32, y = i9 + Int32.ofInt 1 := ⟨_, rfl⟩
                  have hx_42 := z_add ex_42 rfl (zk (x := Int32.ofInt 1) 1 rfl) (by omega) (by omega)
                  refine lv_iinc (v := x_42) (lv' := [(9, .int x_42), (14, .int x_27), (13, .int r_25), (12, .int r_24), (11, .ref q_21), (10, .int (y_L62 (a 41) i9.toNatClampNeg)), (0, .ref (a 6)), (1, .int p0), (2, .int p1), (3, .int p2), (4, .int p3), (5, .int p4), (6, .int p5), (7, .int p6), (8, .int (y_9 (a 42) p0.toNatClampNeg))]) hx hb dX7_goOn_214 hl (k := 14) rfl ex_42.symm (by decide) rfl (fun ls hl => ?_)
                  refine lv_goto (tgt := 62) hx hb dX7_goOn_217 (by decide) ?_
                  exact ih_62  x_42 y_38 H _ ls (by omega) hG hI (by omega) (by omega) (by omega) (by omega) (by omega) hT hS (lv_sub hl [6, 7, 8, 9, 10, 11, 12, 13, 14, 0] rfl)
                · have nc_33 := z_nle rfl (zk (x := 0) 0 rfl) c_33
                  refine lv_iconst (v := 1) hx hb dX7_goOn_196 (by decide) ?_
                  refine lv_goto (tgt := 201) hx hb dX7_goOn_197 (by decide) ?_
                  refine lv_iadd hx hb dX7_goOn_201 ?_
                  refine lv_topi (fun x_43 ex_43 => ?_)
                  refine lv_iload hx hb dX7_goOn_202 (lv_at hl 11 rfl) ?_
                  refine lv_iload hx hb dX7_goOn_204 (lv_at hl 0 rfl) ?_
                  refine lv_iadd hx hb dX7_goOn_206 ?_
                  refine lv_topi (fun x_44 ex_44 => ?_)
                  refine lv_iload hx hb dX7_goOn_207 (lv_at hl 12 rfl) ?_
                  refine lv_iconst (v := 1) hx hb dX7_goOn_209 (by decide) ?_
                  refine lv_iadd hx hb dX7_goOn_210 ?_
                  refine lv_topi (fun x_45 ex_45 => ?_)
                  have hx_45 := z_add ex_45 rfl (zk (x := 1) 1 rfl) (by omega) (by omega)
                  have hFc := tw_free hF hS hA
                  refine va_callv (va_runV (As := [.int p0, .int x_31, .int r_25, .int x_32, .int x_43, .int x_44, .int x_45]) (rest := []) ⟨hx, hb, hml, hown, hts⟩ (c_goOn7 l dC dI ad av H.size a k τ ln y_28 g u p0 x_31 r_25 x_32 x_43 x_44 x_45 nP nH hI (by omega) (by omega) gn (by rw [hG.at (fx_41 hX) (by decide)]; exact gp) (by rw [hG.at (fx_42 hX) (by decide)]; exact gh) (by omega) (by omega) (by omega)) (cwV 7 hts (gi_4 (List.mem_cons_of_mem _ (List.mem_append_left _ (List.mem_of_getElem? (i := 36) rfl))) (List.mem_cons_of_mem _ (List.mem_append_left _ (List.mem_of_getElem? (i := 37) rfl))) (List.mem_cons_of_mem _ (List.mem_append_left _ (List.mem_of_getElem? (i := 38) rfl))) (List.mem_cons_of_mem _ (List.mem_append_left _ (List.mem_of_getElem? (i := 4) rfl))) (fun _ hh => (List.mem_cons_of_mem _ (List.mem_append_right _ (List.mem_append_right _ (List.mem_append_right _ (List.mem_append_right _ (List.mem_append_right _ (List.mem_append_right _ (List.mem_append_right _ (List.mem_append_right _ (List.mem_append_right _ (List.mem_append_right _ (List.mem_append_left _ hh))))))))))))) gd_c_goOn7) rfl rfl rfl (by decide +kernel) ⟨Nat.le_of_ble_eq_true rfl, Nat.le_of_ble_eq_true rfl⟩) ⟨pw_blind, tw_recv hK hT (fx_6 hX) (by decide) cl_e16 rfl, pw_use hT hK hFc hS hM⟩ rfl rfl hl.1 rfl (lv_room (Nat.le_of_ble_eq_true rfl)) dX7_goOn_211 ⟨Nat.le_of_ble_eq_true rfl, Nat.le_of_ble_eq_true rfl⟩) hS (fun q _ h => hFc q h) hFc (fun u0 t H locs ht hvm hw hB hz1 hk1 hS => ?_)
                  refine W.widen (k := 0) (n := 0) (Nat.le_of_ble_eq_true rfl) (Nat.le_of_ble_eq_true rfl) ?_
                  clear hvm hz1 hk1
                  obtain ⟨y_47, hgy_47, hf_48, hf_49, hf_50, hT⟩ := hB
                  rw [ht] at hT
                  have hG := hG.tr hgy_47 (by decide)
                  have hI := hI.ag hgy_47 (by decide)
                  obtain ⟨x_51, ex_51⟩ : ∃ y : Int32, y = i9 + Int32.ofInt 1 := ⟨_, rfl⟩
                  have hx_51 := z_add ex_51 rfl (zk (x := Int32.ofInt 1) 1 rfl) (by omega) (by omega)
                  refine lv_iinc (v := x_51) (lv' := [(9, .int x_51), (14, .int x_27), (13, .int r_25), (12, .int r_24), (11, .ref q_21), (10, .int (y_L62 (a 41) i9.toNatClampNeg)), (0, .ref (a 6)), (1, .int p0), (2, .int p1), (3, .int p2), (4, .int p3), (5, .int p4), (6, .int p5), (7, .int p6), (8, .int (y_9 (a 42) p0.toNatClampNeg))]) hx hb dX7_goOn_214 hl (k := 14) rfl ex_51.symm (by decide) rfl (fun ls hl => ?_)
                  refine lv_goto (tgt := 62) hx hb dX7_goOn_217 (by decide) ?_
                  exact ih_62  x_51 y_47 H _ ls (by omega) hG hI (by omega) (by omega) (by omega) (by omega) (by omega) hT hS (lv_sub hl [6, 7, 8, 9, 10, 11, 12, 13, 14, 0] rfl)
        have hp_52 : (0 : Int32).toInt = 0 := (zk (x := 0) 0 rfl)
        exact loop_62 _ (0 : Int32) y_9 H _ ls (Nat.lt_succ_self _) hG hI (by omega) (by omega) (by omega) (by omega) (by omega) hT hS (lv_sub hl [2, 3, 4, 5, 6, 7, 8, 9, 1, 0] rfl)
      · refine lq_top (v := 0) hre ?_
        rw [ht] at hT
        refine lv_if_ne (tgt := 27) hx hb dX7_goOn_23 (by decide) (fun c_53 => absurd c_53 (by decide)) (fun c_53 => ?_)
        exact W.vret hx hb hr (fun t ht hW9 => ⟨⟨(), rfl, trivial, ⟨y, hG, by omega, by omega, by omega, tw_at ht hT⟩⟩, hS.F ht⟩) hS.2.2 dX7_goOn_26
def wo_c_beginHand6 : List Cond := [.fieldLink RX7 78 "TypingPool$Planner" "handCount" "I", .fieldLink RX7 15 "TypingPool$Planner" "hands" "[I", .fieldLink RX7 31 "TypingPool$Planner" "floor" "LTypingPool$Floor;", .fieldLink RX7 92 "TypingPool$Floor" "now" "I", .fieldLink RX7 95 "TypingPool$Floor" "words" "[I", .fieldLink RX7 98 "TypingPool$Floor" "has" "[I", .fieldLink RX7 27 "TypingPool$Planner" "book" "LTypingPool$Book;", .methodLink RX7 67 yX1_hasPiece, .instanceMethod yX1_hasPiece, .selects RX1 yX1_hasPiece yX1_hasPiece, .initialized RX1, .fieldLink RX7 101 "TypingPool$Floor" "workLeft" "[I", .fieldLink RX7 104 "TypingPool$Floor" "rate" "[I", .initialized RX11, .static yX11_minutesFor, .methodLink RX7 111 yX1_minuteAfterWork, .instanceMethod yX1_minuteAfterWork, .selects RX1 yX1_minuteAfterWork yX1_minuteAfterWork, .fieldLink RX7 115 "TypingPool$Book" "pieces" "[LTypingPool$Piece;", .fieldLink RX7 118 "TypingPool$Piece" "words" "I", .methodLink RX7 122 yX7_goOn, .instanceMethod yX7_goOn, .selects RX7 yX7_goOn yX7_goOn, .initialized RX7, .methodLink RX7 88 yX7_keep, .instanceMethod yX7_keep, .selects RX7 yX7_keep yX7_keep]
def wm_c_beginHand6 : List Cond := .code yX7_beginHand cX7_beginHand 11 none :: (wo_c_beginHand6 ++ (wsX70 ++ (wsX30 ++ (wm_c_hasPiece ++ (wm_c_minutesFor ++ (wm_c_minuteAfterWork ++ (wsX10 ++ (wsX60 ++ (wm_c_goOn6 ++ (wm_c_keep ++ ([] : List Cond)))))))))))
theorem gd_c_beginHand6 : ∀ w ∈ wm_c_beginHand6, goodWord w = true := gd_c rfl (gd_a (by decide) (gd_a gd_wsX70 (gd_a gd_wsX30 (gd_a gd_c_hasPiece (gd_a gd_c_minutesFor (gd_a gd_c_minuteAfterWork (gd_a gd_wsX10 (gd_a gd_wsX60 (gd_a gd_c_goOn6 (gd_a gd_c_keep gd_nil))))))))))
set_option maxRecDepth 20000 in
theorem im_c_beginHand6 : ∀ w ∈ wm_c_beginHand6, w ∈ lw_tbl := im_c (in_r [.code yX7_beginHand cX7_beginHand 11 none] [1042] (by decide +kernel)) (in_app (in_r wo_c_beginHand6 [520, 519, 516, 430, 438, 432, 515, 1027, 841, 842, 71, 450, 435, 70, 845, 1053, 1054, 1055, 128, 687, 1057, 1059, 24, 85, 1043, 1045, 22] (by decide +kernel)) (in_app im_wsX70 (in_app im_wsX30 (in_app im_c_hasPiece (in_app im_c_minutesFor (in_app im_c_minuteAfterWork (in_app im_wsX10 (in_app im_wsX60 (in_app im_c_goOn6 (in_app im_c_keep im_nil))))))))))
set_option maxHeartbeats 4000000 in
set_option maxRecDepth 100000 in
theorem c_beginHand6 (l : Launch) (dC : Nat → ClassId) (dI : Nat → Nat → Nat) (ad av : Nat → Nat) (sz : Nat) (a : Nat → Nat) (k : Nat → ClassId) (τ ln : Nat → Nat) (y : Nat → Nat → Int32) (g : Nat → Nat → Option Nat) (u : Nat → Int) (p0 : Int32) (p1 : Int32) (p2 : Int32) (p3 : Int32) (p4 : Int32) (nP : Int) (nH : Int) (hI : IC a u τ ln y g) (g3 : (y (a 6) 3).toInt = nP) (g5 : (y (a 6) 5).toInt = nH) (gn : (0 ≤ nP ∧ nP ≤ 5) ∧ 0 ≤ nH ∧ nH ≤ 3) (gp : vl nP (u 2) (y (a 41))) (gh : vl nH (u 1) (y (a 42))) (g9 : 0 ≤ (y (a 6) 9).toInt ∧ (y (a 6) 9).toInt ≤ 8) (hp0 : 0 ≤ p0.toInt) (hlen : p4.toInt = 6) : Met l yX7_beginHand wm_c_beginHand6 ({ frames := 7, cells := 0, slots := 0, locals := 420 }) (pw_ ad av (dC, dI) sz [.ref (a 6), .int p0, .int p1, .int p2, .int p3, .int p4] a k τ ln y g) (va_Qv (fun (_ : Unit) => True) (fun (_ : Unit) (t : State) => (∃ (y' : Nat → Nat → Int32), ag τ [16, 54, 55] y y' ∧ (y' (a 6) 3).toInt = (y (a 6) 3).toInt ∧ (y' (a 6) 5).toInt = (y (a 6) 5).toInt ∧ (0 ≤ (y' (a 6) 9).toInt ∧ (y' (a 6) 9).toInt ≤ 8) ∧ tw (dC, dI) a k τ ln y' g t.heap)) (fr τ sz)) 0 0 (fr τ sz) := by
  refine Met.ofW (cc := cX7_beginHand) (maxL := 11) (ret := none) (by decide) rfl ?_
  intro p e s m args below meth c s₁ B hml hv
  obtain ⟨rfl, hsz, hT, hK, hM⟩ := hv
  have hx := B.exec
  have hb := B.bytes
  have hr := B.returns
  have hts := atoms_spec (ws := wm_c_beginHand6) B.pre
  have hown : s.vm.findClass RX7 = some m.cls := findClass_of_methodNamed B.named
  have hlocks := B.notSynchronized
  subst hsz
  generalize hAe : fr τ s.heap.size = A at hM ⊢
  have hA : ∀ q : Nat, s.heap.size ≤ q → A q := fun q h => by rw [← hAe]; exact Or.inr h
  have hF : ∀ q, τ q ≠ 0 → A q := fun q h => by rw [← hAe]; exact Or.inl h
  have hS : va_S A s.heap s.heap [] := va_S.rf
  have hX := hI.1
  have hR := ic_r hI
  have hG : ag τ [16, 54, 55] y y := ag.rf
  have hl := lv_entry ([.ref (a 6), .int p0, .int p1, .int p2, .int p3, .int p4]) (n := 11) (Nat.le_of_ble_eq_true rfl)
  rw [lg_entry_eq]
  generalize (lg_sl ([.ref (a 6), .int p0, .int p1, .int p2, .int p3, .int p4]) ++ List.replicate (11 - (lg_sl ([.ref (a 6), .int p0, .int p1, .int p2, .int p3, .int p4])).length) Slot.unset).toArray = ls at hl ⊢
  have hl : lv_has ls 11 [(0, .ref (a 6)), (1, .int p0), (2, .int p1), (3, .int p2), (4, .int p3), (5, .int p4)] := hl
  refine lv_iload_n hx hb dX7_beginHand_0 rfl (lv_at hl 1 rfl) ?_
  refine lv_aload_n hx hb dX7_beginHand_1 rfl (lv_at hl 0 rfl) ?_
  refine tw_get (D := (dC, dI)) (v := .int (y (a 6) 5)) (C := RX7) (T := TX7) (N := 13) hx hb hts (fun _ hh => (List.mem_cons_of_mem _ (List.mem_append_right _ (List.mem_append_left _ hh)))) hown hK hT (fx_6 hX) (by decide) cl_e16 rfl 5 (by decide) (hts (.fieldLink RX7 78 "TypingPool$Planner" "handCount" "I") (List.mem_cons_of_mem _ (List.mem_append_left _ (List.mem_of_getElem? (i := 0) rfl)))) (fun _ h9 => h9) rfl dX7_beginHand_2 ?_
  refine lv_icmp_lt (tgt := 22) hx hb dX7_beginHand_5 (by decide) (fun c_1 => ?_) (fun c_1 => ?_)
  · have nc_1 := z_lt rfl rfl c_1
    refine lv_aload_n hx hb dX7_beginHand_22 rfl (lv_at hl 0 rfl) ?_
    refine tw_get (D := (dC, dI)) (v := .ref (a 42)) (C := RX7) (T := TX7) (N := 13) hx hb hts (fun _ hh => (List.mem_cons_of_mem _ (List.mem_append_right _ (List.mem_append_left _ hh)))) hown hK hT (fx_6 hX) (by decide) cl_e16 rfl 4 (by decide) (hts (.fieldLink RX7 15 "TypingPool$Planner" "hands" "[I") (List.mem_cons_of_mem _ (List.mem_append_left _ (List.mem_of_getElem? (i := 1) rfl)))) (fun _ h9 => h9) rfl dX7_beginHand_23 ?_
    refine lv_iload_n hx hb dX7_beginHand_26 rfl (lv_at hl 1 rfl) ?_
    refine tw_iald hx hb hK hT 0 (fx_42 hX) (by decide) cl_e52 rfl (z_in rfl (by omega) (by omega)) dX7_beginHand_27 ?_
    have hv0 : vl nH (u 1) (y (a 42)) := gh
    have hv_2 := vl_at hv0 (x := p0) rfl (by omega) (by omega)
    refine lv_istore (lv' := [(6, .int (y (a 42) p0.toNatClampNeg)), (0, .ref (a 6)), (1, .int p0), (2, .int p1), (3, .int p2), (4, .int p3), (5, .int p4)]) hx hb dX7_beginHand_28 hl (by decide) rfl (fun ls hl => ?_)
    refine lv_aload_n hx hb dX7_beginHand_30 rfl (lv_at hl 1 rfl) ?_
    refine tw_get (D := (dC, dI)) (v := .ref (a 3)) (C := RX7) (T := TX7) (N := 13) hx hb hts (fun _ hh => (List.mem_cons_of_mem _ (List.mem_append_right _ (List.mem_append_left _ hh)))) hown hK hT (fx_6 hX) (by decide) cl_e16 rfl 1 (by decide) (hts (.fieldLink RX7 31 "TypingPool$Planner" "floor" "LTypingPool$Floor;") (List.mem_cons_of_mem _ (List.mem_append_left _ (List.mem_of_getElem? (i := 2) rfl)))) (fun _ h9 => h9) rfl dX7_beginHand_31 ?_
    refine tw_get (D := (dC, dI)) (v := .int (y (a 3) 2)) (C := RX3) (T := TX3) (N := 12) hx hb hts (fun _ hh => (List.mem_cons_of_mem _ (List.mem_append_right _ (List.mem_append_right _ (List.mem_append_left _ hh))))) hown hK hT (fx_3 hX) (by decide) cl_e13 rfl 2 (by decide) (hts (.fieldLink RX7 92 "TypingPool$Floor" "now" "I") (List.mem_cons_of_mem _ (List.mem_append_left _ (List.mem_of_getElem? (i := 3) rfl)))) (fun _ h9 => h9) rfl dX7_beginHand_34 ?_
    refine lv_istore (lv' := [(7, .int (y (a 3) 2)), (6, .int (y (a 42) p0.toNatClampNeg)), (0, .ref (a 6)), (1, .int p0), (2, .int p1), (3, .int p2), (4, .int p3), (5, .int p4)]) hx hb dX7_beginHand_37 hl (by decide) rfl (fun ls hl => ?_)
    refine lv_aload_n hx hb dX7_beginHand_39 rfl (lv_at hl 2 rfl) ?_
    refine tw_get (D := (dC, dI)) (v := .ref (a 3)) (C := RX7) (T := TX7) (N := 13) hx hb hts (fun _ hh => (List.mem_cons_of_mem _ (List.mem_append_right _ (List.mem_append_left _ hh)))) hown hK hT (fx_6 hX) (by decide) cl_e16 rfl 1 (by decide) (hts (.fieldLink RX7 31 "TypingPool$Planner" "floor" "LTypingPool$Floor;") (List.mem_cons_of_mem _ (List.mem_append_left _ (List.mem_of_getElem? (i := 2) rfl)))) (fun _ h9 => h9) rfl dX7_beginHand_40 ?_
    refine tw_get (D := (dC, dI)) (v := .ref (a 22)) (C := RX3) (T := TX3) (N := 12) hx hb hts (fun _ hh => (List.mem_cons_of_mem _ (List.mem_append_right _ (List.mem_append_right _ (List.mem_append_left _ hh))))) hown hK hT (fx_3 hX) (by decide) cl_e13 rfl 5 (by decide) (hts (.fieldLink RX7 95 "TypingPool$Floor" "words" "[I") (List.mem_cons_of_mem _ (List.mem_append_left _ (List.mem_of_getElem? (i := 4) rfl)))) (fun _ h9 => h9) rfl dX7_beginHand_43 ?_
    refine lv_iload hx hb dX7_beginHand_46 (lv_at hl 1 rfl) ?_
    refine tw_iald hx hb hK hT 0 (fx_22 hX) (by decide) cl_e32 rfl (z_in rfl (by omega) (by omega)) dX7_beginHand_48 ?_
    refine lv_istore (lv' := [(8, .int (y (a 22) (y (a 42) p0.toNatClampNeg).toNatClampNeg)), (7, .int (y (a 3) 2)), (6, .int (y (a 42) p0.toNatClampNeg)), (0, .ref (a 6)), (1, .int p0), (2, .int p1), (3, .int p2), (4, .int p3), (5, .int p4)]) hx hb dX7_beginHand_49 hl (by decide) rfl (fun ls hl => ?_)
    refine lv_aload_n hx hb dX7_beginHand_51 rfl (lv_at hl 3 rfl) ?_
    refine tw_get (D := (dC, dI)) (v := .ref (a 3)) (C := RX7) (T := TX7) (N := 13) hx hb hts (fun _ hh => (List.mem_cons_of_mem _ (List.mem_append_right _ (List.mem_append_left _ hh)))) hown hK hT (fx_6 hX) (by decide) cl_e16 rfl 1 (by decide) (hts (.fieldLink RX7 31 "TypingPool$Planner" "floor" "LTypingPool$Floor;") (List.mem_cons_of_mem _ (List.mem_append_left _ (List.mem_of_getElem? (i := 2) rfl)))) (fun _ h9 => h9) rfl dX7_beginHand_52 ?_
    refine tw_get (D := (dC, dI)) (v := .ref (a 20)) (C := RX3) (T := TX3) (N := 12) hx hb hts (fun _ hh => (List.mem_cons_of_mem _ (List.mem_append_right _ (List.mem_append_right _ (List.mem_append_left _ hh))))) hown hK hT (fx_3 hX) (by decide) cl_e13 rfl 3 (by decide) (hts (.fieldLink RX7 98 "TypingPool$Floor" "has" "[I") (List.mem_cons_of_mem _ (List.mem_append_left _ (List.mem_of_getElem? (i := 5) rfl)))) (fun _ h9 => h9) rfl dX7_beginHand_55 ?_
    refine lv_iload hx hb dX7_beginHand_58 (lv_at hl 2 rfl) ?_
    refine tw_iald hx hb hK hT 0 (fx_20 hX) (by decide) cl_e30 rfl (z_in rfl (by omega) (by omega)) dX7_beginHand_60 ?_
    refine lv_istore (lv' := [(9, .int (y (a 20) (y (a 42) p0.toNatClampNeg).toNatClampNeg)), (8, .int (y (a 22) (y (a 42) p0.toNatClampNeg).toNatClampNeg)), (7, .int (y (a 3) 2)), (6, .int (y (a 42) p0.toNatClampNeg)), (0, .ref (a 6)), (1, .int p0), (2, .int p1), (3, .int p2), (4, .int p3), (5, .int p4)]) hx hb dX7_beginHand_61 hl (by decide) rfl (fun ls hl => ?_)
    refine lv_aload_n hx hb dX7_beginHand_63 rfl (lv_at hl 4 rfl) ?_
    refine tw_get (D := (dC, dI)) (v := .ref (a 1)) (C := RX7) (T := TX7) (N := 13) hx hb hts (fun _ hh => (List.mem_cons_of_mem _ (List.mem_append_right _ (List.mem_append_left _ hh)))) hown hK hT (fx_6 hX) (by decide) cl_e16 rfl 0 (by decide) (hts (.fieldLink RX7 27 "TypingPool$Planner" "book" "LTypingPool$Book;") (List.mem_cons_of_mem _ (List.mem_append_left _ (List.mem_of_getElem? (i := 6) rfl)))) (fun _ h9 => h9) rfl dX7_beginHand_64 ?_
    refine lv_iload hx hb dX7_beginHand_67 (lv_at hl 0 rfl) ?_
    have hFc := tw_free hF hS hA
    refine va_calli (va_runV (As := [.int (y (a 20) (y (a 42) p0.toNatClampNeg).toNatClampNeg)]) (rest := []) ⟨hx, hb, hml, hown, hts⟩ (c_hasPiece l dC dI ad av s.heap.size a k τ ln y g u (y (a 20) (y (a 42) p0.toNatClampNeg).toNatClampNeg) hI ) (cwV 1 hts (gi_4 (List.mem_cons_of_mem _ (List.mem_append_left _ (List.mem_of_getElem? (i := 7) rfl))) (List.mem_cons_of_mem _ (List.mem_append_left _ (List.mem_of_getElem? (i := 8) rfl))) (List.mem_cons_of_mem _ (List.mem_append_left _ (List.mem_of_getElem? (i := 9) rfl))) (List.mem_cons_of_mem _ (List.mem_append_left _ (List.mem_of_getElem? (i := 10) rfl))) (fun _ hh => (List.mem_cons_of_mem _ (List.mem_append_right _ (List.mem_append_right _ (List.mem_append_right _ (List.mem_append_left _ hh)))))) gd_c_hasPiece) rfl rfl rfl (by decide +kernel) ⟨Nat.le_of_ble_eq_true rfl, Nat.le_of_ble_eq_true rfl⟩) ⟨pw_blind, tw_recv hK hT (fx_1 hX) (by decide) cl_e11 rfl, pw_use hT hK hFc hS hM⟩ rfl rfl hl.1 rfl (lv_room (Nat.le_of_ble_eq_true rfl)) dX7_beginHand_69 ⟨Nat.le_of_ble_eq_true rfl, Nat.le_of_ble_eq_true rfl⟩) hS (fun q _ h => hFc q h) hFc (fun r0 r_3 t H locs ht hvm hw hB hz1 hk1 hS => ?_)
    refine W.widen (k := 0) (n := 0) (Nat.le_of_ble_eq_true rfl) (Nat.le_of_ble_eq_true rfl) ?_
    clear hvm hz1 hk1
    subst hw
    rcases hB with ⟨hre, hf_4, hf_5, hT⟩ | ⟨hre, hf_6, hT⟩
    · refine lq_top (v := 1) hre ?_
      rw [ht] at hT
      refine lv_if_eq (tgt := 133) hx hb dX7_beginHand_72 (by decide) (fun c_7 => absurd c_7 (by decide)) (fun c_7 => ?_)
      refine lv_aload_n hx hb dX7_beginHand_75 rfl (lv_at hl 4 rfl) ?_
      refine tw_get (D := (dC, dI)) (v := .ref (a 3)) (C := RX7) (T := TX7) (N := 13) hx hb hts (fun _ hh => (List.mem_cons_of_mem _ (List.mem_append_right _ (List.mem_append_left _ hh)))) hown hK hT (fx_6 hX) (by decide) cl_e16 rfl 1 (by decide) (hts (.fieldLink RX7 31 "TypingPool$Planner" "floor" "LTypingPool$Floor;") (List.mem_cons_of_mem _ (List.mem_append_left _ (List.mem_of_getElem? (i := 2) rfl)))) (fun _ h9 => h9) rfl dX7_beginHand_76 ?_
      refine tw_get (D := (dC, dI)) (v := .ref (a 27)) (C := RX3) (T := TX3) (N := 12) hx hb hts (fun _ hh => (List.mem_cons_of_mem _ (List.mem_append_right _ (List.mem_append_right _ (List.mem_append_left _ hh))))) hown hK hT (fx_3 hX) (by decide) cl_e13 rfl 10 (by decide) (hts (.fieldLink RX7 101 "TypingPool$Floor" "workLeft" "[I") (List.mem_cons_of_mem _ (List.mem_append_left _ (List.mem_of_getElem? (i := 11) rfl)))) (fun _ h9 => h9) rfl dX7_beginHand_79 ?_
      refine lv_iload hx hb dX7_beginHand_82 (lv_at hl 0 rfl) ?_
      refine tw_iald hx hb hK hT 0 (fx_27 hX) (by decide) cl_e37 rfl (z_in rfl (by omega) (by omega)) dX7_beginHand_84 ?_
      refine lv_aload_n hx hb dX7_beginHand_85 rfl (lv_at hl 4 rfl) ?_
      refine tw_get (D := (dC, dI)) (v := .ref (a 3)) (C := RX7) (T := TX7) (N := 13) hx hb hts (fun _ hh => (List.mem_cons_of_mem _ (List.mem_append_right _ (List.mem_append_left _ hh)))) hown hK hT (fx_6 hX) (by decide) cl_e16 rfl 1 (by decide) (hts (.fieldLink RX7 31 "TypingPool$Planner" "floor" "LTypingPool$Floor;") (List.mem_cons_of_mem _ (List.mem_append_left _ (List.mem_of_getElem? (i := 2) rfl)))) (fun _ h9 => h9) rfl dX7_beginHand_86 ?_
      refine tw_get (D := (dC, dI)) (v := .ref (a 21)) (C := RX3) (T := TX3) (N := 12) hx hb hts (fun _ hh => (List.mem_cons_of_mem _ (List.mem_append_right _ (List.mem_append_right _ (List.mem_append_left _ hh))))) hown hK hT (fx_3 hX) (by decide) cl_e13 rfl 4 (by decide) (hts (.fieldLink RX7 104 "TypingPool$Floor" "rate" "[I") (List.mem_cons_of_mem _ (List.mem_append_left _ (List.mem_of_getElem? (i := 12) rfl)))) (fun _ h9 => h9) rfl dX7_beginHand_89 ?_
      refine lv_iload hx hb dX7_beginHand_92 (lv_at hl 3 rfl) ?_
      refine tw_iald hx hb hK hT 0 (fx_21 hX) (by decide) cl_e31 rfl (z_in rfl (by omega) (by omega)) dX7_beginHand_94 ?_
      have hFc := tw_free hF hS hA
      refine va_calli (va_runSN (As := [.int (y (a 27) (y (a 20) (y (a 42) p0.toNatClampNeg).toNatClampNeg).toNatClampNeg), .int (y (a 21) (y (a 42) p0.toNatClampNeg).toNatClampNeg)]) (rest := []) ⟨hx, hb, hml, hown, hts⟩ (c_minutesFor l dC dI ad av H.size a k τ ln y g u (y (a 27) (y (a 20) (y (a 42) p0.toNatClampNeg).toNatClampNeg).toNatClampNeg) (y (a 21) (y (a 42) p0.toNatClampNeg).toNatClampNeg)  ) ⟨va_cnB 2 hts (gi_0  (fun _ hh => (List.mem_cons_of_mem _ (List.mem_append_right _ (List.mem_append_right _ (List.mem_append_right _ (List.mem_append_right _ (List.mem_append_left _ hh))))))) gd_c_minutesFor) rfl rfl rfl hM.1.2.2.2.1 (hts (.initialized RX11) (List.mem_cons_of_mem _ (List.mem_append_left _ (List.mem_of_getElem? (i := 13) rfl)))) (by decide +kernel) ⟨Nat.le_of_ble_eq_true rfl, Nat.le_of_ble_eq_true rfl⟩, (hts (.static yX11_minutesFor) (List.mem_cons_of_mem _ (List.mem_append_left _ (List.mem_of_getElem? (i := 14) rfl)))), trivial⟩ ⟨pw_blind, pw_use hT hK hFc hS hM⟩ rfl rfl hl.1 rfl (lv_room (Nat.le_of_ble_eq_true rfl)) dX7_beginHand_95 ⟨Nat.le_of_ble_eq_true rfl, Nat.le_of_ble_eq_true rfl⟩) hS (fun q _ h => hFc q h) hFc (fun r0 r_8 t H locs ht hvm hw hB hz1 hk1 hS => ?_)
      refine W.widen (k := 0) (n := 0) (Nat.le_of_ble_eq_true rfl) (Nat.le_of_ble_eq_true rfl) ?_
      clear hvm hz1 hk1
      subst hw
      have hT := hB
      rw [ht] at hT
      refine lv_istore (lv' := [(10, .int r_8), (9, .int (y (a 20) (y (a 42) p0.toNatClampNeg).toNatClampNeg)), (8, .int (y (a 22) (y (a 42) p0.toNatClampNeg).toNatClampNeg)), (7, .int (y (a 3) 2)), (6, .int (y (a 42) p0.toNatClampNeg)), (0, .ref (a 6)), (1, .int p0), (2, .int p1), (3, .int p2), (4, .int p3), (5, .int p4)]) hx hb dX7_beginHand_98 hl (by decide) rfl (fun ls hl => ?_)
      refine lv_aload_n hx hb dX7_beginHand_100 rfl (lv_at hl 5 rfl) ?_
      refine tw_get (D := (dC, dI)) (v := .ref (a 1)) (C := RX7) (T := TX7) (N := 13) hx hb hts (fun _ hh => (List.mem_cons_of_mem _ (List.mem_append_right _ (List.mem_append_left _ hh)))) hown hK hT (fx_6 hX) (by decide) cl_e16 rfl 0 (by decide) (hts (.fieldLink RX7 27 "TypingPool$Planner" "book" "LTypingPool$Book;") (List.mem_cons_of_mem _ (List.mem_append_left _ (List.mem_of_getElem? (i := 6) rfl)))) (fun _ h9 => h9) rfl dX7_beginHand_101 ?_
      refine lv_iload hx hb dX7_beginHand_104 (lv_at hl 4 rfl) ?_
      refine lv_iload hx hb dX7_beginHand_106 (lv_at hl 3 rfl) ?_
      refine lv_iload hx hb dX7_beginHand_108 (lv_at hl 0 rfl) ?_
      have hFc := tw_free hF hS hA
      refine va_calli (va_runV (As := [.int (y (a 42) p0.toNatClampNeg), .int (y (a 3) 2), .int r_8]) (rest := []) ⟨hx, hb, hml, hown, hts⟩ (c_minuteAfterWork l dC dI ad av H.size a k τ ln y g u (y (a 42) p0.toNatClampNeg) (y (a 3) 2) r_8 hI ) (cwV 3 hts (gi_4 (List.mem_cons_of_mem _ (List.mem_append_left _ (List.mem_of_getElem? (i := 15) rfl))) (List.mem_cons_of_mem _ (List.mem_append_left _ (List.mem_of_getElem? (i := 16) rfl))) (List.mem_cons_of_mem _ (List.mem_append_left _ (List.mem_of_getElem? (i := 17) rfl))) (List.mem_cons_of_mem _ (List.mem_append_left _ (List.mem_of_getElem? (i := 10) rfl))) (fun _ hh => (List.mem_cons_of_mem _ (List.mem_append_right _ (List.mem_append_right _ (List.mem_append_right _ (List.mem_append_right _ (List.mem_append_right _ (List.mem_append_left _ hh)))))))) gd_c_minuteAfterWork) rfl rfl rfl (by decide +kernel) ⟨Nat.le_of_ble_eq_true rfl, Nat.le_of_ble_eq_true rfl⟩) ⟨pw_blind, tw_recv hK hT (fx_1 hX) (by decide) cl_e11 rfl, pw_use hT hK hFc hS hM⟩ rfl rfl hl.1 rfl (lv_room (Nat.le_of_ble_eq_true rfl)) dX7_beginHand_110 ⟨Nat.le_of_ble_eq_true rfl, Nat.le_of_ble_eq_true rfl⟩) hS (fun q _ h => hFc q h) hFc (fun r0 r_9 t H locs ht hvm hw hB hz1 hk1 hS => ?_)
      refine W.widen (k := 0) (n := 0) (Nat.le_of_ble_eq_true rfl) (Nat.le_of_ble_eq_true rfl) ?_
      clear hvm hz1 hk1
      subst hw
      have hT := hB
      rw [ht] at hT
      refine lv_istore (lv' := [(7, .int r_9), (10, .int r_8), (9, .int (y (a 20) (y (a 42) p0.toNatClampNeg).toNatClampNeg)), (8, .int (y (a 22) (y (a 42) p0.toNatClampNeg).toNatClampNeg)), (6, .int (y (a 42) p0.toNatClampNeg)), (0, .ref (a 6)), (1, .int p0), (2, .int p1), (3, .int p2), (4, .int p3), (5, .int p4)]) hx hb dX7_beginHand_113 hl (by decide) rfl (fun ls hl => ?_)
      refine lv_iload hx hb dX7_beginHand_115 (lv_at hl 3 rfl) ?_
      refine lv_aload_n hx hb dX7_beginHand_117 rfl (lv_at hl 5 rfl) ?_
      refine tw_get (D := (dC, dI)) (v := .ref (a 1)) (C := RX7) (T := TX7) (N := 13) hx hb hts (fun _ hh => (List.mem_cons_of_mem _ (List.mem_append_right _ (List.mem_append_left _ hh)))) hown hK hT (fx_6 hX) (by decide) cl_e16 rfl 0 (by decide) (hts (.fieldLink RX7 27 "TypingPool$Planner" "book" "LTypingPool$Book;") (List.mem_cons_of_mem _ (List.mem_append_left _ (List.mem_of_getElem? (i := 6) rfl)))) (fun _ h9 => h9) rfl dX7_beginHand_118 ?_
      refine tw_get (D := (dC, dI)) (v := .ref (a 11)) (C := RX1) (T := TX1) (N := 8) hx hb hts (fun _ hh => (List.mem_cons_of_mem _ (List.mem_append_right _ (List.mem_append_right _ (List.mem_append_right _ (List.mem_append_right _ (List.mem_append_right _ (List.mem_append_right _ (List.mem_append_left _ hh))))))))) hown hK hT (fx_1 hX) (by decide) cl_e11 rfl 4 (by decide) (hts (.fieldLink RX7 115 "TypingPool$Book" "pieces" "[LTypingPool$Piece;") (List.mem_cons_of_mem _ (List.mem_append_left _ (List.mem_of_getElem? (i := 18) rfl)))) (fun _ h9 => h9) rfl dX7_beginHand_121 ?_
      refine lv_iload hx hb dX7_beginHand_124 (lv_at hl 2 rfl) ?_
      refine tw_aald hx hb hK hT 4 (fx_11 hX) (by decide) cl_e21 rfl (z_in rfl (by omega) (by omega)) dX7_beginHand_126 ?_
      obtain ⟨q_10, hgq_10, htq_10⟩ := ic_l11 hI (x := (y (a 20) (y (a 42) p0.toNatClampNeg).toNatClampNeg)) rfl (by omega) (by omega)
      refine lq_topr hgq_10 ?_
      refine tw_get (D := (dC, dI)) (v := .int (y q_10 7)) (C := RX6) (T := TX6) (N := 11) hx hb hts (fun _ hh => (List.mem_cons_of_mem _ (List.mem_append_right _ (List.mem_append_right _ (List.mem_append_right _ (List.mem_append_right _ (List.mem_append_right _ (List.mem_append_right _ (List.mem_append_right _ (List.mem_append_left _ hh)))))))))) hown hK hT htq_10 (by decide) cl_e2 rfl 7 (by decide) (hts (.fieldLink RX7 118 "TypingPool$Piece" "words" "I") (List.mem_cons_of_mem _ (List.mem_append_left _ (List.mem_of_getElem? (i := 19) rfl)))) (fun _ h9 => h9) rfl dX7_beginHand_127 ?_
      refine lv_ior hx hb dX7_beginHand_130 ?_
      refine lv_topi (fun x_11 ex_11 => ?_)
      refine lv_istore (lv' := [(8, .int x_11), (7, .int r_9), (10, .int r_8), (9, .int (y (a 20) (y (a 42) p0.toNatClampNeg).toNatClampNeg)), (6, .int (y (a 42) p0.toNatClampNeg)), (0, .ref (a 6)), (1, .int p0), (2, .int p1), (3, .int p2), (4, .int p3), (5, .int p4)]) hx hb dX7_beginHand_131 hl (by decide) rfl (fun ls hl => ?_)
      refine lv_aload_n hx hb dX7_beginHand_133 rfl (lv_at hl 5 rfl) ?_
      refine lv_iload_n hx hb dX7_beginHand_134 rfl (lv_at hl 6 rfl) ?_
      refine lv_iload_n hx hb dX7_beginHand_135 rfl (lv_at hl 7 rfl) ?_
      refine lv_iload hx hb dX7_beginHand_136 (lv_at hl 1 rfl) ?_
      refine lv_iload hx hb dX7_beginHand_138 (lv_at hl 0 rfl) ?_
      refine lv_iload_n hx hb dX7_beginHand_140 rfl (lv_at hl 8 rfl) ?_
      refine lv_iload hx hb dX7_beginHand_141 (lv_at hl 9 rfl) ?_
      refine lv_iload hx hb dX7_beginHand_143 (lv_at hl 10 rfl) ?_
      have hFc := tw_free hF hS hA
      refine va_callv (va_runV (As := [.int p0, .int p1, .int r_9, .int x_11, .int p2, .int p3, .int p4]) (rest := []) ⟨hx, hb, hml, hown, hts⟩ (c_goOn6 l dC dI ad av H.size a k τ ln y g u p0 p1 r_9 x_11 p2 p3 p4 nP nH hI (by omega) (by omega) gn gp gh (by omega) (by omega) (by omega)) (cwV 7 hts (gi_4 (List.mem_cons_of_mem _ (List.mem_append_left _ (List.mem_of_getElem? (i := 20) rfl))) (List.mem_cons_of_mem _ (List.mem_append_left _ (List.mem_of_getElem? (i := 21) rfl))) (List.mem_cons_of_mem _ (List.mem_append_left _ (List.mem_of_getElem? (i := 22) rfl))) (List.mem_cons_of_mem _ (List.mem_append_left _ (List.mem_of_getElem? (i := 23) rfl))) (fun _ hh => (List.mem_cons_of_mem _ (List.mem_append_right _ (List.mem_append_right _ (List.mem_append_right _ (List.mem_append_right _ (List.mem_append_right _ (List.mem_append_right _ (List.mem_append_right _ (List.mem_append_right _ (List.mem_append_left _ hh))))))))))) gd_c_goOn6) rfl rfl rfl (by decide +kernel) ⟨Nat.le_of_ble_eq_true rfl, Nat.le_of_ble_eq_true rfl⟩) ⟨pw_blind, tw_recv hK hT (fx_6 hX) (by decide) cl_e16 rfl, pw_use hT hK hFc hS hM⟩ rfl rfl hl.1 rfl (lv_room (Nat.le_of_ble_eq_true rfl)) dX7_beginHand_145 ⟨Nat.le_of_ble_eq_true rfl, Nat.le_of_ble_eq_true rfl⟩) hS (fun q _ h => hFc q h) hFc (fun u0 t H locs ht hvm hw hB hz1 hk1 hS => ?_)
      refine W.widen (k := 0) (n := 0) (Nat.le_of_ble_eq_true rfl) (Nat.le_of_ble_eq_true rfl) ?_
      clear hvm hz1 hk1
      obtain ⟨y_13, hgy_13, hf_14, hf_15, hf_16, hT⟩ := hB
      rw [ht] at hT
      have hG := hG.tr hgy_13 (by decide)
      have hI := hI.ag hgy_13 (by decide)
      exact W.vret hx hb hr (fun t ht hW9 => ⟨⟨(), rfl, trivial, ⟨y_13, hG, by omega, by omega, by omega, tw_at ht hT⟩⟩, hS.F ht⟩) hS.2.2 dX7_beginHand_148
    · refine lq_top (v := 0) hre ?_
      rw [ht] at hT
      refine lv_if_eq (tgt := 133) hx hb dX7_beginHand_72 (by decide) (fun c_17 => ?_) (fun c_17 => absurd c_17 (by decide))
      refine lv_aload_n hx hb dX7_beginHand_133 rfl (lv_at hl 4 rfl) ?_
      refine lv_iload_n hx hb dX7_beginHand_134 rfl (lv_at hl 5 rfl) ?_
      refine lv_iload_n hx hb dX7_beginHand_135 rfl (lv_at hl 6 rfl) ?_
      refine lv_iload hx hb dX7_beginHand_136 (lv_at hl 2 rfl) ?_
      refine lv_iload hx hb dX7_beginHand_138 (lv_at hl 1 rfl) ?_
      refine lv_iload_n hx hb dX7_beginHand_140 rfl (lv_at hl 7 rfl) ?_
      refine lv_iload hx hb dX7_beginHand_141 (lv_at hl 8 rfl) ?_
      refine lv_iload hx hb dX7_beginHand_143 (lv_at hl 9 rfl) ?_
      have hFc := tw_free hF hS hA
      refine va_callv (va_runV (As := [.int p0, .int p1, .int (y (a 3) 2), .int (y (a 22) (y (a 42) p0.toNatClampNeg).toNatClampNeg), .int p2, .int p3, .int p4]) (rest := []) ⟨hx, hb, hml, hown, hts⟩ (c_goOn6 l dC dI ad av H.size a k τ ln y g u p0 p1 (y (a 3) 2) (y (a 22) (y (a 42) p0.toNatClampNeg).toNatClampNeg) p2 p3 p4 nP nH hI (by omega) (by omega) gn gp gh (by omega) (by omega) (by omega)) (cwV 7 hts (gi_4 (List.mem_cons_of_mem _ (List.mem_append_left _ (List.mem_of_getElem? (i := 20) rfl))) (List.mem_cons_of_mem _ (List.mem_append_left _ (List.mem_of_getElem? (i := 21) rfl))) (List.mem_cons_of_mem _ (List.mem_append_left _ (List.mem_of_getElem? (i := 22) rfl))) (List.mem_cons_of_mem _ (List.mem_append_left _ (List.mem_of_getElem? (i := 23) rfl))) (fun _ hh => (List.mem_cons_of_mem _ (List.mem_append_right _ (List.mem_append_right _ (List.mem_append_right _ (List.mem_append_right _ (List.mem_append_right _ (List.mem_append_right _ (List.mem_append_right _ (List.mem_append_right _ (List.mem_append_left _ hh))))))))))) gd_c_goOn6) rfl rfl rfl (by decide +kernel) ⟨Nat.le_of_ble_eq_true rfl, Nat.le_of_ble_eq_true rfl⟩) ⟨pw_blind, tw_recv hK hT (fx_6 hX) (by decide) cl_e16 rfl, pw_use hT hK hFc hS hM⟩ rfl rfl hl.1 rfl (lv_room (Nat.le_of_ble_eq_true rfl)) dX7_beginHand_145 ⟨Nat.le_of_ble_eq_true rfl, Nat.le_of_ble_eq_true rfl⟩) hS (fun q _ h => hFc q h) hFc (fun u0 t H locs ht hvm hw hB hz1 hk1 hS => ?_)
      refine W.widen (k := 0) (n := 0) (Nat.le_of_ble_eq_true rfl) (Nat.le_of_ble_eq_true rfl) ?_
      clear hvm hz1 hk1
      obtain ⟨y_19, hgy_19, hf_20, hf_21, hf_22, hT⟩ := hB
      rw [ht] at hT
      have hG := hG.tr hgy_19 (by decide)
      have hI := hI.ag hgy_19 (by decide)
      exact W.vret hx hb hr (fun t ht hW9 => ⟨⟨(), rfl, trivial, ⟨y_19, hG, by omega, by omega, by omega, tw_at ht hT⟩⟩, hS.F ht⟩) hS.2.2 dX7_beginHand_148
  · have nc_1 := z_nlt rfl rfl c_1
    refine lv_iload_n hx hb dX7_beginHand_8 rfl (lv_at hl 2 rfl) ?_
    refine lv_if_ne (tgt := 21) hx hb dX7_beginHand_9 (by decide) (fun c_23 => ?_) (fun c_23 => ?_)
    · have nc_23 := z_ne rfl (zk (x := 0) 0 rfl) c_23
      exact W.vret hx hb hr (fun t ht hW9 => ⟨⟨(), rfl, trivial, ⟨y, hG, by omega, by omega, by omega, tw_at ht hT⟩⟩, hS.F ht⟩) hS.2.2 dX7_beginHand_21
    · have nc_23 := z_eq rfl (zk (x := 0) 0 rfl) c_23
      refine lv_aload_n hx hb dX7_beginHand_12 rfl (lv_at hl 0 rfl) ?_
      refine lv_iload_n hx hb dX7_beginHand_13 rfl (lv_at hl 3 rfl) ?_
      refine lv_iload hx hb dX7_beginHand_14 (lv_at hl 4 rfl) ?_
      refine lv_iload hx hb dX7_beginHand_16 (lv_at hl 5 rfl) ?_
      have hFc := tw_free hF hS hA
      refine va_callv (va_runV (As := [.int p2, .int p3, .int p4]) (rest := []) ⟨hx, hb, hml, hown, hts⟩ (c_keep l dC dI ad av s.heap.size a k τ ln y g u p2 p3 p4 hI (by omega) (by omega) (by omega)) (cwV 3 hts (gi_4 (List.mem_cons_of_mem _ (List.mem_append_left _ (List.mem_of_getElem? (i := 24) rfl))) (List.mem_cons_of_mem _ (List.mem_append_left _ (List.mem_of_getElem? (i := 25) rfl))) (List.mem_cons_of_mem _ (List.mem_append_left _ (List.mem_of_getElem? (i := 26) rfl))) (List.mem_cons_of_mem _ (List.mem_append_left _ (List.mem_of_getElem? (i := 23) rfl))) (fun _ hh => (List.mem_cons_of_mem _ (List.mem_append_right _ (List.mem_append_right _ (List.mem_append_right _ (List.mem_append_right _ (List.mem_append_right _ (List.mem_append_right _ (List.mem_append_right _ (List.mem_append_right _ (List.mem_append_right _ (List.mem_append_left _ hh)))))))))))) gd_c_keep) rfl rfl rfl (by decide +kernel) ⟨Nat.le_of_ble_eq_true rfl, Nat.le_of_ble_eq_true rfl⟩) ⟨pw_blind, tw_recv hK hT (fx_6 hX) (by decide) cl_e16 rfl, pw_use hT hK hFc hS hM⟩ rfl rfl hl.1 rfl (lv_room (Nat.le_of_ble_eq_true rfl)) dX7_beginHand_18 ⟨Nat.le_of_ble_eq_true rfl, Nat.le_of_ble_eq_true rfl⟩) hS (fun q _ h => hFc q h) hFc (fun u0 t H locs ht hvm hw hB hz1 hk1 hS => ?_)
      refine W.widen (k := 0) (n := 0) (Nat.le_of_ble_eq_true rfl) (Nat.le_of_ble_eq_true rfl) ?_
      clear hvm hz1 hk1
      obtain ⟨y_25, hgy_25, hf_26, hf_27, hf_28, hT⟩ := hB
      rw [ht] at hT
      have hG := hG.tr hgy_25 (by decide)
      have hI := hI.ag hgy_25 (by decide)
      exact W.vret hx hb hr (fun t ht hW9 => ⟨⟨(), rfl, trivial, ⟨y_25, hG, by omega, by omega, by omega, tw_at ht hT⟩⟩, hS.F ht⟩) hS.2.2 dX7_beginHand_21
def wo_c_goOn5 : List Cond := [.fieldLink RX7 78 "TypingPool$Planner" "handCount" "I", .methodLink RX7 126 yX7_isBetter, .instanceMethod yX7_isBetter, .selects RX7 yX7_isBetter yX7_isBetter, .initialized RX7, .fieldLink RX7 21 "TypingPool$Planner" "current" "[I", .methodLink RX7 63 yX7_beginHand, .instanceMethod yX7_beginHand, .selects RX7 yX7_beginHand yX7_beginHand, .fieldLink RX7 15 "TypingPool$Planner" "hands" "[I", .fieldLink RX7 42 "TypingPool$Planner" "pieceCount" "I", .fieldLink RX7 18 "TypingPool$Planner" "allowed" "[I", .fieldLink RX7 9 "TypingPool$Planner" "pieces" "[I", .fieldLink RX7 27 "TypingPool$Planner" "book" "LTypingPool$Book;", .fieldLink RX7 115 "TypingPool$Book" "pieces" "[LTypingPool$Piece;", .methodLink RX7 130 yX6_allWork, .instanceMethod yX6_allWork, .selects RX6 yX6_allWork yX6_allWork, .initialized RX6, .fieldLink RX7 31 "TypingPool$Planner" "floor" "LTypingPool$Floor;", .methodLink RX7 133 yX3_rateFor, .instanceMethod yX3_rateFor, .selects RX3 yX3_rateFor yX3_rateFor, .initialized RX3, .initialized RX11, .static yX11_minutesFor, .methodLink RX7 111 yX1_minuteAfterWork, .instanceMethod yX1_minuteAfterWork, .selects RX1 yX1_minuteAfterWork yX1_minuteAfterWork, .initialized RX1, .fieldLink RX7 136 "TypingPool$Piece" "due" "I", .methodLink RX7 139 Lib.Math.max.name, .static Lib.Math.max.name, .initialized "java/lang/Math", .code Lib.Math.max.name Lib.Math.max.code 2 (some .int), .fieldLink RX7 118 "TypingPool$Piece" "words" "I", .methodLink RX7 122 yX7_goOn, .instanceMethod yX7_goOn, .selects RX7 yX7_goOn yX7_goOn]
def wm_c_goOn5 : List Cond := .code yX7_goOn cX7_goOn 15 none :: (wo_c_goOn5 ++ (wsX70 ++ (wm_c_isBetter ++ (wm_c_beginHand6 ++ (wsX10 ++ (wm_c_allWork ++ (wm_c_rateFor ++ (wm_c_minutesFor ++ (wm_c_minuteAfterWork ++ (wsX60 ++ (wm_c_goOn6 ++ ([] : List Cond))))))))))))
theorem gd_c_goOn5 : ∀ w ∈ wm_c_goOn5, goodWord w = true := gd_c rfl (gd_a (by decide) (gd_a gd_wsX70 (gd_a gd_c_isBetter (gd_a gd_c_beginHand6 (gd_a gd_wsX10 (gd_a gd_c_allWork (gd_a gd_c_rateFor (gd_a gd_c_minutesFor (gd_a gd_c_minuteAfterWork (gd_a gd_wsX60 (gd_a gd_c_goOn6 gd_nil)))))))))))
set_option maxRecDepth 20000 in
theorem im_c_goOn5 : ∀ w ∈ wm_c_goOn5, w ∈ lw_tbl := im_c (in_r [.code yX7_goOn cX7_goOn 15 none] [1060] (by decide +kernel)) (in_app (in_r wo_c_goOn5 [520, 1047, 1049, 23, 85, 522, 1039, 1041, 21, 519, 518, 521, 517, 515, 128, 1061, 720, 721, 89, 516, 1062, 820, 821, 83, 70, 845, 1053, 1054, 1055, 71, 683, 1063, 289, 78, 290, 687, 1057, 1059, 24] (by decide +kernel)) (in_app im_wsX70 (in_app im_c_isBetter (in_app im_c_beginHand6 (in_app im_wsX10 (in_app im_c_allWork (in_app im_c_rateFor (in_app im_c_minutesFor (in_app im_c_minuteAfterWork (in_app im_wsX60 (in_app im_c_goOn6 im_nil)))))))))))
set_option maxHeartbeats 4000000 in
set_option maxRecDepth 100000 in
theorem c_goOn5 (l : Launch) (dC : Nat → ClassId) (dI : Nat → Nat → Nat) (ad av : Nat → Nat) (sz : Nat) (a : Nat → Nat) (k : Nat → ClassId) (τ ln : Nat → Nat) (y : Nat → Nat → Int32) (g : Nat → Nat → Option Nat) (u : Nat → Int) (p0 : Int32) (p1 : Int32) (p2 : Int32) (p3 : Int32) (p4 : Int32) (p5 : Int32) (p6 : Int32) (nP : Int) (nH : Int) (hI : IC a u τ ln y g) (g3 : (y (a 6) 3).toInt = nP) (g5 : (y (a 6) 5).toInt = nH) (gn : (0 ≤ nP ∧ nP ≤ 5) ∧ 0 ≤ nH ∧ nH ≤ 3) (gp : vl nP (u 2) (y (a 41))) (gh : vl nH (u 1) (y (a 42))) (g9 : 0 ≤ (y (a 6) 9).toInt ∧ (y (a 6) 9).toInt ≤ 8) (hp0 : 0 ≤ p0.toInt) (hlen : p6.toInt = 5) : Met l yX7_goOn wm_c_goOn5 ({ frames := 8, cells := 0, slots := 0, locals := 480 }) (pw_ ad av (dC, dI) sz [.ref (a 6), .int p0, .int p1, .int p2, .int p3, .int p4, .int p5, .int p6] a k τ ln y g) (va_Qv (fun (_ : Unit) => True) (fun (_ : Unit) (t : State) => (∃ (y' : Nat → Nat → Int32), ag τ [16, 54, 55] y y' ∧ (y' (a 6) 3).toInt = (y (a 6) 3).toInt ∧ (y' (a 6) 5).toInt = (y (a 6) 5).toInt ∧ (0 ≤ (y' (a 6) 9).toInt ∧ (y' (a 6) 9).toInt ≤ 8) ∧ tw (dC, dI) a k τ ln y' g t.heap)) (fr τ sz)) 0 0 (fr τ sz) := by
  refine Met.ofW (cc := cX7_goOn) (maxL := 15) (ret := none) (by decide) rfl ?_
  intro p e s m args below meth c s₁ B hml hv
  obtain ⟨rfl, hsz, hT, hK, hM⟩ := hv
  have hx := B.exec
  have hb := B.bytes
  have hr := B.returns
  have hts := atoms_spec (ws := wm_c_goOn5) B.pre
  have hown : s.vm.findClass RX7 = some m.cls := findClass_of_methodNamed B.named
  have hlocks := B.notSynchronized
  subst hsz
  generalize hAe : fr τ s.heap.size = A at hM ⊢
  have hA : ∀ q : Nat, s.heap.size ≤ q → A q := fun q h => by rw [← hAe]; exact Or.inr h
  have hF : ∀ q, τ q ≠ 0 → A q := fun q h => by rw [← hAe]; exact Or.inl h
  have hS : va_S A s.heap s.heap [] := va_S.rf
  have hX := hI.1
  have hR := ic_r hI
  have hG : ag τ [16, 54, 55] y y := ag.rf
  have hl := lv_entry ([.ref (a 6), .int p0, .int p1, .int p2, .int p3, .int p4, .int p5, .int p6]) (n := 15) (Nat.le_of_ble_eq_true rfl)
  rw [lg_entry_eq]
  generalize (lg_sl ([.ref (a 6), .int p0, .int p1, .int p2, .int p3, .int p4, .int p5, .int p6]) ++ List.replicate (15 - (lg_sl ([.ref (a 6), .int p0, .int p1, .int p2, .int p3, .int p4, .int p5, .int p6])).length) Slot.unset).toArray = ls at hl ⊢
  have hl : lv_has ls 15 [(0, .ref (a 6)), (1, .int p0), (2, .int p1), (3, .int p2), (4, .int p3), (5, .int p4), (6, .int p5), (7, .int p6)] := hl
  refine lv_iload hx hb dX7_goOn_0 (lv_at hl 7 rfl) ?_
  refine lv_bipush (v := 8) hx hb dX7_goOn_2 (by decide) ?_
  refine lv_icmp_ge (tgt := 26) hx hb dX7_goOn_4 (by decide) (fun c_1 => ?_) (fun c_1 => ?_)
  · have nc_1 := z_le (zk (x := 8) 8 rfl) rfl c_1
    exact W.vret hx hb hr (fun t ht hW9 => ⟨⟨(), rfl, trivial, ⟨y, hG, by omega, by omega, by omega, tw_at ht hT⟩⟩, hS.F ht⟩) hS.2.2 dX7_goOn_26
  · have nc_1 := z_nle (zk (x := 8) 8 rfl) rfl c_1
    refine lv_iload_n hx hb dX7_goOn_7 rfl (lv_at hl 1 rfl) ?_
    refine lv_aload_n hx hb dX7_goOn_8 rfl (lv_at hl 0 rfl) ?_
    refine tw_get (D := (dC, dI)) (v := .int (y (a 6) 5)) (C := RX7) (T := TX7) (N := 13) hx hb hts (fun _ hh => (List.mem_cons_of_mem _ (List.mem_append_right _ (List.mem_append_left _ hh)))) hown hK hT (fx_6 hX) (by decide) cl_e16 rfl 5 (by decide) (hts (.fieldLink RX7 78 "TypingPool$Planner" "handCount" "I") (List.mem_cons_of_mem _ (List.mem_append_left _ (List.mem_of_getElem? (i := 0) rfl)))) (fun _ h9 => h9) rfl dX7_goOn_9 ?_
    refine lv_icmp_ge (tgt := 26) hx hb dX7_goOn_12 (by decide) (fun c_2 => ?_) (fun c_2 => ?_)
    · have nc_2 := z_le rfl rfl c_2
      exact W.vret hx hb hr (fun t ht hW9 => ⟨⟨(), rfl, trivial, ⟨y, hG, by omega, by omega, by omega, tw_at ht hT⟩⟩, hS.F ht⟩) hS.2.2 dX7_goOn_26
    · have nc_2 := z_nle rfl rfl c_2
      refine lv_aload_n hx hb dX7_goOn_15 rfl (lv_at hl 0 rfl) ?_
      refine lv_iload hx hb dX7_goOn_16 (lv_at hl 5 rfl) ?_
      refine lv_iload hx hb dX7_goOn_18 (lv_at hl 6 rfl) ?_
      have hFc := tw_free hF hS hA
      refine va_calli (va_runV (As := [.int p4, .int p5]) (rest := []) ⟨hx, hb, hml, hown, hts⟩ (c_isBetter l dC dI ad av s.heap.size a k τ ln y g u p4 p5 hI ) (cwV 2 hts (gi_4 (List.mem_cons_of_mem _ (List.mem_append_left _ (List.mem_of_getElem? (i := 1) rfl))) (List.mem_cons_of_mem _ (List.mem_append_left _ (List.mem_of_getElem? (i := 2) rfl))) (List.mem_cons_of_mem _ (List.mem_append_left _ (List.mem_of_getElem? (i := 3) rfl))) (List.mem_cons_of_mem _ (List.mem_append_left _ (List.mem_of_getElem? (i := 4) rfl))) (fun _ hh => (List.mem_cons_of_mem _ (List.mem_append_right _ (List.mem_append_right _ (List.mem_append_left _ hh))))) gd_c_isBetter) rfl rfl rfl (by decide +kernel) ⟨Nat.le_of_ble_eq_true rfl, Nat.le_of_ble_eq_true rfl⟩) ⟨pw_blind, tw_recv hK hT (fx_6 hX) (by decide) cl_e16 rfl, pw_use hT hK hFc hS hM⟩ rfl rfl hl.1 rfl (lv_room (Nat.le_of_ble_eq_true rfl)) dX7_goOn_20 ⟨Nat.le_of_ble_eq_true rfl, Nat.le_of_ble_eq_true rfl⟩) hS (fun q _ h => hFc q h) hFc (fun r0 r_3 t H locs ht hvm hw hB hz1 hk1 hS => ?_)
      refine W.widen (k := 0) (n := 0) (Nat.le_of_ble_eq_true rfl) (Nat.le_of_ble_eq_true rfl) ?_
      clear hvm hz1 hk1
      subst hw
      rcases hB with ⟨hre, hT⟩ | ⟨hre, hT⟩
      · refine lq_top (v := 1) hre ?_
        rw [ht] at hT
        refine lv_if_ne (tgt := 27) hx hb dX7_goOn_23 (by decide) (fun c_4 => ?_) (fun c_4 => absurd c_4 (by decide))
        refine lv_aload_n hx hb dX7_goOn_27 rfl (lv_at hl 0 rfl) ?_
        refine tw_get (D := (dC, dI)) (v := .ref (a 44)) (C := RX7) (T := TX7) (N := 13) hx hb hts (fun _ hh => (List.mem_cons_of_mem _ (List.mem_append_right _ (List.mem_append_left _ hh)))) hown hK hT (fx_6 hX) (by decide) cl_e16 rfl 7 (by decide) (hts (.fieldLink RX7 21 "TypingPool$Planner" "current" "[I") (List.mem_cons_of_mem _ (List.mem_append_left _ (List.mem_of_getElem? (i := 5) rfl)))) (fun _ h9 => h9) rfl dX7_goOn_28 ?_
        refine lv_iload hx hb dX7_goOn_31 (lv_at hl 7 rfl) ?_
        refine lv_iconst (v := (-1)) hx hb dX7_goOn_33 (by decide) ?_
        refine tw_iast hx hb hK hT hF hS 0 (fx_44 hX) (by decide) (fun _ => cl_e54) rfl (z_in rfl (by omega) (by omega)) dX7_goOn_34 (fun H locs hT hS => ?_)
        obtain ⟨y_5, hy_5, hT⟩ : ∃ z : Nat → Nat → Int32, z = up2 y (a 44) p6.toNatClampNeg (-1 : Int32) ∧ tw (dC, dI) a k τ ln z g H := ⟨_, rfl, hT⟩
        have hG : ag τ [16, 54, 55] y y_5 := by rw [hy_5]; exact hG.up (fx_44 hX) (by decide)
        have : (y_5 (a 6) 3).toInt = (y (a 6) 3).toInt := by rw [hy_5, up2_o (kd_ne (fx_6 hX) (fx_44 hX) (by decide))]
        have : (y_5 (a 6) 5).toInt = (y (a 6) 5).toInt := by rw [hy_5, up2_o (kd_ne (fx_6 hX) (fx_44 hX) (by decide))]
        have : (y_5 (a 6) 9).toInt = (y (a 6) 9).toInt := by rw [hy_5, up2_o (kd_ne (fx_6 hX) (fx_44 hX) (by decide))]
        have hI := hI.ag (S := [54]) (y' := y_5) (by rw [hy_5]; exact ag.one (fx_44 hX)) (by decide)
        refine lv_aload_n hx hb dX7_goOn_35 rfl (lv_at hl 0 rfl) ?_
        refine lv_iload_n hx hb dX7_goOn_36 rfl (lv_at hl 1 rfl) ?_
        refine lv_iconst (v := 1) hx hb dX7_goOn_37 (by decide) ?_
        refine lv_iadd hx hb dX7_goOn_38 ?_
        refine lv_topi (fun x_6 ex_6 => ?_)
        have hx_6 := z_add ex_6 rfl (zk (x := 1) 1 rfl) (by omega) (by omega)
        refine lv_iload_n hx hb dX7_goOn_39 rfl (lv_at hl 2 rfl) ?_
        refine lv_iload hx hb dX7_goOn_40 (lv_at hl 5 rfl) ?_
        refine lv_iload hx hb dX7_goOn_42 (lv_at hl 6 rfl) ?_
        refine lv_iload hx hb dX7_goOn_44 (lv_at hl 7 rfl) ?_
        refine lv_iconst (v := 1) hx hb dX7_goOn_46 (by decide) ?_
        refine lv_iadd hx hb dX7_goOn_47 ?_
        refine lv_topi (fun x_7 ex_7 => ?_)
        have hx_7 := z_add ex_7 rfl (zk (x := 1) 1 rfl) (by omega) (by omega)
        have hFc := tw_free hF hS hA
        refine va_callv (va_runV (As := [.int x_6, .int p1, .int p4, .int p5, .int x_7]) (rest := []) ⟨hx, hb, hml, hown, hts⟩ (c_beginHand6 l dC dI ad av H.size a k τ ln y_5 g u x_6 p1 p4 p5 x_7 nP nH hI (by omega) (by omega) gn (by rw [hG.at (fx_41 hX) (by decide)]; exact gp) (by rw [hG.at (fx_42 hX) (by decide)]; exact gh) (by omega) (by omega) (by omega)) (cwV 5 hts (gi_4 (List.mem_cons_of_mem _ (List.mem_append_left _ (List.mem_of_getElem? (i := 6) rfl))) (List.mem_cons_of_mem _ (List.mem_append_left _ (List.mem_of_getElem? (i := 7) rfl))) (List.mem_cons_of_mem _ (List.mem_append_left _ (List.mem_of_getElem? (i := 8) rfl))) (List.mem_cons_of_mem _ (List.mem_append_left _ (List.mem_of_getElem? (i := 4) rfl))) (fun _ hh => (List.mem_cons_of_mem _ (List.mem_append_right _ (List.mem_append_right _ (List.mem_append_right _ (List.mem_append_left _ hh)))))) gd_c_beginHand6) rfl rfl rfl (by decide +kernel) ⟨Nat.le_of_ble_eq_true rfl, Nat.le_of_ble_eq_true rfl⟩) ⟨pw_blind, tw_recv hK hT (fx_6 hX) (by decide) cl_e16 rfl, pw_use hT hK hFc hS hM⟩ rfl rfl hl.1 rfl (lv_room (Nat.le_of_ble_eq_true rfl)) dX7_goOn_48 ⟨Nat.le_of_ble_eq_true rfl, Nat.le_of_ble_eq_true rfl⟩) hS (fun q _ h => hFc q h) hFc (fun u0 t H locs ht hvm hw hB hz1 hk1 hS => ?_)
        refine W.widen (k := 0) (n := 0) (Nat.le_of_ble_eq_true rfl) (Nat.le_of_ble_eq_true rfl) ?_
        clear hvm hz1 hk1
        obtain ⟨y_9, hgy_9, hf_10, hf_11, hf_12, hT⟩ := hB
        rw [ht] at hT
        have hG := hG.tr hgy_9 (by decide)
        have hI := hI.ag hgy_9 (by decide)
        refine lv_aload_n hx hb dX7_goOn_51 rfl (lv_at hl 0 rfl) ?_
        refine tw_get (D := (dC, dI)) (v := .ref (a 42)) (C := RX7) (T := TX7) (N := 13) hx hb hts (fun _ hh => (List.mem_cons_of_mem _ (List.mem_append_right _ (List.mem_append_left _ hh)))) hown hK hT (fx_6 hX) (by decide) cl_e16 rfl 4 (by decide) (hts (.fieldLink RX7 15 "TypingPool$Planner" "hands" "[I") (List.mem_cons_of_mem _ (List.mem_append_left _ (List.mem_of_getElem? (i := 9) rfl)))) (fun _ h9 => h9) rfl dX7_goOn_52 ?_
        refine lv_iload_n hx hb dX7_goOn_55 rfl (lv_at hl 1 rfl) ?_
        refine tw_iald hx hb hK hT 0 (fx_42 hX) (by decide) cl_e52 rfl (z_in rfl (by omega) (by omega)) dX7_goOn_56 ?_
        have hv0 : vl nH (u 1) (y_9 (a 42)) := (by rw [hG.at (fx_42 hX) (by decide)]; exact gh)
        have hv_13 := vl_at hv0 (x := p0) rfl (by omega) (by omega)
        refine lv_istore (lv' := [(8, .int (y_9 (a 42) p0.toNatClampNeg)), (0, .ref (a 6)), (1, .int p0), (2, .int p1), (3, .int p2), (4, .int p3), (5, .int p4), (6, .int p5), (7, .int p6)]) hx hb dX7_goOn_57 hl (by decide) rfl (fun ls hl => ?_)
        refine lv_iconst (v := 0) hx hb dX7_goOn_59 (by decide) ?_
        refine lv_istore (lv' := [(9, .int 0), (8, .int (y_9 (a 42) p0.toNatClampNeg)), (0, .ref (a 6)), (1, .int p0), (2, .int p1), (3, .int p2), (4, .int p3), (5, .int p4), (6, .int p5), (7, .int p6)]) hx hb dX7_goOn_60 hl (by decide) rfl (fun ls hl => ?_)
        have loop_62 : ∀ (n : Nat) (i9 : Int32) (y_L62 : Nat → Nat → Int32) (H : Heap) (locs : List Loc) (ls : Array Slot), (nP - i9.toInt).toNat < n → ag τ [16, 54, 55] y y_L62 → IC a u τ ln y_L62 g → 0 ≤ i9.toInt → i9.toInt ≤ nP → (y_L62 (a 6) 3).toInt = nP → (y_L62 (a 6) 5).toInt = nH → 0 ≤ (y_L62 (a 6) 9).toInt ∧ (y_L62 (a 6) 9).toInt ≤ 8 → tw (dC, dI) a k τ ln y_L62 g H → va_S A s.heap H locs → lv_has ls 15 [(0, .ref (a 6)), (1, .int p0), (2, .int p1), (3, .int p2), (4, .int p3), (5, .int p4), (6, .int p5), (7, .int p6), (8, .int (y_9 (a 42) p0.toNatClampNeg)), (9, .int i9)] → W p l e (headSpec wm_c_goOn5 ({ frames := 8, cells := 0, slots := 0, locals := 480 })).room s m ([.ref (a 6), .int p0, .int p1, .int p2, .int p3, .int p4, .int p5, .int p6] : List Value).toArray below meth c H locs 0 0 (MQ below (va_Qv (fun (_ : Unit) => True) (fun (_ : Unit) (t : State) => (∃ (y' : Nat → Nat → Int32), ag τ [16, 54, 55] y y' ∧ (y' (a 6) 3).toInt = (y (a 6) 3).toInt ∧ (y' (a 6) 5).toInt = (y (a 6) 5).toInt ∧ (0 ≤ (y' (a 6) 9).toInt ∧ (y' (a 6) 9).toInt ≤ 8) ∧ tw (dC, dI) a k τ ln y' g t.heap)) A) ([.ref (a 6), .int p0, .int p1, .int p2, .int p3, .int p4, .int p5, .int p6] : List Value).toArray s 0 0 A) (F0 m 62 ls []) := by
          intro n
          induction n with
          | zero => intro i9 y_L62 H locs ls hlt; exact absurd hlt (Nat.not_lt_zero _)
          | succ n ih_62 =>
            intro i9 y_L62 H locs ls hlt hG hI hi62_0 hi62_1 hi62_2 hi62_3 hi62_4 hT hS hl
            refine lv_iload hx hb dX7_goOn_62 (lv_at hl 9 rfl) ?_
            refine lv_aload_n hx hb dX7_goOn_64 rfl (lv_at hl 0 rfl) ?_
            refine tw_get (D := (dC, dI)) (v := .int (y_L62 (a 6) 3)) (C := RX7) (T := TX7) (N := 13) hx hb hts (fun _ hh => (List.mem_cons_of_mem _ (List.mem_append_right _ (List.mem_append_left _ hh)))) hown hK hT (fx_6 hX) (by decide) cl_e16 rfl 3 (by decide) (hts (.fieldLink RX7 42 "TypingPool$Planner" "pieceCount" "I") (List.mem_cons_of_mem _ (List.mem_append_left _ (List.mem_of_getElem? (i := 10) rfl)))) (fun _ h9 => h9) rfl dX7_goOn_65 ?_
            refine lv_icmp_ge (tgt := 220) hx hb dX7_goOn_68 (by decide) (fun c_14 => ?_) (fun c_14 => ?_)
            · have nc_14 := z_le rfl rfl c_14
              exact W.vret hx hb hr (fun t ht hW9 => ⟨⟨(), rfl, trivial, ⟨y_L62, hG, by omega, by omega, by omega, tw_at ht hT⟩⟩, hS.F ht⟩) hS.2.2 dX7_goOn_220
            · have nc_14 := z_nle rfl rfl c_14
              refine lv_iload_n hx hb dX7_goOn_71 rfl (lv_at hl 2 rfl) ?_
              refine lv_aload_n hx hb dX7_goOn_72 rfl (lv_at hl 0 rfl) ?_
              refine tw_get (D := (dC, dI)) (v := .ref (a 43)) (C := RX7) (T := TX7) (N := 13) hx hb hts (fun _ hh => (List.mem_cons_of_mem _ (List.mem_append_right _ (List.mem_append_left _ hh)))) hown hK hT (fx_6 hX) (by decide) cl_e16 rfl 6 (by decide) (hts (.fieldLink RX7 18 "TypingPool$Planner" "allowed" "[I") (List.mem_cons_of_mem _ (List.mem_append_left _ (List.mem_of_getElem? (i := 11) rfl)))) (fun _ h9 => h9) rfl dX7_goOn_73 ?_
              refine lv_iload_n hx hb dX7_goOn_76 rfl (lv_at hl 1 rfl) ?_
              refine tw_iald hx hb hK hT 0 (fx_43 hX) (by decide) cl_e53 rfl (z_in rfl (by omega) (by omega)) dX7_goOn_77 ?_
              refine lv_iand hx hb dX7_goOn_78 ?_
              refine lv_topi (fun x_15 ex_15 => ?_)
              refine lv_iload hx hb dX7_goOn_79 (lv_at hl 9 rfl) ?_
              refine lv_ishr hx hb dX7_goOn_81 ?_
              refine lv_topi (fun x_16 ex_16 => ?_)
              refine lv_iconst (v := 1) hx hb dX7_goOn_82 (by decide) ?_
              refine lv_iand hx hb dX7_goOn_83 ?_
              refine lv_topi (fun x_17 ex_17 => ?_)
              have hx_17 := z_and (x := x_16) (zk (x := 1) 1 rfl) (by omega)
              rw [← ex_17] at hx_17
              refine lv_iconst (v := 1) hx hb dX7_goOn_84 (by decide) ?_
              refine lv_icmp_ne (tgt := 214) hx hb dX7_goOn_85 (by decide) (fun c_18 => ?_) (fun c_18 => ?_)
              · have nc_18 := z_ne rfl (zk (x := 1) 1 rfl) c_18
                obtain ⟨x_19, ex_19⟩ : ∃ y : Int32, y = i9 + Int32.ofInt 1 := ⟨_, rfl⟩
                have hx_19 := z_add ex_19 rfl (zk (x := Int32.ofInt 1) 1 rfl) (by omega) (by omega)
                refine lv_iinc (v := x_19) (lv' := [(9, .int x_19), (0, .ref (a 6)), (1, .int p0), (2, .int p1), (3, .int p2), (4, .int p3), (5, .int p4), (6, .int p5), (7, .int p6), (8, .int (y_9 (a 42) p0.toNatClampNeg))]) hx hb dX7_goOn_214 hl (k := 9) rfl ex_19.symm (by decide) rfl (fun ls hl => ?_)
                refine lv_goto (tgt := 62) hx hb dX7_goOn_217 (by decide) ?_
                exact ih_62  x_19 y_L62 H _ ls (by omega) hG hI (by omega) (by omega) (by omega) (by omega) (by omega) hT hS (lv_sub hl [1, 2, 3, 4, 5, 6, 7, 8, 9, 0] rfl)
              · have nc_18 := z_eq rfl (zk (x := 1) 1 rfl) c_18
                refine lv_aload_n hx hb dX7_goOn_88 rfl (lv_at hl 0 rfl) ?_
                refine tw_get (D := (dC, dI)) (v := .ref (a 41)) (C := RX7) (T := TX7) (N := 13) hx hb hts (fun _ hh => (List.mem_cons_of_mem _ (List.mem_append_right _ (List.mem_append_left _ hh)))) hown hK hT (fx_6 hX) (by decide) cl_e16 rfl 2 (by decide) (hts (.fieldLink RX7 9 "TypingPool$Planner" "pieces" "[I") (List.mem_cons_of_mem _ (List.mem_append_left _ (List.mem_of_getElem? (i := 12) rfl)))) (fun _ h9 => h9) rfl dX7_goOn_89 ?_
                refine lv_iload hx hb dX7_goOn_92 (lv_at hl 9 rfl) ?_
                refine tw_iald hx hb hK hT 0 (fx_41 hX) (by decide) cl_e51 rfl (z_in rfl (by omega) (by omega)) dX7_goOn_94 ?_
                have hv0 : vl nP (u 2) (y_L62 (a 41)) := (by rw [hG.at (fx_41 hX) (by decide)]; exact gp)
                have hv_20 := vl_at hv0 (x := i9) rfl (by omega) (by omega)
                refine lv_istore (lv' := [(10, .int (y_L62 (a 41) i9.toNatClampNeg)), (0, .ref (a 6)), (1, .int p0), (2, .int p1), (3, .int p2), (4, .int p3), (5, .int p4), (6, .int p5), (7, .int p6), (8, .int (y_9 (a 42) p0.toNatClampNeg)), (9, .int i9)]) hx hb dX7_goOn_95 hl (by decide) rfl (fun ls hl => ?_)
                refine lv_aload_n hx hb dX7_goOn_97 rfl (lv_at hl 1 rfl) ?_
                refine tw_get (D := (dC, dI)) (v := .ref (a 1)) (C := RX7) (T := TX7) (N := 13) hx hb hts (fun _ hh => (List.mem_cons_of_mem _ (List.mem_append_right _ (List.mem_append_left _ hh)))) hown hK hT (fx_6 hX) (by decide) cl_e16 rfl 0 (by decide) (hts (.fieldLink RX7 27 "TypingPool$Planner" "book" "LTypingPool$Book;") (List.mem_cons_of_mem _ (List.mem_append_left _ (List.mem_of_getElem? (i := 13) rfl)))) (fun _ h9 => h9) rfl dX7_goOn_98 ?_
                refine tw_get (D := (dC, dI)) (v := .ref (a 11)) (C := RX1) (T := TX1) (N := 8) hx hb hts (fun _ hh => (List.mem_cons_of_mem _ (List.mem_append_right _ (List.mem_append_right _ (List.mem_append_right _ (List.mem_append_right _ (List.mem_append_left _ hh))))))) hown hK hT (fx_1 hX) (by decide) cl_e11 rfl 4 (by decide) (hts (.fieldLink RX7 115 "TypingPool$Book" "pieces" "[LTypingPool$Piece;") (List.mem_cons_of_mem _ (List.mem_append_left _ (List.mem_of_getElem? (i := 14) rfl)))) (fun _ h9 => h9) rfl dX7_goOn_101 ?_
                refine lv_iload hx hb dX7_goOn_104 (lv_at hl 0 rfl) ?_
                refine tw_aald hx hb hK hT 4 (fx_11 hX) (by decide) cl_e21 rfl (z_in rfl (by omega) (by omega)) dX7_goOn_106 ?_
                obtain ⟨q_21, hgq_21, htq_21⟩ := ic_l11 hI (x := (y_L62 (a 41) i9.toNatClampNeg)) rfl (by omega) (by omega)
                refine lq_topr hgq_21 ?_
                refine lv_astore (lv' := [(11, .ref q_21), (10, .int (y_L62 (a 41) i9.toNatClampNeg)), (0, .ref (a 6)), (1, .int p0), (2, .int p1), (3, .int p2), (4, .int p3), (5, .int p4), (6, .int p5), (7, .int p6), (8, .int (y_9 (a 42) p0.toNatClampNeg)), (9, .int i9)]) hx hb dX7_goOn_107 hl (by decide) rfl (fun ls hl => ?_)
                refine lv_aload hx hb dX7_goOn_109 (lv_at hl 0 rfl) ?_
                have hFc := tw_free hF hS hA
                refine va_calli (va_runV (As := []) (rest := []) ⟨hx, hb, hml, hown, hts⟩ (c_allWork l dC dI ad av H.size a k τ ln y_L62 g u q_21 hI htq_21) (cwV 0 hts (gi_4 (List.mem_cons_of_mem _ (List.mem_append_left _ (List.mem_of_getElem? (i := 15) rfl))) (List.mem_cons_of_mem _ (List.mem_append_left _ (List.mem_of_getElem? (i := 16) rfl))) (List.mem_cons_of_mem _ (List.mem_append_left _ (List.mem_of_getElem? (i := 17) rfl))) (List.mem_cons_of_mem _ (List.mem_append_left _ (List.mem_of_getElem? (i := 18) rfl))) (fun _ hh => (List.mem_cons_of_mem _ (List.mem_append_right _ (List.mem_append_right _ (List.mem_append_right _ (List.mem_append_right _ (List.mem_append_right _ (List.mem_append_left _ hh)))))))) gd_c_allWork) rfl rfl rfl (by decide +kernel) ⟨Nat.le_of_ble_eq_true rfl, Nat.le_of_ble_eq_true rfl⟩) ⟨pw_blind, tw_recv hK hT htq_21 (by decide) cl_e2 rfl, pw_use hT hK hFc hS hM⟩ rfl rfl hl.1 rfl (lv_room (Nat.le_of_ble_eq_true rfl)) dX7_goOn_111 ⟨Nat.le_of_ble_eq_true rfl, Nat.le_of_ble_eq_true rfl⟩) hS (fun q _ h => hFc q h) hFc (fun r0 r_22 t H locs ht hvm hw hB hz1 hk1 hS => ?_)
                refine W.widen (k := 0) (n := 0) (Nat.le_of_ble_eq_true rfl) (Nat.le_of_ble_eq_true rfl) ?_
                clear hvm hz1 hk1
                subst hw
                have hT := hB
                rw [ht] at hT
                refine lv_aload_n hx hb dX7_goOn_114 rfl (lv_at hl 2 rfl) ?_
                refine tw_get (D := (dC, dI)) (v := .ref (a 3)) (C := RX7) (T := TX7) (N := 13) hx hb hts (fun _ hh => (List.mem_cons_of_mem _ (List.mem_append_right _ (List.mem_append_left _ hh)))) hown hK hT (fx_6 hX) (by decide) cl_e16 rfl 1 (by decide) (hts (.fieldLink RX7 31 "TypingPool$Planner" "floor" "LTypingPool$Floor;") (List.mem_cons_of_mem _ (List.mem_append_left _ (List.mem_of_getElem? (i := 19) rfl)))) (fun _ h9 => h9) rfl dX7_goOn_115 ?_
                refine lv_iload hx hb dX7_goOn_118 (lv_at hl 10 rfl) ?_
                refine lv_iload hx hb dX7_goOn_120 (lv_at hl 1 rfl) ?_
                refine lv_iload hx hb dX7_goOn_122 (lv_at hl 6 rfl) ?_
                have hFc := tw_free hF hS hA
                refine va_calli (va_runV (As := [.int (y_9 (a 42) p0.toNatClampNeg), .int (y_L62 (a 41) i9.toNatClampNeg), .int p3]) (rest := [.int r_22]) ⟨hx, hb, hml, hown, hts⟩ (c_rateFor l dC dI ad av H.size a k τ ln y_L62 g u (y_9 (a 42) p0.toNatClampNeg) (y_L62 (a 41) i9.toNatClampNeg) p3 hI (by omega) (by omega) (by omega) (by omega)) (cwV 3 hts (gi_4 (List.mem_cons_of_mem _ (List.mem_append_left _ (List.mem_of_getElem? (i := 20) rfl))) (List.mem_cons_of_mem _ (List.mem_append_left _ (List.mem_of_getElem? (i := 21) rfl))) (List.mem_cons_of_mem _ (List.mem_append_left _ (List.mem_of_getElem? (i := 22) rfl))) (List.mem_cons_of_mem _ (List.mem_append_left _ (List.mem_of_getElem? (i := 23) rfl))) (fun _ hh => (List.mem_cons_of_mem _ (List.mem_append_right _ (List.mem_append_right _ (List.mem_append_right _ (List.mem_append_right _ (List.mem_append_right _ (List.mem_append_right _ (List.mem_append_left _ hh))))))))) gd_c_rateFor) rfl rfl rfl (by decide +kernel) ⟨Nat.le_of_ble_eq_true rfl, Nat.le_of_ble_eq_true rfl⟩) ⟨pw_blind, tw_recv hK hT (fx_3 hX) (by decide) cl_e13 rfl, pw_use hT hK hFc hS hM⟩ rfl rfl hl.1 rfl (lv_room (Nat.le_of_ble_eq_true rfl)) dX7_goOn_124 ⟨Nat.le_of_ble_eq_true rfl, Nat.le_of_ble_eq_true rfl⟩) hS (fun q _ h => hFc q h) hFc (fun r0 r_23 t H locs ht hvm hw hB hz1 hk1 hS => ?_)
                refine W.widen (k := 0) (n := 0) (Nat.le_of_ble_eq_true rfl) (Nat.le_of_ble_eq_true rfl) ?_
                clear hvm hz1 hk1
                subst hw
                have hT := hB
                rw [ht] at hT
                have hFc := tw_free hF hS hA
                refine va_calli (va_runSN (As := [.int r_22, .int r_23]) (rest := []) ⟨hx, hb, hml, hown, hts⟩ (c_minutesFor l dC dI ad av H.size a k τ ln y_L62 g u r_22 r_23  ) ⟨va_cnB 2 hts (gi_0  (fun _ hh => (List.mem_cons_of_mem _ (List.mem_append_right _ (List.mem_append_right _ (List.mem_append_right _ (List.mem_append_right _ (List.mem_append_right _ (List.mem_append_right _ (List.mem_append_right _ (List.mem_append_left _ hh)))))))))) gd_c_minutesFor) rfl rfl rfl hM.1.2.2.2.1 (hts (.initialized RX11) (List.mem_cons_of_mem _ (List.mem_append_left _ (List.mem_of_getElem? (i := 24) rfl)))) (by decide +kernel) ⟨Nat.le_of_ble_eq_true rfl, Nat.le_of_ble_eq_true rfl⟩, (hts (.static yX11_minutesFor) (List.mem_cons_of_mem _ (List.mem_append_left _ (List.mem_of_getElem? (i := 25) rfl)))), trivial⟩ ⟨pw_blind, pw_use hT hK hFc hS hM⟩ rfl rfl hl.1 rfl (lv_room (Nat.le_of_ble_eq_true rfl)) dX7_goOn_127 ⟨Nat.le_of_ble_eq_true rfl, Nat.le_of_ble_eq_true rfl⟩) hS (fun q _ h => hFc q h) hFc (fun r0 r_24 t H locs ht hvm hw hB hz1 hk1 hS => ?_)
                refine W.widen (k := 0) (n := 0) (Nat.le_of_ble_eq_true rfl) (Nat.le_of_ble_eq_true rfl) ?_
                clear hvm hz1 hk1
                subst hw
                have hT := hB
                rw [ht] at hT
                refine lv_istore (lv' := [(12, .int r_24), (11, .ref q_21), (10, .int (y_L62 (a 41) i9.toNatClampNeg)), (0, .ref (a 6)), (1, .int p0), (2, .int p1), (3, .int p2), (4, .int p3), (5, .int p4), (6, .int p5), (7, .int p6), (8, .int (y_9 (a 42) p0.toNatClampNeg)), (9, .int i9)]) hx hb dX7_goOn_130 hl (by decide) rfl (fun ls hl => ?_)
                refine lv_aload_n hx hb dX7_goOn_132 rfl (lv_at hl 3 rfl) ?_
                refine tw_get (D := (dC, dI)) (v := .ref (a 1)) (C := RX7) (T := TX7) (N := 13) hx hb hts (fun _ hh => (List.mem_cons_of_mem _ (List.mem_append_right _ (List.mem_append_left _ hh)))) hown hK hT (fx_6 hX) (by decide) cl_e16 rfl 0 (by decide) (hts (.fieldLink RX7 27 "TypingPool$Planner" "book" "LTypingPool$Book;") (List.mem_cons_of_mem _ (List.mem_append_left _ (List.mem_of_getElem? (i := 13) rfl)))) (fun _ h9 => h9) rfl dX7_goOn_133 ?_
                refine lv_iload hx hb dX7_goOn_136 (lv_at hl 11 rfl) ?_
                refine lv_iload_n hx hb dX7_goOn_138 rfl (lv_at hl 6 rfl) ?_
                refine lv_iload hx hb dX7_goOn_139 (lv_at hl 0 rfl) ?_
                have hFc := tw_free hF hS hA
                refine va_calli (va_runV (As := [.int (y_9 (a 42) p0.toNatClampNeg), .int p2, .int r_24]) (rest := []) ⟨hx, hb, hml, hown, hts⟩ (c_minuteAfterWork l dC dI ad av H.size a k τ ln y_L62 g u (y_9 (a 42) p0.toNatClampNeg) p2 r_24 hI ) (cwV 3 hts (gi_4 (List.mem_cons_of_mem _ (List.mem_append_left _ (List.mem_of_getElem? (i := 26) rfl))) (List.mem_cons_of_mem _ (List.mem_append_left _ (List.mem_of_getElem? (i := 27) rfl))) (List.mem_cons_of_mem _ (List.mem_append_left _ (List.mem_of_getElem? (i := 28) rfl))) (List.mem_cons_of_mem _ (List.mem_append_left _ (List.mem_of_getElem? (i := 29) rfl))) (fun _ hh => (List.mem_cons_of_mem _ (List.mem_append_right _ (List.mem_append_right _ (List.mem_append_right _ (List.mem_append_right _ (List.mem_append_right _ (List.mem_append_right _ (List.mem_append_right _ (List.mem_append_right _ (List.mem_append_left _ hh))))))))))) gd_c_minuteAfterWork) rfl rfl rfl (by decide +kernel) ⟨Nat.le_of_ble_eq_true rfl, Nat.le_of_ble_eq_true rfl⟩) ⟨pw_blind, tw_recv hK hT (fx_1 hX) (by decide) cl_e11 rfl, pw_use hT hK hFc hS hM⟩ rfl rfl hl.1 rfl (lv_room (Nat.le_of_ble_eq_true rfl)) dX7_goOn_141 ⟨Nat.le_of_ble_eq_true rfl, Nat.le_of_ble_eq_true rfl⟩) hS (fun q _ h => hFc q h) hFc (fun r0 r_25 t H locs ht hvm hw hB hz1 hk1 hS => ?_)
                refine W.widen (k := 0) (n := 0) (Nat.le_of_ble_eq_true rfl) (Nat.le_of_ble_eq_true rfl) ?_
                clear hvm hz1 hk1
                subst hw
                have hT := hB
                rw [ht] at hT
                refine lv_istore (lv' := [(13, .int r_25), (12, .int r_24), (11, .ref q_21), (10, .int (y_L62 (a 41) i9.toNatClampNeg)), (0, .ref (a 6)), (1, .int p0), (2, .int p1), (3, .int p2), (4, .int p3), (5, .int p4), (6, .int p5), (7, .int p6), (8, .int (y_9 (a 42) p0.toNatClampNeg)), (9, .int i9)]) hx hb dX7_goOn_144 hl (by decide) rfl (fun ls hl => ?_)
                refine lv_iconst (v := 0) hx hb dX7_goOn_146 (by decide) ?_
                refine lv_iload hx hb dX7_goOn_147 (lv_at hl 0 rfl) ?_
                refine lv_aload hx hb dX7_goOn_149 (lv_at hl 2 rfl) ?_
                refine tw_get (D := (dC, dI)) (v := .int (y_L62 q_21 6)) (C := RX6) (T := TX6) (N := 11) hx hb hts (fun _ hh => (List.mem_cons_of_mem _ (List.mem_append_right _ (List.mem_append_right _ (List.mem_append_right _ (List.mem_append_right _ (List.mem_append_right _ (List.mem_append_right _ (List.mem_append_right _ (List.mem_append_right _ (List.mem_append_right _ (List.mem_append_left _ hh)))))))))))) hown hK hT htq_21 (by decide) cl_e2 rfl 6 (by decide) (hts (.fieldLink RX7 136 "TypingPool$Piece" "due" "I") (List.mem_cons_of_mem _ (List.mem_append_left _ (List.mem_of_getElem? (i := 30) rfl)))) (fun _ h9 => h9) rfl dX7_goOn_151 ?_
                refine lv_isub hx hb dX7_goOn_154 ?_
                refine lv_topi (fun x_26 ex_26 => ?_)
                refine va_mmax hx hb (by rw [hml]; exact hl.1.symm) hown (hts (.methodLink RX7 139 Lib.Math.max.name) (List.mem_cons_of_mem _ (List.mem_append_left _ (List.mem_of_getElem? (i := 31) rfl)))) (hts (.static Lib.Math.max.name) (List.mem_cons_of_mem _ (List.mem_append_left _ (List.mem_of_getElem? (i := 32) rfl)))) (hts (.initialized "java/lang/Math") (List.mem_cons_of_mem _ (List.mem_append_left _ (List.mem_of_getElem? (i := 33) rfl)))) (hts (.code Lib.Math.max.name Lib.Math.max.code 2 (some .int)) (List.mem_cons_of_mem _ (List.mem_append_left _ (List.mem_of_getElem? (i := 34) rfl)))) (Nat.le_of_ble_eq_true rfl) (Nat.le_of_ble_eq_true rfl) (Nat.le_of_ble_eq_true rfl) (Nat.le_of_ble_eq_true rfl) dX7_goOn_155 ?_
                refine lv_topi (fun x_27 ex_27 => ?_)
                have hx_27 := z_max ex_27 (zk (x := 0) 0 rfl) rfl
                refine lv_istore (lv' := [(14, .int x_27), (13, .int r_25), (12, .int r_24), (11, .ref q_21), (10, .int (y_L62 (a 41) i9.toNatClampNeg)), (0, .ref (a 6)), (1, .int p0), (2, .int p1), (3, .int p2), (4, .int p3), (5, .int p4), (6, .int p5), (7, .int p6), (8, .int (y_9 (a 42) p0.toNatClampNeg)), (9, .int i9)]) hx hb dX7_goOn_158 hl (by decide) rfl (fun ls hl => ?_)
                refine lv_aload_n hx hb dX7_goOn_160 rfl (lv_at hl 5 rfl) ?_
                refine tw_get (D := (dC, dI)) (v := .ref (a 44)) (C := RX7) (T := TX7) (N := 13) hx hb hts (fun _ hh => (List.mem_cons_of_mem _ (List.mem_append_right _ (List.mem_append_left _ hh)))) hown hK hT (fx_6 hX) (by decide) cl_e16 rfl 7 (by decide) (hts (.fieldLink RX7 21 "TypingPool$Planner" "current" "[I") (List.mem_cons_of_mem _ (List.mem_append_left _ (List.mem_of_getElem? (i := 5) rfl)))) (fun _ h9 => h9) rfl dX7_goOn_161 ?_
                refine lv_iload hx hb dX7_goOn_164 (lv_at hl 12 rfl) ?_
                refine lv_iload hx hb dX7_goOn_166 (lv_at hl 4 rfl) ?_
                refine tw_iast hx hb hK hT hF hS 0 (fx_44 hX) (by decide) (fun _ => cl_e54) rfl (z_in rfl (by omega) (by omega)) dX7_goOn_168 (fun H locs hT hS => ?_)
                obtain ⟨y_28, hy_28, hT⟩ : ∃ z : Nat → Nat → Int32, z = up2 y_L62 (a 44) p6.toNatClampNeg (y_L62 (a 41) i9.toNatClampNeg) ∧ tw (dC, dI) a k τ ln z g H := ⟨_, rfl, hT⟩
                have hG : ag τ [16, 54, 55] y y_28 := by rw [hy_28]; exact hG.up (fx_44 hX) (by decide)
                have : (y_28 (a 6) 3).toInt = (y_L62 (a 6) 3).toInt := by rw [hy_28, up2_o (kd_ne (fx_6 hX) (fx_44 hX) (by decide))]
                have : (y_28 (a 6) 5).toInt = (y_L62 (a 6) 5).toInt := by rw [hy_28, up2_o (kd_ne (fx_6 hX) (fx_44 hX) (by decide))]
                have : (y_28 (a 6) 9).toInt = (y_L62 (a 6) 9).toInt := by rw [hy_28, up2_o (kd_ne (fx_6 hX) (fx_44 hX) (by decide))]
                have hI := hI.ag (S := [54]) (y' := y_28) (by rw [hy_28]; exact ag.one (fx_44 hX)) (by decide)
                refine lv_aload_n hx hb dX7_goOn_169 rfl (lv_at hl 5 rfl) ?_
                refine lv_iload_n hx hb dX7_goOn_170 rfl (lv_at hl 6 rfl) ?_
                refine lv_iload_n hx hb dX7_goOn_171 rfl (lv_at hl 7 rfl) ?_
                refine lv_iconst (v := 1) hx hb dX7_goOn_172 (by decide) ?_
                refine lv_iload hx hb dX7_goOn_173 (lv_at hl 14 rfl) ?_
                refine lv_ishl hx hb dX7_goOn_175 ?_
                refine lv_topi (fun x_29 ex_29 => ?_)
                refine lv_iconst (v := (-1)) hx hb dX7_goOn_176 (by decide) ?_
                refine lv_ixor hx hb dX7_goOn_177 ?_
                refine lv_topi (fun x_30 ex_30 => ?_)
                refine lv_iand hx hb dX7_goOn_178 ?_
                refine lv_topi (fun x_31 ex_31 => ?_)
                refine lv_iload hx hb dX7_goOn_179 (lv_at hl 1 rfl) ?_
                refine lv_iload hx hb dX7_goOn_181 (lv_at hl 9 rfl) ?_
                refine lv_aload hx hb dX7_goOn_183 (lv_at hl 3 rfl) ?_
                refine tw_get (D := (dC, dI)) (v := .int (y_28 q_21 7)) (C := RX6) (T := TX6) (N := 11) hx hb hts (fun _ hh => (List.mem_cons_of_mem _ (List.mem_append_right _ (List.mem_append_right _ (List.mem_append_right _ (List.mem_append_right _ (List.mem_append_right _ (List.mem_append_right _ (List.mem_append_right _ (List.mem_append_right _ (List.mem_append_right _ (List.mem_append_left _ hh)))))))))))) hown hK hT htq_21 (by decide) cl_e2 rfl 7 (by decide) (hts (.fieldLink RX7 118 "TypingPool$Piece" "words" "I") (List.mem_cons_of_mem _ (List.mem_append_left _ (List.mem_of_getElem? (i := 35) rfl)))) (fun _ h9 => h9) rfl dX7_goOn_185 ?_
                refine lv_ior hx hb dX7_goOn_188 ?_
                refine lv_topi (fun x_32 ex_32 => ?_)
                refine lv_iload hx hb dX7_goOn_189 (lv_at hl 10 rfl) ?_
                refine lv_iload hx hb dX7_goOn_191 (lv_at hl 0 rfl) ?_
                refine lv_if_le (tgt := 200) hx hb dX7_goOn_193 (by decide) (fun c_33 => ?_) (fun c_33 => ?_)
                · have nc_33 := z_le rfl (zk (x := 0) 0 rfl) c_33
                  refine lv_iconst (v := 0) hx hb dX7_goOn_200 (by decide) ?_
                  refine lv_iadd hx hb dX7_goOn_201 ?_
                  refine lv_topi (fun x_34 ex_34 => ?_)
                  refine lv_iload hx hb dX7_goOn_202 (lv_at hl 11 rfl) ?_
                  refine lv_iload hx hb dX7_goOn_204 (lv_at hl 0 rfl) ?_
                  refine lv_iadd hx hb dX7_goOn_206 ?_
                  refine lv_topi (fun x_35 ex_35 => ?_)
                  refine lv_iload hx hb dX7_goOn_207 (lv_at hl 12 rfl) ?_
                  refine lv_iconst (v := 1) hx hb dX7_goOn_209 (by decide) ?_
                  refine lv_iadd hx hb dX7_goOn_210 ?_
                  refine lv_topi (fun x_36 ex_36 => ?_)
                  have hx_36 := z_add ex_36 rfl (zk (x := 1) 1 rfl) (by omega) (by omega)
                  have hFc := tw_free hF hS hA
                  refine va_callv (va_runV (As := [.int p0, .int x_31, .int r_25, .int x_32, .int x_34, .int x_35, .int x_36]) (rest := []) ⟨hx, hb, hml, hown, hts⟩ (c_goOn6 l dC dI ad av H.size a k τ ln y_28 g u p0 x_31 r_25 x_32 x_34 x_35 x_36 nP nH hI (by omega) (by omega) gn (by rw [hG.at (fx_41 hX) (by decide)]; exact gp) (by rw [hG.at (fx_42 hX) (by decide)]; exact gh) (by omega) (by omega) (by omega)) (cwV 7 hts (gi_4 (List.mem_cons_of_mem _ (List.mem_append_left _ (List.mem_of_getElem? (i := 36) rfl))) (List.mem_cons_of_mem _ (List.mem_append_left _ (List.mem_of_getElem? (i := 37) rfl))) (List.mem_cons_of_mem _ (List.mem_append_left _ (List.mem_of_getElem? (i := 38) rfl))) (List.mem_cons_of_mem _ (List.mem_append_left _ (List.mem_of_getElem? (i := 4) rfl))) (fun _ hh => (List.mem_cons_of_mem _ (List.mem_append_right _ (List.mem_append_right _ (List.mem_append_right _ (List.mem_append_right _ (List.mem_append_right _ (List.mem_append_right _ (List.mem_append_right _ (List.mem_append_right _ (List.mem_append_right _ (List.mem_append_right _ (List.mem_append_left _ hh))))))))))))) gd_c_goOn6) rfl rfl rfl (by decide +kernel) ⟨Nat.le_of_ble_eq_true rfl, Nat.le_of_ble_eq_true rfl⟩) ⟨pw_blind, tw_recv hK hT (fx_6 hX) (by decide) cl_e16 rfl, pw_use hT hK hFc hS hM⟩ rfl rfl hl.1 rfl (lv_room (Nat.le_of_ble_eq_true rfl)) dX7_goOn_211 ⟨Nat.le_of_ble_eq_true rfl, Nat.le_of_ble_eq_true rfl⟩) hS (fun q _ h => hFc q h) hFc (fun u0 t H locs ht hvm hw hB hz1 hk1 hS => ?_)
                  refine W.widen (k := 0) (n := 0) (Nat.le_of_ble_eq_true rfl) (Nat.le_of_ble_eq_true rfl) ?_
                  clear hvm hz1 hk1
                  obtain ⟨y_38, hgy_38, hf_39, hf_40, hf_41, hT⟩ := hB
                  rw [ht] at hT
                  have hG := hG.tr hgy_38 (by decide)
                  have hI := hI.ag hgy_38 (by decide)
                  obtain ⟨x_42, ex_42⟩ : ∃ y : Int32, y = i9 + Int32.ofInt 1 := ⟨_, rfl⟩
                  have hx_42 := z_add ex_42 rfl (zk (x := Int32.ofInt 1) 1 rfl) (by omega) (by omega)
                  refine lv_iinc (v := x_42) (lv' := [(9, .int x_42), (14, .int x_27), (13, .int r_25), (12, .int r_24), (11, .ref q_21), (10, .int (y_L62 (a 41) i9.toNatClampNeg)), (0, .ref (a 6)), (1, .int p0), (2, .int p1), (3, .int p2), (4, .int p3), (5, .int p4), (6, .int p5), (7, .int p6), (8, .int (y_9 (a 42) p0.toNatClampNeg))]) hx hb dX7_goOn_214 hl (k := 14) rfl ex_42.symm (by decide) rfl (fun ls hl => ?_)
                  refine lv_goto (tgt := 62) hx hb dX7_goOn_217 (by decide) ?_
                  exact ih_62  x_42 y_38 H _ ls (by omega) hG hI (by omega) (by omega) (by omega) (by omega) (by omega) hT hS (lv_sub hl [6, 7, 8, 9, 10, 11, 12, 13, 14, 0] rfl)
                · have nc_33 := z_nle rfl (zk (x := 0) 0 rfl) c_33
                  refine lv_iconst (v := 1) hx hb dX7_goOn_196 (by decide) ?_
                  refine lv_goto (tgt := 201) hx hb dX7_goOn_197 (by decide) ?_
                  refine lv_iadd hx hb dX7_goOn_201 ?_
                  refine lv_topi (fun x_43 ex_43 => ?_)
                  refine lv_iload hx hb dX7_goOn_202 (lv_at hl 11 rfl) ?_
                  refine lv_iload hx hb dX7_goOn_204 (lv_at hl 0 rfl) ?_
                  refine lv_iadd hx hb dX7_goOn_206 ?_
                  refine lv_topi (fun x_44 ex_44 => ?_)
                  refine lv_iload hx hb dX7_goOn_207 (lv_at hl 12 rfl) ?_
                  refine lv_iconst (v := 1) hx hb dX7_goOn_209 (by decide) ?_
                  refine lv_iadd hx hb dX7_goOn_210 ?_
                  refine lv_topi (fun x_45 ex_45 => ?_)
                  have hx_45 := z_add ex_45 rfl (zk (x := 1) 1 rfl) (by omega) (by omega)
                  have hFc := tw_free hF hS hA
                  refine va_callv (va_runV (As := [.int p0, .int x_31, .int r_25, .int x_32, .int x_43, .int x_44, .int x_45]) (rest := []) ⟨hx, hb, hml, hown, hts⟩ (c_goOn6 l dC dI ad av H.size a k τ ln y_28 g u p0 x_31 r_25 x_32 x_43 x_44 x_45 nP nH hI (by omega) (by omega) gn (by rw [hG.at (fx_41 hX) (by decide)]; exact gp) (by rw [hG.at (fx_42 hX) (by decide)]; exact gh) (by omega) (by omega) (by omega)) (cwV 7 hts (gi_4 (List.mem_cons_of_mem _ (List.mem_append_left _ (List.mem_of_getElem? (i := 36) rfl))) (List.mem_cons_of_mem _ (List.mem_append_left _ (List.mem_of_getElem? (i := 37) rfl))) (List.mem_cons_of_mem _ (List.mem_append_left _ (List.mem_of_getElem? (i := 38) rfl))) (List.mem_cons_of_mem _ (List.mem_append_left _ (List.mem_of_getElem? (i := 4) rfl))) (fun _ hh => (List.mem_cons_of_mem _ (List.mem_append_right _ (List.mem_append_right _ (List.mem_append_right _ (List.mem_append_right _ (List.mem_append_right _ (List.mem_append_right _ (List.mem_append_right _ (List.mem_append_right _ (List.mem_append_right _ (List.mem_append_right _ (List.mem_append_left _ hh))))))))))))) gd_c_goOn6) rfl rfl rfl (by decide +kernel) ⟨Nat.le_of_ble_eq_true rfl, Nat.le_of_ble_eq_true rfl⟩) ⟨pw_blind, tw_recv hK hT (fx_6 hX) (by decide) cl_e16 rfl, pw_use hT hK hFc hS hM⟩ rfl rfl hl.1 rfl (lv_room (Nat.le_of_ble_eq_true rfl)) dX7_goOn_211 ⟨Nat.le_of_ble_eq_true rfl, Nat.le_of_ble_eq_true rfl⟩) hS (fun q _ h => hFc q h) hFc (fun u0 t H locs ht hvm hw hB hz1 hk1 hS => ?_)
                  refine W.widen (k := 0) (n := 0) (Nat.le_of_ble_eq_true rfl) (Nat.le_of_ble_eq_true rfl) ?_
                  clear hvm hz1 hk1
                  obtain ⟨y_47, hgy_47, hf_48, hf_49, hf_50, hT⟩ := hB
                  rw [ht] at hT
                  have hG := hG.tr hgy_47 (by decide)
                  have hI := hI.ag hgy_47 (by decide)
                  obtain ⟨x_51, ex_51⟩ : ∃ y : Int32, y = i9 + Int32.ofInt 1 := ⟨_, rfl⟩
                  have hx_51 := z_add ex_51 rfl (zk (x := Int32.ofInt 1) 1 rfl) (by omega) (by omega)
                  refine lv_iinc (v := x_51) (lv' := [(9, .int x_51), (14, .int x_27), (13, .int r_25), (12, .int r_24), (11, .ref q_21), (10, .int (y_L62 (a 41) i9.toNatClampNeg)), (0, .ref (a 6)), (1, .int p0), (2, .int p1), (3, .int p2), (4, .int p3), (5, .int p4), (6, .int p5), (7, .int p6), (8, .int (y_9 (a 42) p0.toNatClampNeg))]) hx hb dX7_goOn_214 hl (k := 14) rfl ex_51.symm (by decide) rfl (fun ls hl => ?_)
                  refine lv_goto (tgt := 62) hx hb dX7_goOn_217 (by decide) ?_
                  exact ih_62  x_51 y_47 H _ ls (by omega) hG hI (by omega) (by omega) (by omega) (by omega) (by omega) hT hS (lv_sub hl [6, 7, 8, 9, 10, 11, 12, 13, 14, 0] rfl)
        have hp_52 : (0 : Int32).toInt = 0 := (zk (x := 0) 0 rfl)
        exact loop_62 _ (0 : Int32) y_9 H _ ls (Nat.lt_succ_self _) hG hI (by omega) (by omega) (by omega) (by omega) (by omega) hT hS (lv_sub hl [2, 3, 4, 5, 6, 7, 8, 9, 1, 0] rfl)
      · refine lq_top (v := 0) hre ?_
        rw [ht] at hT
        refine lv_if_ne (tgt := 27) hx hb dX7_goOn_23 (by decide) (fun c_53 => absurd c_53 (by decide)) (fun c_53 => ?_)
        exact W.vret hx hb hr (fun t ht hW9 => ⟨⟨(), rfl, trivial, ⟨y, hG, by omega, by omega, by omega, tw_at ht hT⟩⟩, hS.F ht⟩) hS.2.2 dX7_goOn_26
def wo_c_beginHand5 : List Cond := [.fieldLink RX7 78 "TypingPool$Planner" "handCount" "I", .fieldLink RX7 15 "TypingPool$Planner" "hands" "[I", .fieldLink RX7 31 "TypingPool$Planner" "floor" "LTypingPool$Floor;", .fieldLink RX7 92 "TypingPool$Floor" "now" "I", .fieldLink RX7 95 "TypingPool$Floor" "words" "[I", .fieldLink RX7 98 "TypingPool$Floor" "has" "[I", .fieldLink RX7 27 "TypingPool$Planner" "book" "LTypingPool$Book;", .methodLink RX7 67 yX1_hasPiece, .instanceMethod yX1_hasPiece, .selects RX1 yX1_hasPiece yX1_hasPiece, .initialized RX1, .fieldLink RX7 101 "TypingPool$Floor" "workLeft" "[I", .fieldLink RX7 104 "TypingPool$Floor" "rate" "[I", .initialized RX11, .static yX11_minutesFor, .methodLink RX7 111 yX1_minuteAfterWork, .instanceMethod yX1_minuteAfterWork, .selects RX1 yX1_minuteAfterWork yX1_minuteAfterWork, .fieldLink RX7 115 "TypingPool$Book" "pieces" "[LTypingPool$Piece;", .fieldLink RX7 118 "TypingPool$Piece" "words" "I", .methodLink RX7 122 yX7_goOn, .instanceMethod yX7_goOn, .selects RX7 yX7_goOn yX7_goOn, .initialized RX7, .methodLink RX7 88 yX7_keep, .instanceMethod yX7_keep, .selects RX7 yX7_keep yX7_keep]
def wm_c_beginHand5 : List Cond := .code yX7_beginHand cX7_beginHand 11 none :: (wo_c_beginHand5 ++ (wsX70 ++ (wsX30 ++ (wm_c_hasPiece ++ (wm_c_minutesFor ++ (wm_c_minuteAfterWork ++ (wsX10 ++ (wsX60 ++ (wm_c_goOn5 ++ (wm_c_keep ++ ([] : List Cond)))))))))))
theorem gd_c_beginHand5 : ∀ w ∈ wm_c_beginHand5, goodWord w = true := gd_c rfl (gd_a (by decide) (gd_a gd_wsX70 (gd_a gd_wsX30 (gd_a gd_c_hasPiece (gd_a gd_c_minutesFor (gd_a gd_c_minuteAfterWork (gd_a gd_wsX10 (gd_a gd_wsX60 (gd_a gd_c_goOn5 (gd_a gd_c_keep gd_nil))))))))))
set_option maxRecDepth 20000 in
theorem im_c_beginHand5 : ∀ w ∈ wm_c_beginHand5, w ∈ lw_tbl := im_c (in_r [.code yX7_beginHand cX7_beginHand 11 none] [1042] (by decide +kernel)) (in_app (in_r wo_c_beginHand5 [520, 519, 516, 430, 438, 432, 515, 1027, 841, 842, 71, 450, 435, 70, 845, 1053, 1054, 1055, 128, 687, 1057, 1059, 24, 85, 1043, 1045, 22] (by decide +kernel)) (in_app im_wsX70 (in_app im_wsX30 (in_app im_c_hasPiece (in_app im_c_minutesFor (in_app im_c_minuteAfterWork (in_app im_wsX10 (in_app im_wsX60 (in_app im_c_goOn5 (in_app im_c_keep im_nil))))))))))
set_option maxHeartbeats 4000000 in
set_option maxRecDepth 100000 in
theorem c_beginHand5 (l : Launch) (dC : Nat → ClassId) (dI : Nat → Nat → Nat) (ad av : Nat → Nat) (sz : Nat) (a : Nat → Nat) (k : Nat → ClassId) (τ ln : Nat → Nat) (y : Nat → Nat → Int32) (g : Nat → Nat → Option Nat) (u : Nat → Int) (p0 : Int32) (p1 : Int32) (p2 : Int32) (p3 : Int32) (p4 : Int32) (nP : Int) (nH : Int) (hI : IC a u τ ln y g) (g3 : (y (a 6) 3).toInt = nP) (g5 : (y (a 6) 5).toInt = nH) (gn : (0 ≤ nP ∧ nP ≤ 5) ∧ 0 ≤ nH ∧ nH ≤ 3) (gp : vl nP (u 2) (y (a 41))) (gh : vl nH (u 1) (y (a 42))) (g9 : 0 ≤ (y (a 6) 9).toInt ∧ (y (a 6) 9).toInt ≤ 8) (hp0 : 0 ≤ p0.toInt) (hlen : p4.toInt = 5) : Met l yX7_beginHand wm_c_beginHand5 ({ frames := 9, cells := 0, slots := 0, locals := 540 }) (pw_ ad av (dC, dI) sz [.ref (a 6), .int p0, .int p1, .int p2, .int p3, .int p4] a k τ ln y g) (va_Qv (fun (_ : Unit) => True) (fun (_ : Unit) (t : State) => (∃ (y' : Nat → Nat → Int32), ag τ [16, 54, 55] y y' ∧ (y' (a 6) 3).toInt = (y (a 6) 3).toInt ∧ (y' (a 6) 5).toInt = (y (a 6) 5).toInt ∧ (0 ≤ (y' (a 6) 9).toInt ∧ (y' (a 6) 9).toInt ≤ 8) ∧ tw (dC, dI) a k τ ln y' g t.heap)) (fr τ sz)) 0 0 (fr τ sz) := by
  refine Met.ofW (cc := cX7_beginHand) (maxL := 11) (ret := none) (by decide) rfl ?_
  intro p e s m args below meth c s₁ B hml hv
  obtain ⟨rfl, hsz, hT, hK, hM⟩ := hv
  have hx := B.exec
  have hb := B.bytes
  have hr := B.returns
  have hts := atoms_spec (ws := wm_c_beginHand5) B.pre
  have hown : s.vm.findClass RX7 = some m.cls := findClass_of_methodNamed B.named
  have hlocks := B.notSynchronized
  subst hsz
  generalize hAe : fr τ s.heap.size = A at hM ⊢
  have hA : ∀ q : Nat, s.heap.size ≤ q → A q := fun q h => by rw [← hAe]; exact Or.inr h
  have hF : ∀ q, τ q ≠ 0 → A q := fun q h => by rw [← hAe]; exact Or.inl h
  have hS : va_S A s.heap s.heap [] := va_S.rf
  have hX := hI.1
  have hR := ic_r hI
  have hG : ag τ [16, 54, 55] y y := ag.rf
  have hl := lv_entry ([.ref (a 6), .int p0, .int p1, .int p2, .int p3, .int p4]) (n := 11) (Nat.le_of_ble_eq_true rfl)
  rw [lg_entry_eq]
  generalize (lg_sl ([.ref (a 6), .int p0, .int p1, .int p2, .int p3, .int p4]) ++ List.replicate (11 - (lg_sl ([.ref (a 6), .int p0, .int p1, .int p2, .int p3, .int p4])).length) Slot.unset).toArray = ls at hl ⊢
  have hl : lv_has ls 11 [(0, .ref (a 6)), (1, .int p0), (2, .int p1), (3, .int p2), (4, .int p3), (5, .int p4)] := hl
  refine lv_iload_n hx hb dX7_beginHand_0 rfl (lv_at hl 1 rfl) ?_
  refine lv_aload_n hx hb dX7_beginHand_1 rfl (lv_at hl 0 rfl) ?_
  refine tw_get (D := (dC, dI)) (v := .int (y (a 6) 5)) (C := RX7) (T := TX7) (N := 13) hx hb hts (fun _ hh => (List.mem_cons_of_mem _ (List.mem_append_right _ (List.mem_append_left _ hh)))) hown hK hT (fx_6 hX) (by decide) cl_e16 rfl 5 (by decide) (hts (.fieldLink RX7 78 "TypingPool$Planner" "handCount" "I") (List.mem_cons_of_mem _ (List.mem_append_left _ (List.mem_of_getElem? (i := 0) rfl)))) (fun _ h9 => h9) rfl dX7_beginHand_2 ?_
  refine lv_icmp_lt (tgt := 22) hx hb dX7_beginHand_5 (by decide) (fun c_1 => ?_) (fun c_1 => ?_)
  · have nc_1 := z_lt rfl rfl c_1
    refine lv_aload_n hx hb dX7_beginHand_22 rfl (lv_at hl 0 rfl) ?_
    refine tw_get (D := (dC, dI)) (v := .ref (a 42)) (C := RX7) (T := TX7) (N := 13) hx hb hts (fun _ hh => (List.mem_cons_of_mem _ (List.mem_append_right _ (List.mem_append_left _ hh)))) hown hK hT (fx_6 hX) (by decide) cl_e16 rfl 4 (by decide) (hts (.fieldLink RX7 15 "TypingPool$Planner" "hands" "[I") (List.mem_cons_of_mem _ (List.mem_append_left _ (List.mem_of_getElem? (i := 1) rfl)))) (fun _ h9 => h9) rfl dX7_beginHand_23 ?_
    refine lv_iload_n hx hb dX7_beginHand_26 rfl (lv_at hl 1 rfl) ?_
    refine tw_iald hx hb hK hT 0 (fx_42 hX) (by decide) cl_e52 rfl (z_in rfl (by omega) (by omega)) dX7_beginHand_27 ?_
    have hv0 : vl nH (u 1) (y (a 42)) := gh
    have hv_2 := vl_at hv0 (x := p0) rfl (by omega) (by omega)
    refine lv_istore (lv' := [(6, .int (y (a 42) p0.toNatClampNeg)), (0, .ref (a 6)), (1, .int p0), (2, .int p1), (3, .int p2), (4, .int p3), (5, .int p4)]) hx hb dX7_beginHand_28 hl (by decide) rfl (fun ls hl => ?_)
    refine lv_aload_n hx hb dX7_beginHand_30 rfl (lv_at hl 1 rfl) ?_
    refine tw_get (D := (dC, dI)) (v := .ref (a 3)) (C := RX7) (T := TX7) (N := 13) hx hb hts (fun _ hh => (List.mem_cons_of_mem _ (List.mem_append_right _ (List.mem_append_left _ hh)))) hown hK hT (fx_6 hX) (by decide) cl_e16 rfl 1 (by decide) (hts (.fieldLink RX7 31 "TypingPool$Planner" "floor" "LTypingPool$Floor;") (List.mem_cons_of_mem _ (List.mem_append_left _ (List.mem_of_getElem? (i := 2) rfl)))) (fun _ h9 => h9) rfl dX7_beginHand_31 ?_
    refine tw_get (D := (dC, dI)) (v := .int (y (a 3) 2)) (C := RX3) (T := TX3) (N := 12) hx hb hts (fun _ hh => (List.mem_cons_of_mem _ (List.mem_append_right _ (List.mem_append_right _ (List.mem_append_left _ hh))))) hown hK hT (fx_3 hX) (by decide) cl_e13 rfl 2 (by decide) (hts (.fieldLink RX7 92 "TypingPool$Floor" "now" "I") (List.mem_cons_of_mem _ (List.mem_append_left _ (List.mem_of_getElem? (i := 3) rfl)))) (fun _ h9 => h9) rfl dX7_beginHand_34 ?_
    refine lv_istore (lv' := [(7, .int (y (a 3) 2)), (6, .int (y (a 42) p0.toNatClampNeg)), (0, .ref (a 6)), (1, .int p0), (2, .int p1), (3, .int p2), (4, .int p3), (5, .int p4)]) hx hb dX7_beginHand_37 hl (by decide) rfl (fun ls hl => ?_)
    refine lv_aload_n hx hb dX7_beginHand_39 rfl (lv_at hl 2 rfl) ?_
    refine tw_get (D := (dC, dI)) (v := .ref (a 3)) (C := RX7) (T := TX7) (N := 13) hx hb hts (fun _ hh => (List.mem_cons_of_mem _ (List.mem_append_right _ (List.mem_append_left _ hh)))) hown hK hT (fx_6 hX) (by decide) cl_e16 rfl 1 (by decide) (hts (.fieldLink RX7 31 "TypingPool$Planner" "floor" "LTypingPool$Floor;") (List.mem_cons_of_mem _ (List.mem_append_left _ (List.mem_of_getElem? (i := 2) rfl)))) (fun _ h9 => h9) rfl dX7_beginHand_40 ?_
    refine tw_get (D := (dC, dI)) (v := .ref (a 22)) (C := RX3) (T := TX3) (N := 12) hx hb hts (fun _ hh => (List.mem_cons_of_mem _ (List.mem_append_right _ (List.mem_append_right _ (List.mem_append_left _ hh))))) hown hK hT (fx_3 hX) (by decide) cl_e13 rfl 5 (by decide) (hts (.fieldLink RX7 95 "TypingPool$Floor" "words" "[I") (List.mem_cons_of_mem _ (List.mem_append_left _ (List.mem_of_getElem? (i := 4) rfl)))) (fun _ h9 => h9) rfl dX7_beginHand_43 ?_
    refine lv_iload hx hb dX7_beginHand_46 (lv_at hl 1 rfl) ?_
    refine tw_iald hx hb hK hT 0 (fx_22 hX) (by decide) cl_e32 rfl (z_in rfl (by omega) (by omega)) dX7_beginHand_48 ?_
    refine lv_istore (lv' := [(8, .int (y (a 22) (y (a 42) p0.toNatClampNeg).toNatClampNeg)), (7, .int (y (a 3) 2)), (6, .int (y (a 42) p0.toNatClampNeg)), (0, .ref (a 6)), (1, .int p0), (2, .int p1), (3, .int p2), (4, .int p3), (5, .int p4)]) hx hb dX7_beginHand_49 hl (by decide) rfl (fun ls hl => ?_)
    refine lv_aload_n hx hb dX7_beginHand_51 rfl (lv_at hl 3 rfl) ?_
    refine tw_get (D := (dC, dI)) (v := .ref (a 3)) (C := RX7) (T := TX7) (N := 13) hx hb hts (fun _ hh => (List.mem_cons_of_mem _ (List.mem_append_right _ (List.mem_append_left _ hh)))) hown hK hT (fx_6 hX) (by decide) cl_e16 rfl 1 (by decide) (hts (.fieldLink RX7 31 "TypingPool$Planner" "floor" "LTypingPool$Floor;") (List.mem_cons_of_mem _ (List.mem_append_left _ (List.mem_of_getElem? (i := 2) rfl)))) (fun _ h9 => h9) rfl dX7_beginHand_52 ?_
    refine tw_get (D := (dC, dI)) (v := .ref (a 20)) (C := RX3) (T := TX3) (N := 12) hx hb hts (fun _ hh => (List.mem_cons_of_mem _ (List.mem_append_right _ (List.mem_append_right _ (List.mem_append_left _ hh))))) hown hK hT (fx_3 hX) (by decide) cl_e13 rfl 3 (by decide) (hts (.fieldLink RX7 98 "TypingPool$Floor" "has" "[I") (List.mem_cons_of_mem _ (List.mem_append_left _ (List.mem_of_getElem? (i := 5) rfl)))) (fun _ h9 => h9) rfl dX7_beginHand_55 ?_
    refine lv_iload hx hb dX7_beginHand_58 (lv_at hl 2 rfl) ?_
    refine tw_iald hx hb hK hT 0 (fx_20 hX) (by decide) cl_e30 rfl (z_in rfl (by omega) (by omega)) dX7_beginHand_60 ?_
    refine lv_istore (lv' := [(9, .int (y (a 20) (y (a 42) p0.toNatClampNeg).toNatClampNeg)), (8, .int (y (a 22) (y (a 42) p0.toNatClampNeg).toNatClampNeg)), (7, .int (y (a 3) 2)), (6, .int (y (a 42) p0.toNatClampNeg)), (0, .ref (a 6)), (1, .int p0), (2, .int p1), (3, .int p2), (4, .int p3), (5, .int p4)]) hx hb dX7_beginHand_61 hl (by decide) rfl (fun ls hl => ?_)
    refine lv_aload_n hx hb dX7_beginHand_63 rfl (lv_at hl 4 rfl) ?_
    refine tw_get (D := (dC, dI)) (v := .ref (a 1)) (C := RX7) (T := TX7) (N := 13) hx hb hts (fun _ hh => (List.mem_cons_of_mem _ (List.mem_append_right _ (List.mem_append_left _ hh)))) hown hK hT (fx_6 hX) (by decide) cl_e16 rfl 0 (by decide) (hts (.fieldLink RX7 27 "TypingPool$Planner" "book" "LTypingPool$Book;") (List.mem_cons_of_mem _ (List.mem_append_left _ (List.mem_of_getElem? (i := 6) rfl)))) (fun _ h9 => h9) rfl dX7_beginHand_64 ?_
    refine lv_iload hx hb dX7_beginHand_67 (lv_at hl 0 rfl) ?_
    have hFc := tw_free hF hS hA
    refine va_calli (va_runV (As := [.int (y (a 20) (y (a 42) p0.toNatClampNeg).toNatClampNeg)]) (rest := []) ⟨hx, hb, hml, hown, hts⟩ (c_hasPiece l dC dI ad av s.heap.size a k τ ln y g u (y (a 20) (y (a 42) p0.toNatClampNeg).toNatClampNeg) hI ) (cwV 1 hts (gi_4 (List.mem_cons_of_mem _ (List.mem_append_left _ (List.mem_of_getElem? (i := 7) rfl))) (List.mem_cons_of_mem _ (List.mem_append_left _ (List.mem_of_getElem? (i := 8) rfl))) (List.mem_cons_of_mem _ (List.mem_append_left _ (List.mem_of_getElem? (i := 9) rfl))) (List.mem_cons_of_mem _ (List.mem_append_left _ (List.mem_of_getElem? (i := 10) rfl))) (fun _ hh => (List.mem_cons_of_mem _ (List.mem_append_right _ (List.mem_append_right _ (List.mem_append_right _ (List.mem_append_left _ hh)))))) gd_c_hasPiece) rfl rfl rfl (by decide +kernel) ⟨Nat.le_of_ble_eq_true rfl, Nat.le_of_ble_eq_true rfl⟩) ⟨pw_blind, tw_recv hK hT (fx_1 hX) (by decide) cl_e11 rfl, pw_use hT hK hFc hS hM⟩ rfl rfl hl.1 rfl (lv_room (Nat.le_of_ble_eq_true rfl)) dX7_beginHand_69 ⟨Nat.le_of_ble_eq_true rfl, Nat.le_of_ble_eq_true rfl⟩) hS (fun q _ h => hFc q h) hFc (fun r0 r_3 t H locs ht hvm hw hB hz1 hk1 hS => ?_)
    refine W.widen (k := 0) (n := 0) (Nat.le_of_ble_eq_true rfl) (Nat.le_of_ble_eq_true rfl) ?_
    clear hvm hz1 hk1
    subst hw
    rcases hB with ⟨hre, hf_4, hf_5, hT⟩ | ⟨hre, hf_6, hT⟩
    · refine lq_top (v := 1) hre ?_
      rw [ht] at hT
      refine lv_if_eq (tgt := 133) hx hb dX7_beginHand_72 (by decide) (fun c_7 => absurd c_7 (by decide)) (fun c_7 => ?_)
      refine lv_aload_n hx hb dX7_beginHand_75 rfl (lv_at hl 4 rfl) ?_
      refine tw_get (D := (dC, dI)) (v := .ref (a 3)) (C := RX7) (T := TX7) (N := 13) hx hb hts (fun _ hh => (List.mem_cons_of_mem _ (List.mem_append_right _ (List.mem_append_left _ hh)))) hown hK hT (fx_6 hX) (by decide) cl_e16 rfl 1 (by decide) (hts (.fieldLink RX7 31 "TypingPool$Planner" "floor" "LTypingPool$Floor;") (List.mem_cons_of_mem _ (List.mem_append_left _ (List.mem_of_getElem? (i := 2) rfl)))) (fun _ h9 => h9) rfl dX7_beginHand_76 ?_
      refine tw_get (D := (dC, dI)) (v := .ref (a 27)) (C := RX3) (T := TX3) (N := 12) hx hb hts (fun _ hh => (List.mem_cons_of_mem _ (List.mem_append_right _ (List.mem_append_right _ (List.mem_append_left _ hh))))) hown hK hT (fx_3 hX) (by decide) cl_e13 rfl 10 (by decide) (hts (.fieldLink RX7 101 "TypingPool$Floor" "workLeft" "[I") (List.mem_cons_of_mem _ (List.mem_append_left _ (List.mem_of_getElem? (i := 11) rfl)))) (fun _ h9 => h9) rfl dX7_beginHand_79 ?_
      refine lv_iload hx hb dX7_beginHand_82 (lv_at hl 0 rfl) ?_
      refine tw_iald hx hb hK hT 0 (fx_27 hX) (by decide) cl_e37 rfl (z_in rfl (by omega) (by omega)) dX7_beginHand_84 ?_
      refine lv_aload_n hx hb dX7_beginHand_85 rfl (lv_at hl 4 rfl) ?_
      refine tw_get (D := (dC, dI)) (v := .ref (a 3)) (C := RX7) (T := TX7) (N := 13) hx hb hts (fun _ hh => (List.mem_cons_of_mem _ (List.mem_append_right _ (List.mem_append_left _ hh)))) hown hK hT (fx_6 hX) (by decide) cl_e16 rfl 1 (by decide) (hts (.fieldLink RX7 31 "TypingPool$Planner" "floor" "LTypingPool$Floor;") (List.mem_cons_of_mem _ (List.mem_append_left _ (List.mem_of_getElem? (i := 2) rfl)))) (fun _ h9 => h9) rfl dX7_beginHand_86 ?_
      refine tw_get (D := (dC, dI)) (v := .ref (a 21)) (C := RX3) (T := TX3) (N := 12) hx hb hts (fun _ hh => (List.mem_cons_of_mem _ (List.mem_append_right _ (List.mem_append_right _ (List.mem_append_left _ hh))))) hown hK hT (fx_3 hX) (by decide) cl_e13 rfl 4 (by decide) (hts (.fieldLink RX7 104 "TypingPool$Floor" "rate" "[I") (List.mem_cons_of_mem _ (List.mem_append_left _ (List.mem_of_getElem? (i := 12) rfl)))) (fun _ h9 => h9) rfl dX7_beginHand_89 ?_
      refine lv_iload hx hb dX7_beginHand_92 (lv_at hl 3 rfl) ?_
      refine tw_iald hx hb hK hT 0 (fx_21 hX) (by decide) cl_e31 rfl (z_in rfl (by omega) (by omega)) dX7_beginHand_94 ?_
      have hFc := tw_free hF hS hA
      refine va_calli (va_runSN (As := [.int (y (a 27) (y (a 20) (y (a 42) p0.toNatClampNeg).toNatClampNeg).toNatClampNeg), .int (y (a 21) (y (a 42) p0.toNatClampNeg).toNatClampNeg)]) (rest := []) ⟨hx, hb, hml, hown, hts⟩ (c_minutesFor l dC dI ad av H.size a k τ ln y g u (y (a 27) (y (a 20) (y (a 42) p0.toNatClampNeg).toNatClampNeg).toNatClampNeg) (y (a 21) (y (a 42) p0.toNatClampNeg).toNatClampNeg)  ) ⟨va_cnB 2 hts (gi_0  (fun _ hh => (List.mem_cons_of_mem _ (List.mem_append_right _ (List.mem_append_right _ (List.mem_append_right _ (List.mem_append_right _ (List.mem_append_left _ hh))))))) gd_c_minutesFor) rfl rfl rfl hM.1.2.2.2.1 (hts (.initialized RX11) (List.mem_cons_of_mem _ (List.mem_append_left _ (List.mem_of_getElem? (i := 13) rfl)))) (by decide +kernel) ⟨Nat.le_of_ble_eq_true rfl, Nat.le_of_ble_eq_true rfl⟩, (hts (.static yX11_minutesFor) (List.mem_cons_of_mem _ (List.mem_append_left _ (List.mem_of_getElem? (i := 14) rfl)))), trivial⟩ ⟨pw_blind, pw_use hT hK hFc hS hM⟩ rfl rfl hl.1 rfl (lv_room (Nat.le_of_ble_eq_true rfl)) dX7_beginHand_95 ⟨Nat.le_of_ble_eq_true rfl, Nat.le_of_ble_eq_true rfl⟩) hS (fun q _ h => hFc q h) hFc (fun r0 r_8 t H locs ht hvm hw hB hz1 hk1 hS => ?_)
      refine W.widen (k := 0) (n := 0) (Nat.le_of_ble_eq_true rfl) (Nat.le_of_ble_eq_true rfl) ?_
      clear hvm hz1 hk1
      subst hw
      have hT := hB
      rw [ht] at hT
      refine lv_istore (lv' := [(10, .int r_8), (9, .int (y (a 20) (y (a 42) p0.toNatClampNeg).toNatClampNeg)), (8, .int (y (a 22) (y (a 42) p0.toNatClampNeg).toNatClampNeg)), (7, .int (y (a 3) 2)), (6, .int (y (a 42) p0.toNatClampNeg)), (0, .ref (a 6)), (1, .int p0), (2, .int p1), (3, .int p2), (4, .int p3), (5, .int p4)]) hx hb dX7_beginHand_98 hl (by decide) rfl (fun ls hl => ?_)
      refine lv_aload_n hx hb dX7_beginHand_100 rfl (lv_at hl 5 rfl) ?_
      refine tw_get (D := (dC, dI)) (v := .ref (a 1)) (C := RX7) (T := TX7) (N := 13) hx hb hts (fun _ hh => (List.mem_cons_of_mem _ (List.mem_append_right _ (List.mem_append_left _ hh)))) hown hK hT (fx_6 hX) (by decide) cl_e16 rfl 0 (by decide) (hts (.fieldLink RX7 27 "TypingPool$Planner" "book" "LTypingPool$Book;") (List.mem_cons_of_mem _ (List.mem_append_left _ (List.mem_of_getElem? (i := 6) rfl)))) (fun _ h9 => h9) rfl dX7_beginHand_101 ?_
      refine lv_iload hx hb dX7_beginHand_104 (lv_at hl 4 rfl) ?_
      refine lv_iload hx hb dX7_beginHand_106 (lv_at hl 3 rfl) ?_
      refine lv_iload hx hb dX7_beginHand_108 (lv_at hl 0 rfl) ?_
      have hFc := tw_free hF hS hA
      refine va_calli (va_runV (As := [.int (y (a 42) p0.toNatClampNeg), .int (y (a 3) 2), .int r_8]) (rest := []) ⟨hx, hb, hml, hown, hts⟩ (c_minuteAfterWork l dC dI ad av H.size a k τ ln y g u (y (a 42) p0.toNatClampNeg) (y (a 3) 2) r_8 hI ) (cwV 3 hts (gi_4 (List.mem_cons_of_mem _ (List.mem_append_left _ (List.mem_of_getElem? (i := 15) rfl))) (List.mem_cons_of_mem _ (List.mem_append_left _ (List.mem_of_getElem? (i := 16) rfl))) (List.mem_cons_of_mem _ (List.mem_append_left _ (List.mem_of_getElem? (i := 17) rfl))) (List.mem_cons_of_mem _ (List.mem_append_left _ (List.mem_of_getElem? (i := 10) rfl))) (fun _ hh => (List.mem_cons_of_mem _ (List.mem_append_right _ (List.mem_append_right _ (List.mem_append_right _ (List.mem_append_right _ (List.mem_append_right _ (List.mem_append_left _ hh)))))))) gd_c_minuteAfterWork) rfl rfl rfl (by decide +kernel) ⟨Nat.le_of_ble_eq_true rfl, Nat.le_of_ble_eq_true rfl⟩) ⟨pw_blind, tw_recv hK hT (fx_1 hX) (by decide) cl_e11 rfl, pw_use hT hK hFc hS hM⟩ rfl rfl hl.1 rfl (lv_room (Nat.le_of_ble_eq_true rfl)) dX7_beginHand_110 ⟨Nat.le_of_ble_eq_true rfl, Nat.le_of_ble_eq_true rfl⟩) hS (fun q _ h => hFc q h) hFc (fun r0 r_9 t H locs ht hvm hw hB hz1 hk1 hS => ?_)
      refine W.widen (k := 0) (n := 0) (Nat.le_of_ble_eq_true rfl) (Nat.le_of_ble_eq_true rfl) ?_
      clear hvm hz1 hk1
      subst hw
      have hT := hB
      rw [ht] at hT
      refine lv_istore (lv' := [(7, .int r_9), (10, .int r_8), (9, .int (y (a 20) (y (a 42) p0.toNatClampNeg).toNatClampNeg)), (8, .int (y (a 22) (y (a 42) p0.toNatClampNeg).toNatClampNeg)), (6, .int (y (a 42) p0.toNatClampNeg)), (0, .ref (a 6)), (1, .int p0), (2, .int p1), (3, .int p2), (4, .int p3), (5, .int p4)]) hx hb dX7_beginHand_113 hl (by decide) rfl (fun ls hl => ?_)
      refine lv_iload hx hb dX7_beginHand_115 (lv_at hl 3 rfl) ?_
      refine lv_aload_n hx hb dX7_beginHand_117 rfl (lv_at hl 5 rfl) ?_
      refine tw_get (D := (dC, dI)) (v := .ref (a 1)) (C := RX7) (T := TX7) (N := 13) hx hb hts (fun _ hh => (List.mem_cons_of_mem _ (List.mem_append_right _ (List.mem_append_left _ hh)))) hown hK hT (fx_6 hX) (by decide) cl_e16 rfl 0 (by decide) (hts (.fieldLink RX7 27 "TypingPool$Planner" "book" "LTypingPool$Book;") (List.mem_cons_of_mem _ (List.mem_append_left _ (List.mem_of_getElem? (i := 6) rfl)))) (fun _ h9 => h9) rfl dX7_beginHand_118 ?_
      refine tw_get (D := (dC, dI)) (v := .ref (a 11)) (C := RX1) (T := TX1) (N := 8) hx hb hts (fun _ hh => (List.mem_cons_of_mem _ (List.mem_append_right _ (List.mem_append_right _ (List.mem_append_right _ (List.mem_append_right _ (List.mem_append_right _ (List.mem_append_right _ (List.mem_append_left _ hh))))))))) hown hK hT (fx_1 hX) (by decide) cl_e11 rfl 4 (by decide) (hts (.fieldLink RX7 115 "TypingPool$Book" "pieces" "[LTypingPool$Piece;") (List.mem_cons_of_mem _ (List.mem_append_left _ (List.mem_of_getElem? (i := 18) rfl)))) (fun _ h9 => h9) rfl dX7_beginHand_121 ?_
      refine lv_iload hx hb dX7_beginHand_124 (lv_at hl 2 rfl) ?_
      refine tw_aald hx hb hK hT 4 (fx_11 hX) (by decide) cl_e21 rfl (z_in rfl (by omega) (by omega)) dX7_beginHand_126 ?_
      obtain ⟨q_10, hgq_10, htq_10⟩ := ic_l11 hI (x := (y (a 20) (y (a 42) p0.toNatClampNeg).toNatClampNeg)) rfl (by omega) (by omega)
      refine lq_topr hgq_10 ?_
      refine tw_get (D := (dC, dI)) (v := .int (y q_10 7)) (C := RX6) (T := TX6) (N := 11) hx hb hts (fun _ hh => (List.mem_cons_of_mem _ (List.mem_append_right _ (List.mem_append_right _ (List.mem_append_right _ (List.mem_append_right _ (List.mem_append_right _ (List.mem_append_right _ (List.mem_append_right _ (List.mem_append_left _ hh)))))))))) hown hK hT htq_10 (by decide) cl_e2 rfl 7 (by decide) (hts (.fieldLink RX7 118 "TypingPool$Piece" "words" "I") (List.mem_cons_of_mem _ (List.mem_append_left _ (List.mem_of_getElem? (i := 19) rfl)))) (fun _ h9 => h9) rfl dX7_beginHand_127 ?_
      refine lv_ior hx hb dX7_beginHand_130 ?_
      refine lv_topi (fun x_11 ex_11 => ?_)
      refine lv_istore (lv' := [(8, .int x_11), (7, .int r_9), (10, .int r_8), (9, .int (y (a 20) (y (a 42) p0.toNatClampNeg).toNatClampNeg)), (6, .int (y (a 42) p0.toNatClampNeg)), (0, .ref (a 6)), (1, .int p0), (2, .int p1), (3, .int p2), (4, .int p3), (5, .int p4)]) hx hb dX7_beginHand_131 hl (by decide) rfl (fun ls hl => ?_)
      refine lv_aload_n hx hb dX7_beginHand_133 rfl (lv_at hl 5 rfl) ?_
      refine lv_iload_n hx hb dX7_beginHand_134 rfl (lv_at hl 6 rfl) ?_
      refine lv_iload_n hx hb dX7_beginHand_135 rfl (lv_at hl 7 rfl) ?_
      refine lv_iload hx hb dX7_beginHand_136 (lv_at hl 1 rfl) ?_
      refine lv_iload hx hb dX7_beginHand_138 (lv_at hl 0 rfl) ?_
      refine lv_iload_n hx hb dX7_beginHand_140 rfl (lv_at hl 8 rfl) ?_
      refine lv_iload hx hb dX7_beginHand_141 (lv_at hl 9 rfl) ?_
      refine lv_iload hx hb dX7_beginHand_143 (lv_at hl 10 rfl) ?_
      have hFc := tw_free hF hS hA
      refine va_callv (va_runV (As := [.int p0, .int p1, .int r_9, .int x_11, .int p2, .int p3, .int p4]) (rest := []) ⟨hx, hb, hml, hown, hts⟩ (c_goOn5 l dC dI ad av H.size a k τ ln y g u p0 p1 r_9 x_11 p2 p3 p4 nP nH hI (by omega) (by omega) gn gp gh (by omega) (by omega) (by omega)) (cwV 7 hts (gi_4 (List.mem_cons_of_mem _ (List.mem_append_left _ (List.mem_of_getElem? (i := 20) rfl))) (List.mem_cons_of_mem _ (List.mem_append_left _ (List.mem_of_getElem? (i := 21) rfl))) (List.mem_cons_of_mem _ (List.mem_append_left _ (List.mem_of_getElem? (i := 22) rfl))) (List.mem_cons_of_mem _ (List.mem_append_left _ (List.mem_of_getElem? (i := 23) rfl))) (fun _ hh => (List.mem_cons_of_mem _ (List.mem_append_right _ (List.mem_append_right _ (List.mem_append_right _ (List.mem_append_right _ (List.mem_append_right _ (List.mem_append_right _ (List.mem_append_right _ (List.mem_append_right _ (List.mem_append_left _ hh))))))))))) gd_c_goOn5) rfl rfl rfl (by decide +kernel) ⟨Nat.le_of_ble_eq_true rfl, Nat.le_of_ble_eq_true rfl⟩) ⟨pw_blind, tw_recv hK hT (fx_6 hX) (by decide) cl_e16 rfl, pw_use hT hK hFc hS hM⟩ rfl rfl hl.1 rfl (lv_room (Nat.le_of_ble_eq_true rfl)) dX7_beginHand_145 ⟨Nat.le_of_ble_eq_true rfl, Nat.le_of_ble_eq_true rfl⟩) hS (fun q _ h => hFc q h) hFc (fun u0 t H locs ht hvm hw hB hz1 hk1 hS => ?_)
      refine W.widen (k := 0) (n := 0) (Nat.le_of_ble_eq_true rfl) (Nat.le_of_ble_eq_true rfl) ?_
      clear hvm hz1 hk1
      obtain ⟨y_13, hgy_13, hf_14, hf_15, hf_16, hT⟩ := hB
      rw [ht] at hT
      have hG := hG.tr hgy_13 (by decide)
      have hI := hI.ag hgy_13 (by decide)
      exact W.vret hx hb hr (fun t ht hW9 => ⟨⟨(), rfl, trivial, ⟨y_13, hG, by omega, by omega, by omega, tw_at ht hT⟩⟩, hS.F ht⟩) hS.2.2 dX7_beginHand_148
    · refine lq_top (v := 0) hre ?_
      rw [ht] at hT
      refine lv_if_eq (tgt := 133) hx hb dX7_beginHand_72 (by decide) (fun c_17 => ?_) (fun c_17 => absurd c_17 (by decide))
      refine lv_aload_n hx hb dX7_beginHand_133 rfl (lv_at hl 4 rfl) ?_
      refine lv_iload_n hx hb dX7_beginHand_134 rfl (lv_at hl 5 rfl) ?_
      refine lv_iload_n hx hb dX7_beginHand_135 rfl (lv_at hl 6 rfl) ?_
      refine lv_iload hx hb dX7_beginHand_136 (lv_at hl 2 rfl) ?_
      refine lv_iload hx hb dX7_beginHand_138 (lv_at hl 1 rfl) ?_
      refine lv_iload_n hx hb dX7_beginHand_140 rfl (lv_at hl 7 rfl) ?_
      refine lv_iload hx hb dX7_beginHand_141 (lv_at hl 8 rfl) ?_
      refine lv_iload hx hb dX7_beginHand_143 (lv_at hl 9 rfl) ?_
      have hFc := tw_free hF hS hA
      refine va_callv (va_runV (As := [.int p0, .int p1, .int (y (a 3) 2), .int (y (a 22) (y (a 42) p0.toNatClampNeg).toNatClampNeg), .int p2, .int p3, .int p4]) (rest := []) ⟨hx, hb, hml, hown, hts⟩ (c_goOn5 l dC dI ad av H.size a k τ ln y g u p0 p1 (y (a 3) 2) (y (a 22) (y (a 42) p0.toNatClampNeg).toNatClampNeg) p2 p3 p4 nP nH hI (by omega) (by omega) gn gp gh (by omega) (by omega) (by omega)) (cwV 7 hts (gi_4 (List.mem_cons_of_mem _ (List.mem_append_left _ (List.mem_of_getElem? (i := 20) rfl))) (List.mem_cons_of_mem _ (List.mem_append_left _ (List.mem_of_getElem? (i := 21) rfl))) (List.mem_cons_of_mem _ (List.mem_append_left _ (List.mem_of_getElem? (i := 22) rfl))) (List.mem_cons_of_mem _ (List.mem_append_left _ (List.mem_of_getElem? (i := 23) rfl))) (fun _ hh => (List.mem_cons_of_mem _ (List.mem_append_right _ (List.mem_append_right _ (List.mem_append_right _ (List.mem_append_right _ (List.mem_append_right _ (List.mem_append_right _ (List.mem_append_right _ (List.mem_append_right _ (List.mem_append_left _ hh))))))))))) gd_c_goOn5) rfl rfl rfl (by decide +kernel) ⟨Nat.le_of_ble_eq_true rfl, Nat.le_of_ble_eq_true rfl⟩) ⟨pw_blind, tw_recv hK hT (fx_6 hX) (by decide) cl_e16 rfl, pw_use hT hK hFc hS hM⟩ rfl rfl hl.1 rfl (lv_room (Nat.le_of_ble_eq_true rfl)) dX7_beginHand_145 ⟨Nat.le_of_ble_eq_true rfl, Nat.le_of_ble_eq_true rfl⟩) hS (fun q _ h => hFc q h) hFc (fun u0 t H locs ht hvm hw hB hz1 hk1 hS => ?_)
      refine W.widen (k := 0) (n := 0) (Nat.le_of_ble_eq_true rfl) (Nat.le_of_ble_eq_true rfl) ?_
      clear hvm hz1 hk1
      obtain ⟨y_19, hgy_19, hf_20, hf_21, hf_22, hT⟩ := hB
      rw [ht] at hT
      have hG := hG.tr hgy_19 (by decide)
      have hI := hI.ag hgy_19 (by decide)
      exact W.vret hx hb hr (fun t ht hW9 => ⟨⟨(), rfl, trivial, ⟨y_19, hG, by omega, by omega, by omega, tw_at ht hT⟩⟩, hS.F ht⟩) hS.2.2 dX7_beginHand_148
  · have nc_1 := z_nlt rfl rfl c_1
    refine lv_iload_n hx hb dX7_beginHand_8 rfl (lv_at hl 2 rfl) ?_
    refine lv_if_ne (tgt := 21) hx hb dX7_beginHand_9 (by decide) (fun c_23 => ?_) (fun c_23 => ?_)
    · have nc_23 := z_ne rfl (zk (x := 0) 0 rfl) c_23
      exact W.vret hx hb hr (fun t ht hW9 => ⟨⟨(), rfl, trivial, ⟨y, hG, by omega, by omega, by omega, tw_at ht hT⟩⟩, hS.F ht⟩) hS.2.2 dX7_beginHand_21
    · have nc_23 := z_eq rfl (zk (x := 0) 0 rfl) c_23
      refine lv_aload_n hx hb dX7_beginHand_12 rfl (lv_at hl 0 rfl) ?_
      refine lv_iload_n hx hb dX7_beginHand_13 rfl (lv_at hl 3 rfl) ?_
      refine lv_iload hx hb dX7_beginHand_14 (lv_at hl 4 rfl) ?_
      refine lv_iload hx hb dX7_beginHand_16 (lv_at hl 5 rfl) ?_
      have hFc := tw_free hF hS hA
      refine va_callv (va_runV (As := [.int p2, .int p3, .int p4]) (rest := []) ⟨hx, hb, hml, hown, hts⟩ (c_keep l dC dI ad av s.heap.size a k τ ln y g u p2 p3 p4 hI (by omega) (by omega) (by omega)) (cwV 3 hts (gi_4 (List.mem_cons_of_mem _ (List.mem_append_left _ (List.mem_of_getElem? (i := 24) rfl))) (List.mem_cons_of_mem _ (List.mem_append_left _ (List.mem_of_getElem? (i := 25) rfl))) (List.mem_cons_of_mem _ (List.mem_append_left _ (List.mem_of_getElem? (i := 26) rfl))) (List.mem_cons_of_mem _ (List.mem_append_left _ (List.mem_of_getElem? (i := 23) rfl))) (fun _ hh => (List.mem_cons_of_mem _ (List.mem_append_right _ (List.mem_append_right _ (List.mem_append_right _ (List.mem_append_right _ (List.mem_append_right _ (List.mem_append_right _ (List.mem_append_right _ (List.mem_append_right _ (List.mem_append_right _ (List.mem_append_left _ hh)))))))))))) gd_c_keep) rfl rfl rfl (by decide +kernel) ⟨Nat.le_of_ble_eq_true rfl, Nat.le_of_ble_eq_true rfl⟩) ⟨pw_blind, tw_recv hK hT (fx_6 hX) (by decide) cl_e16 rfl, pw_use hT hK hFc hS hM⟩ rfl rfl hl.1 rfl (lv_room (Nat.le_of_ble_eq_true rfl)) dX7_beginHand_18 ⟨Nat.le_of_ble_eq_true rfl, Nat.le_of_ble_eq_true rfl⟩) hS (fun q _ h => hFc q h) hFc (fun u0 t H locs ht hvm hw hB hz1 hk1 hS => ?_)
      refine W.widen (k := 0) (n := 0) (Nat.le_of_ble_eq_true rfl) (Nat.le_of_ble_eq_true rfl) ?_
      clear hvm hz1 hk1
      obtain ⟨y_25, hgy_25, hf_26, hf_27, hf_28, hT⟩ := hB
      rw [ht] at hT
      have hG := hG.tr hgy_25 (by decide)
      have hI := hI.ag hgy_25 (by decide)
      exact W.vret hx hb hr (fun t ht hW9 => ⟨⟨(), rfl, trivial, ⟨y_25, hG, by omega, by omega, by omega, tw_at ht hT⟩⟩, hS.F ht⟩) hS.2.2 dX7_beginHand_21
def wo_c_goOn4 : List Cond := [.fieldLink RX7 78 "TypingPool$Planner" "handCount" "I", .methodLink RX7 126 yX7_isBetter, .instanceMethod yX7_isBetter, .selects RX7 yX7_isBetter yX7_isBetter, .initialized RX7, .fieldLink RX7 21 "TypingPool$Planner" "current" "[I", .methodLink RX7 63 yX7_beginHand, .instanceMethod yX7_beginHand, .selects RX7 yX7_beginHand yX7_beginHand, .fieldLink RX7 15 "TypingPool$Planner" "hands" "[I", .fieldLink RX7 42 "TypingPool$Planner" "pieceCount" "I", .fieldLink RX7 18 "TypingPool$Planner" "allowed" "[I", .fieldLink RX7 9 "TypingPool$Planner" "pieces" "[I", .fieldLink RX7 27 "TypingPool$Planner" "book" "LTypingPool$Book;", .fieldLink RX7 115 "TypingPool$Book" "pieces" "[LTypingPool$Piece;", .methodLink RX7 130 yX6_allWork, .instanceMethod yX6_allWork, .selects RX6 yX6_allWork yX6_allWork, .initialized RX6, .fieldLink RX7 31 "TypingPool$Planner" "floor" "LTypingPool$Floor;", .methodLink RX7 133 yX3_rateFor, .instanceMethod yX3_rateFor, .selects RX3 yX3_rateFor yX3_rateFor, .initialized RX3, .initialized RX11, .static yX11_minutesFor, .methodLink RX7 111 yX1_minuteAfterWork, .instanceMethod yX1_minuteAfterWork, .selects RX1 yX1_minuteAfterWork yX1_minuteAfterWork, .initialized RX1, .fieldLink RX7 136 "TypingPool$Piece" "due" "I", .methodLink RX7 139 Lib.Math.max.name, .static Lib.Math.max.name, .initialized "java/lang/Math", .code Lib.Math.max.name Lib.Math.max.code 2 (some .int), .fieldLink RX7 118 "TypingPool$Piece" "words" "I", .methodLink RX7 122 yX7_goOn, .instanceMethod yX7_goOn, .selects RX7 yX7_goOn yX7_goOn]
def wm_c_goOn4 : List Cond := .code yX7_goOn cX7_goOn 15 none :: (wo_c_goOn4 ++ (wsX70 ++ (wm_c_isBetter ++ (wm_c_beginHand5 ++ (wsX10 ++ (wm_c_allWork ++ (wm_c_rateFor ++ (wm_c_minutesFor ++ (wm_c_minuteAfterWork ++ (wsX60 ++ (wm_c_goOn5 ++ ([] : List Cond))))))))))))
theorem gd_c_goOn4 : ∀ w ∈ wm_c_goOn4, goodWord w = true := gd_c rfl (gd_a (by decide) (gd_a gd_wsX70 (gd_a gd_c_isBetter (gd_a gd_c_beginHand5 (gd_a gd_wsX10 (gd_a gd_c_allWork (gd_a gd_c_rateFor (gd_a gd_c_minutesFor (gd_a gd_c_minuteAfterWork (gd_a gd_wsX60 (gd_a gd_c_goOn5 gd_nil)))))))))))
set_option maxRecDepth 20000 in
theorem im_c_goOn4 : ∀ w ∈ wm_c_goOn4, w ∈ lw_tbl := im_c (in_r [.code yX7_goOn cX7_goOn 15 none] [1060] (by decide +kernel)) (in_app (in_r wo_c_goOn4 [520, 1047, 1049, 23, 85, 522, 1039, 1041, 21, 519, 518, 521, 517, 515, 128, 1061, 720, 721, 89, 516, 1062, 820, 821, 83, 70, 845, 1053, 1054, 1055, 71, 683, 1063, 289, 78, 290, 687, 1057, 1059, 24] (by decide +kernel)) (in_app im_wsX70 (in_app im_c_isBetter (in_app im_c_beginHand5 (in_app im_wsX10 (in_app im_c_allWork (in_app im_c_rateFor (in_app im_c_minutesFor (in_app im_c_minuteAfterWork (in_app im_wsX60 (in_app im_c_goOn5 im_nil)))))))))))
set_option maxHeartbeats 4000000 in
set_option maxRecDepth 100000 in
theorem c_goOn4 (l : Launch) (dC : Nat → ClassId) (dI : Nat → Nat → Nat) (ad av : Nat → Nat) (sz : Nat) (a : Nat → Nat) (k : Nat → ClassId) (τ ln : Nat → Nat) (y : Nat → Nat → Int32) (g : Nat → Nat → Option Nat) (u : Nat → Int) (p0 : Int32) (p1 : Int32) (p2 : Int32) (p3 : Int32) (p4 : Int32) (p5 : Int32) (p6 : Int32) (nP : Int) (nH : Int) (hI : IC a u τ ln y g) (g3 : (y (a 6) 3).toInt = nP) (g5 : (y (a 6) 5).toInt = nH) (gn : (0 ≤ nP ∧ nP ≤ 5) ∧ 0 ≤ nH ∧ nH ≤ 3) (gp : vl nP (u 2) (y (a 41))) (gh : vl nH (u 1) (y (a 42))) (g9 : 0 ≤ (y (a 6) 9).toInt ∧ (y (a 6) 9).toInt ≤ 8) (hp0 : 0 ≤ p0.toInt) (hlen : p6.toInt = 4) : Met l yX7_goOn wm_c_goOn4 ({ frames := 10, cells := 0, slots := 0, locals := 600 }) (pw_ ad av (dC, dI) sz [.ref (a 6), .int p0, .int p1, .int p2, .int p3, .int p4, .int p5, .int p6] a k τ ln y g) (va_Qv (fun (_ : Unit) => True) (fun (_ : Unit) (t : State) => (∃ (y' : Nat → Nat → Int32), ag τ [16, 54, 55] y y' ∧ (y' (a 6) 3).toInt = (y (a 6) 3).toInt ∧ (y' (a 6) 5).toInt = (y (a 6) 5).toInt ∧ (0 ≤ (y' (a 6) 9).toInt ∧ (y' (a 6) 9).toInt ≤ 8) ∧ tw (dC, dI) a k τ ln y' g t.heap)) (fr τ sz)) 0 0 (fr τ sz) := by
  refine Met.ofW (cc := cX7_goOn) (maxL := 15) (ret := none) (by decide) rfl ?_
  intro p e s m args below meth c s₁ B hml hv
  obtain ⟨rfl, hsz, hT, hK, hM⟩ := hv
  have hx := B.exec
  have hb := B.bytes
  have hr := B.returns
  have hts := atoms_spec (ws := wm_c_goOn4) B.pre
  have hown : s.vm.findClass RX7 = some m.cls := findClass_of_methodNamed B.named
  have hlocks := B.notSynchronized
  subst hsz
  generalize hAe : fr τ s.heap.size = A at hM ⊢
  have hA : ∀ q : Nat, s.heap.size ≤ q → A q := fun q h => by rw [← hAe]; exact Or.inr h
  have hF : ∀ q, τ q ≠ 0 → A q := fun q h => by rw [← hAe]; exact Or.inl h
  have hS : va_S A s.heap s.heap [] := va_S.rf
  have hX := hI.1
  have hR := ic_r hI
  have hG : ag τ [16, 54, 55] y y := ag.rf
  have hl := lv_entry ([.ref (a 6), .int p0, .int p1, .int p2, .int p3, .int p4, .int p5, .int p6]) (n := 15) (Nat.le_of_ble_eq_true rfl)
  rw [lg_entry_eq]
  generalize (lg_sl ([.ref (a 6), .int p0, .int p1, .int p2, .int p3, .int p4, .int p5, .int p6]) ++ List.replicate (15 - (lg_sl ([.ref (a 6), .int p0, .int p1, .int p2, .int p3, .int p4, .int p5, .int p6])).length) Slot.unset).toArray = ls at hl ⊢
  have hl : lv_has ls 15 [(0, .ref (a 6)), (1, .int p0), (2, .int p1), (3, .int p2), (4, .int p3), (5, .int p4), (6, .int p5), (7, .int p6)] := hl
  refine lv_iload hx hb dX7_goOn_0 (lv_at hl 7 rfl) ?_
  refine lv_bipush (v := 8) hx hb dX7_goOn_2 (by decide) ?_
  refine lv_icmp_ge (tgt := 26) hx hb dX7_goOn_4 (by decide) (fun c_1 => ?_) (fun c_1 => ?_)
  · have nc_1 := z_le (zk (x := 8) 8 rfl) rfl c_1
    exact W.vret hx hb hr (fun t ht hW9 => ⟨⟨(), rfl, trivial, ⟨y, hG, by omega, by omega, by omega, tw_at ht hT⟩⟩, hS.F ht⟩) hS.2.2 dX7_goOn_26
  · have nc_1 := z_nle (zk (x := 8) 8 rfl) rfl c_1
    refine lv_iload_n hx hb dX7_goOn_7 rfl (lv_at hl 1 rfl) ?_
    refine lv_aload_n hx hb dX7_goOn_8 rfl (lv_at hl 0 rfl) ?_
    refine tw_get (D := (dC, dI)) (v := .int (y (a 6) 5)) (C := RX7) (T := TX7) (N := 13) hx hb hts (fun _ hh => (List.mem_cons_of_mem _ (List.mem_append_right _ (List.mem_append_left _ hh)))) hown hK hT (fx_6 hX) (by decide) cl_e16 rfl 5 (by decide) (hts (.fieldLink RX7 78 "TypingPool$Planner" "handCount" "I") (List.mem_cons_of_mem _ (List.mem_append_left _ (List.mem_of_getElem? (i := 0) rfl)))) (fun _ h9 => h9) rfl dX7_goOn_9 ?_
    refine lv_icmp_ge (tgt := 26) hx hb dX7_goOn_12 (by decide) (fun c_2 => ?_) (fun c_2 => ?_)
    · have nc_2 := z_le rfl rfl c_2
      exact W.vret hx hb hr (fun t ht hW9 => ⟨⟨(), rfl, trivial, ⟨y, hG, by omega, by omega, by omega, tw_at ht hT⟩⟩, hS.F ht⟩) hS.2.2 dX7_goOn_26
    · have nc_2 := z_nle rfl rfl c_2
      refine lv_aload_n hx hb dX7_goOn_15 rfl (lv_at hl 0 rfl) ?_
      refine lv_iload hx hb dX7_goOn_16 (lv_at hl 5 rfl) ?_
      refine lv_iload hx hb dX7_goOn_18 (lv_at hl 6 rfl) ?_
      have hFc := tw_free hF hS hA
      refine va_calli (va_runV (As := [.int p4, .int p5]) (rest := []) ⟨hx, hb, hml, hown, hts⟩ (c_isBetter l dC dI ad av s.heap.size a k τ ln y g u p4 p5 hI ) (cwV 2 hts (gi_4 (List.mem_cons_of_mem _ (List.mem_append_left _ (List.mem_of_getElem? (i := 1) rfl))) (List.mem_cons_of_mem _ (List.mem_append_left _ (List.mem_of_getElem? (i := 2) rfl))) (List.mem_cons_of_mem _ (List.mem_append_left _ (List.mem_of_getElem? (i := 3) rfl))) (List.mem_cons_of_mem _ (List.mem_append_left _ (List.mem_of_getElem? (i := 4) rfl))) (fun _ hh => (List.mem_cons_of_mem _ (List.mem_append_right _ (List.mem_append_right _ (List.mem_append_left _ hh))))) gd_c_isBetter) rfl rfl rfl (by decide +kernel) ⟨Nat.le_of_ble_eq_true rfl, Nat.le_of_ble_eq_true rfl⟩) ⟨pw_blind, tw_recv hK hT (fx_6 hX) (by decide) cl_e16 rfl, pw_use hT hK hFc hS hM⟩ rfl rfl hl.1 rfl (lv_room (Nat.le_of_ble_eq_true rfl)) dX7_goOn_20 ⟨Nat.le_of_ble_eq_true rfl, Nat.le_of_ble_eq_true rfl⟩) hS (fun q _ h => hFc q h) hFc (fun r0 r_3 t H locs ht hvm hw hB hz1 hk1 hS => ?_)
      refine W.widen (k := 0) (n := 0) (Nat.le_of_ble_eq_true rfl) (Nat.le_of_ble_eq_true rfl) ?_
      clear hvm hz1 hk1
      subst hw
      rcases hB with ⟨hre, hT⟩ | ⟨hre, hT⟩
      · refine lq_top (v := 1) hre ?_
        rw [ht] at hT
        refine lv_if_ne (tgt := 27) hx hb dX7_goOn_23 (by decide) (fun c_4 => ?_) (fun c_4 => absurd c_4 (by decide))
        refine lv_aload_n hx hb dX7_goOn_27 rfl (lv_at hl 0 rfl) ?_
        refine tw_get (D := (dC, dI)) (v := .ref (a 44)) (C := RX7) (T := TX7) (N := 13) hx hb hts (fun _ hh => (List.mem_cons_of_mem _ (List.mem_append_right _ (List.mem_append_left _ hh)))) hown hK hT (fx_6 hX) (by decide) cl_e16 rfl 7 (by decide) (hts (.fieldLink RX7 21 "TypingPool$Planner" "current" "[I") (List.mem_cons_of_mem _ (List.mem_append_left _ (List.mem_of_getElem? (i := 5) rfl)))) (fun _ h9 => h9) rfl dX7_goOn_28 ?_
        refine lv_iload hx hb dX7_goOn_31 (lv_at hl 7 rfl) ?_
        refine lv_iconst (v := (-1)) hx hb dX7_goOn_33 (by decide) ?_
        refine tw_iast hx hb hK hT hF hS 0 (fx_44 hX) (by decide) (fun _ => cl_e54) rfl (z_in rfl (by omega) (by omega)) dX7_goOn_34 (fun H locs hT hS => ?_)
        obtain ⟨y_5, hy_5, hT⟩ : ∃ z : Nat → Nat → Int32, z = up2 y (a 44) p6.toNatClampNeg (-1 : Int32) ∧ tw (dC, dI) a k τ ln z g H := ⟨_, rfl, hT⟩
        have hG : ag τ [16, 54, 55] y y_5 := by rw [hy_5]; exact hG.up (fx_44 hX) (by decide)
        have : (y_5 (a 6) 3).toInt = (y (a 6) 3).toInt := by rw [hy_5, up2_o (kd_ne (fx_6 hX) (fx_44 hX) (by decide))]
        have : (y_5 (a 6) 5).toInt = (y (a 6) 5).toInt := by rw [hy_5, up2_o (kd_ne (fx_6 hX) (fx_44 hX) (by decide))]
        have : (y_5 (a 6) 9).toInt = (y (a 6) 9).toInt := by rw [hy_5, up2_o (kd_ne (fx_6 hX) (fx_44 hX) (by decide))]
        have hI := hI.ag (S := [54]) (y' := y_5) (by rw [hy_5]; exact ag.one (fx_44 hX)) (by decide)
        refine lv_aload_n hx hb dX7_goOn_35 rfl (lv_at hl 0 rfl) ?_
        refine lv_iload_n hx hb dX7_goOn_36 rfl (lv_at hl 1 rfl) ?_
        refine lv_iconst (v := 1) hx hb dX7_goOn_37 (by decide) ?_
        refine lv_iadd hx hb dX7_goOn_38 ?_
        refine lv_topi (fun x_6 ex_6 => ?_)
        have hx_6 := z_add ex_6 rfl (zk (x := 1) 1 rfl) (by omega) (by omega)
        refine lv_iload_n hx hb dX7_goOn_39 rfl (lv_at hl 2 rfl) ?_
        refine lv_iload hx hb dX7_goOn_40 (lv_at hl 5 rfl) ?_
        refine lv_iload hx hb dX7_goOn_42 (lv_at hl 6 rfl) ?_
        refine lv_iload hx hb dX7_goOn_44 (lv_at hl 7 rfl) ?_
        refine lv_iconst (v := 1) hx hb dX7_goOn_46 (by decide) ?_
        refine lv_iadd hx hb dX7_goOn_47 ?_
        refine lv_topi (fun x_7 ex_7 => ?_)
        have hx_7 := z_add ex_7 rfl (zk (x := 1) 1 rfl) (by omega) (by omega)
        have hFc := tw_free hF hS hA
        refine va_callv (va_runV (As := [.int x_6, .int p1, .int p4, .int p5, .int x_7]) (rest := []) ⟨hx, hb, hml, hown, hts⟩ (c_beginHand5 l dC dI ad av H.size a k τ ln y_5 g u x_6 p1 p4 p5 x_7 nP nH hI (by omega) (by omega) gn (by rw [hG.at (fx_41 hX) (by decide)]; exact gp) (by rw [hG.at (fx_42 hX) (by decide)]; exact gh) (by omega) (by omega) (by omega)) (cwV 5 hts (gi_4 (List.mem_cons_of_mem _ (List.mem_append_left _ (List.mem_of_getElem? (i := 6) rfl))) (List.mem_cons_of_mem _ (List.mem_append_left _ (List.mem_of_getElem? (i := 7) rfl))) (List.mem_cons_of_mem _ (List.mem_append_left _ (List.mem_of_getElem? (i := 8) rfl))) (List.mem_cons_of_mem _ (List.mem_append_left _ (List.mem_of_getElem? (i := 4) rfl))) (fun _ hh => (List.mem_cons_of_mem _ (List.mem_append_right _ (List.mem_append_right _ (List.mem_append_right _ (List.mem_append_left _ hh)))))) gd_c_beginHand5) rfl rfl rfl (by decide +kernel) ⟨Nat.le_of_ble_eq_true rfl, Nat.le_of_ble_eq_true rfl⟩) ⟨pw_blind, tw_recv hK hT (fx_6 hX) (by decide) cl_e16 rfl, pw_use hT hK hFc hS hM⟩ rfl rfl hl.1 rfl (lv_room (Nat.le_of_ble_eq_true rfl)) dX7_goOn_48 ⟨Nat.le_of_ble_eq_true rfl, Nat.le_of_ble_eq_true rfl⟩) hS (fun q _ h => hFc q h) hFc (fun u0 t H locs ht hvm hw hB hz1 hk1 hS => ?_)
        refine W.widen (k := 0) (n := 0) (Nat.le_of_ble_eq_true rfl) (Nat.le_of_ble_eq_true rfl) ?_
        clear hvm hz1 hk1
        obtain ⟨y_9, hgy_9, hf_10, hf_11, hf_12, hT⟩ := hB
        rw [ht] at hT
        have hG := hG.tr hgy_9 (by decide)
        have hI := hI.ag hgy_9 (by decide)
        refine lv_aload_n hx hb dX7_goOn_51 rfl (lv_at hl 0 rfl) ?_
        refine tw_get (D := (dC, dI)) (v := .ref (a 42)) (C := RX7) (T := TX7) (N := 13) hx hb hts (fun _ hh => (List.mem_cons_of_mem _ (List.mem_append_right _ (List.mem_append_left _ hh)))) hown hK hT (fx_6 hX) (by decide) cl_e16 rfl 4 (by decide) (hts (.fieldLink RX7 15 "TypingPool$Planner" "hands" "[I") (List.mem_cons_of_mem _ (List.mem_append_left _ (List.mem_of_getElem? (i := 9) rfl)))) (fun _ h9 => h9) rfl dX7_goOn_52 ?_
        refine lv_iload_n hx hb dX7_goOn_55 rfl (lv_at hl 1 rfl) ?_
        refine tw_iald hx hb hK hT 0 (fx_42 hX) (by decide) cl_e52 rfl (z_in rfl (by omega) (by omega)) dX7_goOn_56 ?_
        have hv0 : vl nH (u 1) (y_9 (a 42)) := (by rw [hG.at (fx_42 hX) (by decide)]; exact gh)
        have hv_13 := vl_at hv0 (x := p0) rfl (by omega) (by omega)
        refine lv_istore (lv' := [(8, .int (y_9 (a 42) p0.toNatClampNeg)), (0, .ref (a 6)), (1, .int p0), (2, .int p1), (3, .int p2), (4, .int p3), (5, .int p4), (6, .int p5), (7, .int p6)]) hx hb dX7_goOn_57 hl (by decide) rfl (fun ls hl => ?_)
        refine lv_iconst (v := 0) hx hb dX7_goOn_59 (by decide) ?_
        refine lv_istore (lv' := [(9, .int 0), (8, .int (y_9 (a 42) p0.toNatClampNeg)), (0, .ref (a 6)), (1, .int p0), (2, .int p1), (3, .int p2), (4, .int p3), (5, .int p4), (6, .int p5), (7, .int p6)]) hx hb dX7_goOn_60 hl (by decide) rfl (fun ls hl => ?_)
        have loop_62 : ∀ (n : Nat) (i9 : Int32) (y_L62 : Nat → Nat → Int32) (H : Heap) (locs : List Loc) (ls : Array Slot), (nP - i9.toInt).toNat < n → ag τ [16, 54, 55] y y_L62 → IC a u τ ln y_L62 g → 0 ≤ i9.toInt → i9.toInt ≤ nP → (y_L62 (a 6) 3).toInt = nP → (y_L62 (a 6) 5).toInt = nH → 0 ≤ (y_L62 (a 6) 9).toInt ∧ (y_L62 (a 6) 9).toInt ≤ 8 → tw (dC, dI) a k τ ln y_L62 g H → va_S A s.heap H locs → lv_has ls 15 [(0, .ref (a 6)), (1, .int p0), (2, .int p1), (3, .int p2), (4, .int p3), (5, .int p4), (6, .int p5), (7, .int p6), (8, .int (y_9 (a 42) p0.toNatClampNeg)), (9, .int i9)] → W p l e (headSpec wm_c_goOn4 ({ frames := 10, cells := 0, slots := 0, locals := 600 })).room s m ([.ref (a 6), .int p0, .int p1, .int p2, .int p3, .int p4, .int p5, .int p6] : List Value).toArray below meth c H locs 0 0 (MQ below (va_Qv (fun (_ : Unit) => True) (fun (_ : Unit) (t : State) => (∃ (y' : Nat → Nat → Int32), ag τ [16, 54, 55] y y' ∧ (y' (a 6) 3).toInt = (y (a 6) 3).toInt ∧ (y' (a 6) 5).toInt = (y (a 6) 5).toInt ∧ (0 ≤ (y' (a 6) 9).toInt ∧ (y' (a 6) 9).toInt ≤ 8) ∧ tw (dC, dI) a k τ ln y' g t.heap)) A) ([.ref (a 6), .int p0, .int p1, .int p2, .int p3, .int p4, .int p5, .int p6] : List Value).toArray s 0 0 A) (F0 m 62 ls []) := by
          intro n
          induction n with
          | zero => intro i9 y_L62 H locs ls hlt; exact absurd hlt (Nat.not_lt_zero _)
          | succ n ih_62 =>
            intro i9 y_L62 H locs ls hlt hG hI hi62_0 hi62_1 hi62_2 hi62_3 hi62_4 hT hS hl
            refine lv_iload hx hb dX7_goOn_62 (lv_at hl 9 rfl) ?_
            refine lv_aload_n hx hb dX7_goOn_64 rfl (lv_at hl 0 rfl) ?_
            refine tw_get (D := (dC, dI)) (v := .int (y_L62 (a 6) 3)) (C := RX7) (T := TX7) (N := 13) hx hb hts (fun _ hh => (List.mem_cons_of_mem _ (List.mem_append_right _ (List.mem_append_left _ hh)))) hown hK hT (fx_6 hX) (by decide) cl_e16 rfl 3 (by decide) (hts (.fieldLink RX7 42 "TypingPool$Planner" "pieceCount" "I") (List.mem_cons_of_mem _ (List.mem_append_left _ (List.mem_of_getElem? (i := 10) rfl)))) (fun _ h9 => h9) rfl dX7_goOn_65 ?_
            refine lv_icmp_ge (tgt := 220) hx hb dX7_goOn_68 (by decide) (fun c_14 => ?_) (fun c_14 => ?_)
            · have nc_14 := z_le rfl rfl c_14
              exact W.vret hx hb hr (fun t ht hW9 => ⟨⟨(), rfl, trivial, ⟨y_L62, hG, by omega, by omega, by omega, tw_at ht hT⟩⟩, hS.F ht⟩) hS.2.2 dX7_goOn_220
            · have nc_14 := z_nle rfl rfl c_14
              refine lv_iload_n hx hb dX7_goOn_71 rfl (lv_at hl 2 rfl) ?_
              refine lv_aload_n hx hb dX7_goOn_72 rfl (lv_at hl 0 rfl) ?_
              refine tw_get (D := (dC, dI)) (v := .ref (a 43)) (C := RX7) (T := TX7) (N := 13) hx hb hts (fun _ hh => (List.mem_cons_of_mem _ (List.mem_append_right _ (List.mem_append_left _ hh)))) hown hK hT (fx_6 hX) (by decide) cl_e16 rfl 6 (by decide) (hts (.fieldLink RX7 18 "TypingPool$Planner" "allowed" "[I") (List.mem_cons_of_mem _ (List.mem_append_left _ (List.mem_of_getElem? (i := 11) rfl)))) (fun _ h9 => h9) rfl dX7_goOn_73 ?_
              refine lv_iload_n hx hb dX7_goOn_76 rfl (lv_at hl 1 rfl) ?_
              refine tw_iald hx hb hK hT 0 (fx_43 hX) (by decide) cl_e53 rfl (z_in rfl (by omega) (by omega)) dX7_goOn_77 ?_
              refine lv_iand hx hb dX7_goOn_78 ?_
              refine lv_topi (fun x_15 ex_15 => ?_)
              refine lv_iload hx hb dX7_goOn_79 (lv_at hl 9 rfl) ?_
              refine lv_ishr hx hb dX7_goOn_81 ?_
              refine lv_topi (fun x_16 ex_16 => ?_)
              refine lv_iconst (v := 1) hx hb dX7_goOn_82 (by decide) ?_
              refine lv_iand hx hb dX7_goOn_83 ?_
              refine lv_topi (fun x_17 ex_17 => ?_)
              have hx_17 := z_and (x := x_16) (zk (x := 1) 1 rfl) (by omega)
              rw [← ex_17] at hx_17
              refine lv_iconst (v := 1) hx hb dX7_goOn_84 (by decide) ?_
              refine lv_icmp_ne (tgt := 214) hx hb dX7_goOn_85 (by decide) (fun c_18 => ?_) (fun c_18 => ?_)
              · have nc_18 := z_ne rfl (zk (x := 1) 1 rfl) c_18
                obtain ⟨x_19, ex_19⟩ : ∃ y : Int32, y = i9 + Int32.ofInt 1 := ⟨_, rfl⟩
                have hx_19 := z_add ex_19 rfl (zk (x := Int32.ofInt 1) 1 rfl) (by omega) (by omega)
                refine lv_iinc (v := x_19) (lv' := [(9, .int x_19), (0, .ref (a 6)), (1, .int p0), (2, .int p1), (3, .int p2), (4, .int p3), (5, .int p4), (6, .int p5), (7, .int p6), (8, .int (y_9 (a 42) p0.toNatClampNeg))]) hx hb dX7_goOn_214 hl (k := 9) rfl ex_19.symm (by decide) rfl (fun ls hl => ?_)
                refine lv_goto (tgt := 62) hx hb dX7_goOn_217 (by decide) ?_
                exact ih_62  x_19 y_L62 H _ ls (by omega) hG hI (by omega) (by omega) (by omega) (by omega) (by omega) hT hS (lv_sub hl [1, 2, 3, 4, 5, 6, 7, 8, 9, 0] rfl)
              · have nc_18 := z_eq rfl (zk (x := 1) 1 rfl) c_18
                refine lv_aload_n hx hb dX7_goOn_88 rfl (lv_at hl 0 rfl) ?_
                refine tw_get (D := (dC, dI)) (v := .ref (a 41)) (C := RX7) (T := TX7) (N := 13) hx hb hts (fun _ hh => (List.mem_cons_of_mem _ (List.mem_append_right _ (List.mem_append_left _ hh)))) hown hK hT (fx_6 hX) (by decide) cl_e16 rfl 2 (by decide) (hts (.fieldLink RX7 9 "TypingPool$Planner" "pieces" "[I") (List.mem_cons_of_mem _ (List.mem_append_left _ (List.mem_of_getElem? (i := 12) rfl)))) (fun _ h9 => h9) rfl dX7_goOn_89 ?_
                refine lv_iload hx hb dX7_goOn_92 (lv_at hl 9 rfl) ?_
                refine tw_iald hx hb hK hT 0 (fx_41 hX) (by decide) cl_e51 rfl (z_in rfl (by omega) (by omega)) dX7_goOn_94 ?_
                have hv0 : vl nP (u 2) (y_L62 (a 41)) := (by rw [hG.at (fx_41 hX) (by decide)]; exact gp)
                have hv_20 := vl_at hv0 (x := i9) rfl (by omega) (by omega)
                refine lv_istore (lv' := [(10, .int (y_L62 (a 41) i9.toNatClampNeg)), (0, .ref (a 6)), (1, .int p0), (2, .int p1), (3, .int p2), (4, .int p3), (5, .int p4), (6, .int p5), (7, .int p6), (8, .int (y_9 (a 42) p0.toNatClampNeg)), (9, .int i9)]) hx hb dX7_goOn_95 hl (by decide) rfl (fun ls hl => ?_)
                refine lv_aload_n hx hb dX7_goOn_97 rfl (lv_at hl 1 rfl) ?_
                refine tw_get (D := (dC, dI)) (v := .ref (a 1)) (C := RX7) (T := TX7) (N := 13) hx hb hts (fun _ hh => (List.mem_cons_of_mem _ (List.mem_append_right _ (List.mem_append_left _ hh)))) hown hK hT (fx_6 hX) (by decide) cl_e16 rfl 0 (by decide) (hts (.fieldLink RX7 27 "TypingPool$Planner" "book" "LTypingPool$Book;") (List.mem_cons_of_mem _ (List.mem_append_left _ (List.mem_of_getElem? (i := 13) rfl)))) (fun _ h9 => h9) rfl dX7_goOn_98 ?_
                refine tw_get (D := (dC, dI)) (v := .ref (a 11)) (C := RX1) (T := TX1) (N := 8) hx hb hts (fun _ hh => (List.mem_cons_of_mem _ (List.mem_append_right _ (List.mem_append_right _ (List.mem_append_right _ (List.mem_append_right _ (List.mem_append_left _ hh))))))) hown hK hT (fx_1 hX) (by decide) cl_e11 rfl 4 (by decide) (hts (.fieldLink RX7 115 "TypingPool$Book" "pieces" "[LTypingPool$Piece;") (List.mem_cons_of_mem _ (List.mem_append_left _ (List.mem_of_getElem? (i := 14) rfl)))) (fun _ h9 => h9) rfl dX7_goOn_101 ?_
                refine lv_iload hx hb dX7_goOn_104 (lv_at hl 0 rfl) ?_
                refine tw_aald hx hb hK hT 4 (fx_11 hX) (by decide) cl_e21 rfl (z_in rfl (by omega) (by omega)) dX7_goOn_106 ?_
                obtain ⟨q_21, hgq_21, htq_21⟩ := ic_l11 hI (x := (y_L62 (a 41) i9.toNatClampNeg)) rfl (by omega) (by omega)
                refine lq_topr hgq_21 ?_
                refine lv_astore (lv' := [(11, .ref q_21), (10, .int (y_L62 (a 41) i9.toNatClampNeg)), (0, .ref (a 6)), (1, .int p0), (2, .int p1), (3, .int p2), (4, .int p3), (5, .int p4), (6, .int p5), (7, .int p6), (8, .int (y_9 (a 42) p0.toNatClampNeg)), (9, .int i9)]) hx hb dX7_goOn_107 hl (by decide) rfl (fun ls hl => ?_)
                refine lv_aload hx hb dX7_goOn_109 (lv_at hl 0 rfl) ?_
                have hFc := tw_free hF hS hA
                refine va_calli (va_runV (As := []) (rest := []) ⟨hx, hb, hml, hown, hts⟩ (c_allWork l dC dI ad av H.size a k τ ln y_L62 g u q_21 hI htq_21) (cwV 0 hts (gi_4 (List.mem_cons_of_mem _ (List.mem_append_left _ (List.mem_of_getElem? (i := 15) rfl))) (List.mem_cons_of_mem _ (List.mem_append_left _ (List.mem_of_getElem? (i := 16) rfl))) (List.mem_cons_of_mem _ (List.mem_append_left _ (List.mem_of_getElem? (i := 17) rfl))) (List.mem_cons_of_mem _ (List.mem_append_left _ (List.mem_of_getElem? (i := 18) rfl))) (fun _ hh => (List.mem_cons_of_mem _ (List.mem_append_right _ (List.mem_append_right _ (List.mem_append_right _ (List.mem_append_right _ (List.mem_append_right _ (List.mem_append_left _ hh)))))))) gd_c_allWork) rfl rfl rfl (by decide +kernel) ⟨Nat.le_of_ble_eq_true rfl, Nat.le_of_ble_eq_true rfl⟩) ⟨pw_blind, tw_recv hK hT htq_21 (by decide) cl_e2 rfl, pw_use hT hK hFc hS hM⟩ rfl rfl hl.1 rfl (lv_room (Nat.le_of_ble_eq_true rfl)) dX7_goOn_111 ⟨Nat.le_of_ble_eq_true rfl, Nat.le_of_ble_eq_true rfl⟩) hS (fun q _ h => hFc q h) hFc (fun r0 r_22 t H locs ht hvm hw hB hz1 hk1 hS => ?_)
                refine W.widen (k := 0) (n := 0) (Nat.le_of_ble_eq_true rfl) (Nat.le_of_ble_eq_true rfl) ?_
                clear hvm hz1 hk1
                subst hw
                have hT := hB
                rw [ht] at hT
                refine lv_aload_n hx hb dX7_goOn_114 rfl (lv_at hl 2 rfl) ?_
                refine tw_get (D := (dC, dI)) (v := .ref (a 3)) (C := RX7) (T := TX7) (N := 13) hx hb hts (fun _ hh => (List.mem_cons_of_mem _ (List.mem_append_right _ (List.mem_append_left _ hh)))) hown hK hT (fx_6 hX) (by decide) cl_e16 rfl 1 (by decide) (hts (.fieldLink RX7 31 "TypingPool$Planner" "floor" "LTypingPool$Floor;") (List.mem_cons_of_mem _ (List.mem_append_left _ (List.mem_of_getElem? (i := 19) rfl)))) (fun _ h9 => h9) rfl dX7_goOn_115 ?_
                refine lv_iload hx hb dX7_goOn_118 (lv_at hl 10 rfl) ?_
                refine lv_iload hx hb dX7_goOn_120 (lv_at hl 1 rfl) ?_
                refine lv_iload hx hb dX7_goOn_122 (lv_at hl 6 rfl) ?_
                have hFc := tw_free hF hS hA
                refine va_calli (va_runV (As := [.int (y_9 (a 42) p0.toNatClampNeg), .int (y_L62 (a 41) i9.toNatClampNeg), .int p3]) (rest := [.int r_22]) ⟨hx, hb, hml, hown, hts⟩ (c_rateFor l dC dI ad av H.size a k τ ln y_L62 g u (y_9 (a 42) p0.toNatClampNeg) (y_L62 (a 41) i9.toNatClampNeg) p3 hI (by omega) (by omega) (by omega) (by omega)) (cwV 3 hts (gi_4 (List.mem_cons_of_mem _ (List.mem_append_left _ (List.mem_of_getElem? (i := 20) rfl))) (List.mem_cons_of_mem _ (List.mem_append_left _ (List.mem_of_getElem? (i := 21) rfl))) (List.mem_cons_of_mem _ (List.mem_append_left _ (List.mem_of_getElem? (i := 22) rfl))) (List.mem_cons_of_mem _ (List.mem_append_left _ (List.mem_of_getElem? (i := 23) rfl))) (fun _ hh => (List.mem_cons_of_mem _ (List.mem_append_right _ (List.mem_append_right _ (List.mem_append_right _ (List.mem_append_right _ (List.mem_append_right _ (List.mem_append_right _ (List.mem_append_left _ hh))))))))) gd_c_rateFor) rfl rfl rfl (by decide +kernel) ⟨Nat.le_of_ble_eq_true rfl, Nat.le_of_ble_eq_true rfl⟩) ⟨pw_blind, tw_recv hK hT (fx_3 hX) (by decide) cl_e13 rfl, pw_use hT hK hFc hS hM⟩ rfl rfl hl.1 rfl (lv_room (Nat.le_of_ble_eq_true rfl)) dX7_goOn_124 ⟨Nat.le_of_ble_eq_true rfl, Nat.le_of_ble_eq_true rfl⟩) hS (fun q _ h => hFc q h) hFc (fun r0 r_23 t H locs ht hvm hw hB hz1 hk1 hS => ?_)
                refine W.widen (k := 0) (n := 0) (Nat.le_of_ble_eq_true rfl) (Nat.le_of_ble_eq_true rfl) ?_
                clear hvm hz1 hk1
                subst hw
                have hT := hB
                rw [ht] at hT
                have hFc := tw_free hF hS hA
                refine va_calli (va_runSN (As := [.int r_22, .int r_23]) (rest := []) ⟨hx, hb, hml, hown, hts⟩ (c_minutesFor l dC dI ad av H.size a k τ ln y_L62 g u r_22 r_23  ) ⟨va_cnB 2 hts (gi_0  (fun _ hh => (List.mem_cons_of_mem _ (List.mem_append_right _ (List.mem_append_right _ (List.mem_append_right _ (List.mem_append_right _ (List.mem_append_right _ (List.mem_append_right _ (List.mem_append_right _ (List.mem_append_left _ hh)))))))))) gd_c_minutesFor) rfl rfl rfl hM.1.2.2.2.1 (hts (.initialized RX11) (List.mem_cons_of_mem _ (List.mem_append_left _ (List.mem_of_getElem? (i := 24) rfl)))) (by decide +kernel) ⟨Nat.le_of_ble_eq_true rfl, Nat.le_of_ble_eq_true rfl⟩, (hts (.static yX11_minutesFor) (List.mem_cons_of_mem _ (List.mem_append_left _ (List.mem_of_getElem? (i := 25) rfl)))), trivial⟩ ⟨pw_blind, pw_use hT hK hFc hS hM⟩ rfl rfl hl.1 rfl (lv_room (Nat.le_of_ble_eq_true rfl)) dX7_goOn_127 ⟨Nat.le_of_ble_eq_true rfl, Nat.le_of_ble_eq_true rfl⟩) hS (fun q _ h => hFc q h) hFc (fun r0 r_24 t H locs ht hvm hw hB hz1 hk1 hS => ?_)
                refine W.widen (k := 0) (n := 0) (Nat.le_of_ble_eq_true rfl) (Nat.le_of_ble_eq_true rfl) ?_
                clear hvm hz1 hk1
                subst hw
                have hT := hB
                rw [ht] at hT
                refine lv_istore (lv' := [(12, .int r_24), (11, .ref q_21), (10, .int (y_L62 (a 41) i9.toNatClampNeg)), (0, .ref (a 6)), (1, .int p0), (2, .int p1), (3, .int p2), (4, .int p3), (5, .int p4), (6, .int p5), (7, .int p6), (8, .int (y_9 (a 42) p0.toNatClampNeg)), (9, .int i9)]) hx hb dX7_goOn_130 hl (by decide) rfl (fun ls hl => ?_)
                refine lv_aload_n hx hb dX7_goOn_132 rfl (lv_at hl 3 rfl) ?_
                refine tw_get (D := (dC, dI)) (v := .ref (a 1)) (C := RX7) (T := TX7) (N := 13) hx hb hts (fun _ hh => (List.mem_cons_of_mem _ (List.mem_append_right _ (List.mem_append_left _ hh)))) hown hK hT (fx_6 hX) (by decide) cl_e16 rfl 0 (by decide) (hts (.fieldLink RX7 27 "TypingPool$Planner" "book" "LTypingPool$Book;") (List.mem_cons_of_mem _ (List.mem_append_left _ (List.mem_of_getElem? (i := 13) rfl)))) (fun _ h9 => h9) rfl dX7_goOn_133 ?_
                refine lv_iload hx hb dX7_goOn_136 (lv_at hl 11 rfl) ?_
                refine lv_iload_n hx hb dX7_goOn_138 rfl (lv_at hl 6 rfl) ?_
                refine lv_iload hx hb dX7_goOn_139 (lv_at hl 0 rfl) ?_
                have hFc := tw_free hF hS hA
                refine va_calli (va_runV (As := [.int (y_9 (a 42) p0.toNatClampNeg), .int p2, .int r_24]) (rest := []) ⟨hx, hb, hml, hown, hts⟩ (c_minuteAfterWork l dC dI ad av H.size a k τ ln y_L62 g u (y_9 (a 42) p0.toNatClampNeg) p2 r_24 hI ) (cwV 3 hts (gi_4 (List.mem_cons_of_mem _ (List.mem_append_left _ (List.mem_of_getElem? (i := 26) rfl))) (List.mem_cons_of_mem _ (List.mem_append_left _ (List.mem_of_getElem? (i := 27) rfl))) (List.mem_cons_of_mem _ (List.mem_append_left _ (List.mem_of_getElem? (i := 28) rfl))) (List.mem_cons_of_mem _ (List.mem_append_left _ (List.mem_of_getElem? (i := 29) rfl))) (fun _ hh => (List.mem_cons_of_mem _ (List.mem_append_right _ (List.mem_append_right _ (List.mem_append_right _ (List.mem_append_right _ (List.mem_append_right _ (List.mem_append_right _ (List.mem_append_right _ (List.mem_append_right _ (List.mem_append_left _ hh))))))))))) gd_c_minuteAfterWork) rfl rfl rfl (by decide +kernel) ⟨Nat.le_of_ble_eq_true rfl, Nat.le_of_ble_eq_true rfl⟩) ⟨pw_blind, tw_recv hK hT (fx_1 hX) (by decide) cl_e11 rfl, pw_use hT hK hFc hS hM⟩ rfl rfl hl.1 rfl (lv_room (Nat.le_of_ble_eq_true rfl)) dX7_goOn_141 ⟨Nat.le_of_ble_eq_true rfl, Nat.le_of_ble_eq_true rfl⟩) hS (fun q _ h => hFc q h) hFc (fun r0 r_25 t H locs ht hvm hw hB hz1 hk1 hS => ?_)
                refine W.widen (k := 0) (n := 0) (Nat.le_of_ble_eq_true rfl) (Nat.le_of_ble_eq_true rfl) ?_
                clear hvm hz1 hk1
                subst hw
                have hT := hB
                rw [ht] at hT
                refine lv_istore (lv' := [(13, .int r_25), (12, .int r_24), (11, .ref q_21), (10, .int (y_L62 (a 41) i9.toNatClampNeg)), (0, .ref (a 6)), (1, .int p0), (2, .int p1), (3, .int p2), (4, .int p3), (5, .int p4), (6, .int p5), (7, .int p6), (8, .int (y_9 (a 42) p0.toNatClampNeg)), (9, .int i9)]) hx hb dX7_goOn_144 hl (by decide) rfl (fun ls hl => ?_)
                refine lv_iconst (v := 0) hx hb dX7_goOn_146 (by decide) ?_
                refine lv_iload hx hb dX7_goOn_147 (lv_at hl 0 rfl) ?_
                refine lv_aload hx hb dX7_goOn_149 (lv_at hl 2 rfl) ?_
                refine tw_get (D := (dC, dI)) (v := .int (y_L62 q_21 6)) (C := RX6) (T := TX6) (N := 11) hx hb hts (fun _ hh => (List.mem_cons_of_mem _ (List.mem_append_right _ (List.mem_append_right _ (List.mem_append_right _ (List.mem_append_right _ (List.mem_append_right _ (List.mem_append_right _ (List.mem_append_right _ (List.mem_append_right _ (List.mem_append_right _ (List.mem_append_left _ hh)))))))))))) hown hK hT htq_21 (by decide) cl_e2 rfl 6 (by decide) (hts (.fieldLink RX7 136 "TypingPool$Piece" "due" "I") (List.mem_cons_of_mem _ (List.mem_append_left _ (List.mem_of_getElem? (i := 30) rfl)))) (fun _ h9 => h9) rfl dX7_goOn_151 ?_
                refine lv_isub hx hb dX7_goOn_154 ?_
                refine lv_topi (fun x_26 ex_26 => ?_)
                refine va_mmax hx hb (by rw [hml]; exact hl.1.symm) hown (hts (.methodLink RX7 139 Lib.Math.max.name) (List.mem_cons_of_mem _ (List.mem_append_left _ (List.mem_of_getElem? (i := 31) rfl)))) (hts (.static Lib.Math.max.name) (List.mem_cons_of_mem _ (List.mem_append_left _ (List.mem_of_getElem? (i := 32) rfl)))) (hts (.initialized "java/lang/Math") (List.mem_cons_of_mem _ (List.mem_append_left _ (List.mem_of_getElem? (i := 33) rfl)))) (hts (.code Lib.Math.max.name Lib.Math.max.code 2 (some .int)) (List.mem_cons_of_mem _ (List.mem_append_left _ (List.mem_of_getElem? (i := 34) rfl)))) (Nat.le_of_ble_eq_true rfl) (Nat.le_of_ble_eq_true rfl) (Nat.le_of_ble_eq_true rfl) (Nat.le_of_ble_eq_true rfl) dX7_goOn_155 ?_
                refine lv_topi (fun x_27 ex_27 => ?_)
                have hx_27 := z_max ex_27 (zk (x := 0) 0 rfl) rfl
                refine lv_istore (lv' := [(14, .int x_27), (13, .int r_25), (12, .int r_24), (11, .ref q_21), (10, .int (y_L62 (a 41) i9.toNatClampNeg)), (0, .ref (a 6)), (1, .int p0), (2, .int p1), (3, .int p2), (4, .int p3), (5, .int p4), (6, .int p5), (7, .int p6), (8, .int (y_9 (a 42) p0.toNatClampNeg)), (9, .int i9)]) hx hb dX7_goOn_158 hl (by decide) rfl (fun ls hl => ?_)
                refine lv_aload_n hx hb dX7_goOn_160 rfl (lv_at hl 5 rfl) ?_
                refine tw_get (D := (dC, dI)) (v := .ref (a 44)) (C := RX7) (T := TX7) (N := 13) hx hb hts (fun _ hh => (List.mem_cons_of_mem _ (List.mem_append_right _ (List.mem_append_left _ hh)))) hown hK hT (fx_6 hX) (by decide) cl_e16 rfl 7 (by decide) (hts (.fieldLink RX7 21 "TypingPool$Planner" "current" "[I") (List.mem_cons_of_mem _ (List.mem_append_left _ (List.mem_of_getElem? (i := 5) rfl)))) (fun _ h9 => h9) rfl dX7_goOn_161 ?_
                refine lv_iload hx hb dX7_goOn_164 (lv_at hl 12 rfl) ?_
                refine lv_iload hx hb dX7_goOn_166 (lv_at hl 4 rfl) ?_
                refine tw_iast hx hb hK hT hF hS 0 (fx_44 hX) (by decide) (fun _ => cl_e54) rfl (z_in rfl (by omega) (by omega)) dX7_goOn_168 (fun H locs hT hS => ?_)
                obtain ⟨y_28, hy_28, hT⟩ : ∃ z : Nat → Nat → Int32, z = up2 y_L62 (a 44) p6.toNatClampNeg (y_L62 (a 41) i9.toNatClampNeg) ∧ tw (dC, dI) a k τ ln z g H := ⟨_, rfl, hT⟩
                have hG : ag τ [16, 54, 55] y y_28 := by rw [hy_28]; exact hG.up (fx_44 hX) (by decide)
                have : (y_28 (a 6) 3).toInt = (y_L62 (a 6) 3).toInt := by rw [hy_28, up2_o (kd_ne (fx_6 hX) (fx_44 hX) (by decide))]
                have : (y_28 (a 6) 5).toInt = (y_L62 (a 6) 5).toInt := by rw [hy_28, up2_o (kd_ne (fx_6 hX) (fx_44 hX) (by decide))]
                have : (y_28 (a 6) 9).toInt = (y_L62 (a 6) 9).toInt := by rw [hy_28, up2_o (kd_ne (fx_6 hX) (fx_44 hX) (by decide))]
                have hI := hI.ag (S := [54]) (y' := y_28) (by rw [hy_28]; exact ag.one (fx_44 hX)) (by decide)
                refine lv_aload_n hx hb dX7_goOn_169 rfl (lv_at hl 5 rfl) ?_
                refine lv_iload_n hx hb dX7_goOn_170 rfl (lv_at hl 6 rfl) ?_
                refine lv_iload_n hx hb dX7_goOn_171 rfl (lv_at hl 7 rfl) ?_
                refine lv_iconst (v := 1) hx hb dX7_goOn_172 (by decide) ?_
                refine lv_iload hx hb dX7_goOn_173 (lv_at hl 14 rfl) ?_
                refine lv_ishl hx hb dX7_goOn_175 ?_
                refine lv_topi (fun x_29 ex_29 => ?_)
                refine lv_iconst (v := (-1)) hx hb dX7_goOn_176 (by decide) ?_
                refine lv_ixor hx hb dX7_goOn_177 ?_
                refine lv_topi (fun x_30 ex_30 => ?_)
                refine lv_iand hx hb dX7_goOn_178 ?_
                refine lv_topi (fun x_31 ex_31 => ?_)
                refine lv_iload hx hb dX7_goOn_179 (lv_at hl 1 rfl) ?_
                refine lv_iload hx hb dX7_goOn_181 (lv_at hl 9 rfl) ?_
                refine lv_aload hx hb dX7_goOn_183 (lv_at hl 3 rfl) ?_
                refine tw_get (D := (dC, dI)) (v := .int (y_28 q_21 7)) (C := RX6) (T := TX6) (N := 11) hx hb hts (fun _ hh => (List.mem_cons_of_mem _ (List.mem_append_right _ (List.mem_append_right _ (List.mem_append_right _ (List.mem_append_right _ (List.mem_append_right _ (List.mem_append_right _ (List.mem_append_right _ (List.mem_append_right _ (List.mem_append_right _ (List.mem_append_left _ hh)))))))))))) hown hK hT htq_21 (by decide) cl_e2 rfl 7 (by decide) (hts (.fieldLink RX7 118 "TypingPool$Piece" "words" "I") (List.mem_cons_of_mem _ (List.mem_append_left _ (List.mem_of_getElem? (i := 35) rfl)))) (fun _ h9 => h9) rfl dX7_goOn_185 ?_
                refine lv_ior hx hb dX7_goOn_188 ?_
                refine lv_topi (fun x_32 ex_32 => ?_)
                refine lv_iload hx hb dX7_goOn_189 (lv_at hl 10 rfl) ?_
                refine lv_iload hx hb dX7_goOn_191 (lv_at hl 0 rfl) ?_
                refine lv_if_le (tgt := 200) hx hb dX7_goOn_193 (by decide) (fun c_33 => ?_) (fun c_33 => ?_)
                · have nc_33 := z_le rfl (zk (x := 0) 0 rfl) c_33
                  refine lv_iconst (v := 0) hx hb dX7_goOn_200 (by decide) ?_
                  refine lv_iadd hx hb dX7_goOn_201 ?_
                  refine lv_topi (fun x_34 ex_34 => ?_)
                  refine lv_iload hx hb dX7_goOn_202 (lv_at hl 11 rfl) ?_
                  refine lv_iload hx hb dX7_goOn_204 (lv_at hl 0 rfl) ?_
                  refine lv_iadd hx hb dX7_goOn_206 ?_
                  refine lv_topi (fun x_35 ex_35 => ?_)
                  refine lv_iload hx hb dX7_goOn_207 (lv_at hl 12 rfl) ?_
                  refine lv_iconst (v := 1) hx hb dX7_goOn_209 (by decide) ?_
                  refine lv_iadd hx hb dX7_goOn_210 ?_
                  refine lv_topi (fun x_36 ex_36 => ?_)
                  have hx_36 := z_add ex_36 rfl (zk (x := 1) 1 rfl) (by omega) (by omega)
                  have hFc := tw_free hF hS hA
                  refine va_callv (va_runV (As := [.int p0, .int x_31, .int r_25, .int x_32, .int x_34, .int x_35, .int x_36]) (rest := []) ⟨hx, hb, hml, hown, hts⟩ (c_goOn5 l dC dI ad av H.size a k τ ln y_28 g u p0 x_31 r_25 x_32 x_34 x_35 x_36 nP nH hI (by omega) (by omega) gn (by rw [hG.at (fx_41 hX) (by decide)]; exact gp) (by rw [hG.at (fx_42 hX) (by decide)]; exact gh) (by omega) (by omega) (by omega)) (cwV 7 hts (gi_4 (List.mem_cons_of_mem _ (List.mem_append_left _ (List.mem_of_getElem? (i := 36) rfl))) (List.mem_cons_of_mem _ (List.mem_append_left _ (List.mem_of_getElem? (i := 37) rfl))) (List.mem_cons_of_mem _ (List.mem_append_left _ (List.mem_of_getElem? (i := 38) rfl))) (List.mem_cons_of_mem _ (List.mem_append_left _ (List.mem_of_getElem? (i := 4) rfl))) (fun _ hh => (List.mem_cons_of_mem _ (List.mem_append_right _ (List.mem_append_right _ (List.mem_append_right _ (List.mem_append_right _ (List.mem_append_right _ (List.mem_append_right _ (List.mem_append_right _ (List.mem_append_right _ (List.mem_append_right _ (List.mem_append_right _ (List.mem_append_left _ hh))))))))))))) gd_c_goOn5) rfl rfl rfl (by decide +kernel) ⟨Nat.le_of_ble_eq_true rfl, Nat.le_of_ble_eq_true rfl⟩) ⟨pw_blind, tw_recv hK hT (fx_6 hX) (by decide) cl_e16 rfl, pw_use hT hK hFc hS hM⟩ rfl rfl hl.1 rfl (lv_room (Nat.le_of_ble_eq_true rfl)) dX7_goOn_211 ⟨Nat.le_of_ble_eq_true rfl, Nat.le_of_ble_eq_true rfl⟩) hS (fun q _ h => hFc q h) hFc (fun u0 t H locs ht hvm hw hB hz1 hk1 hS => ?_)
                  refine W.widen (k := 0) (n := 0) (Nat.le_of_ble_eq_true rfl) (Nat.le_of_ble_eq_true rfl) ?_
                  clear hvm hz1 hk1
                  obtain ⟨y_38, hgy_38, hf_39, hf_40, hf_41, hT⟩ := hB
                  rw [ht] at hT
                  have hG := hG.tr hgy_38 (by decide)
                  have hI := hI.ag hgy_38 (by decide)
                  obtain ⟨x_42, ex_42⟩ : ∃ y : Int32, y = i9 + Int32.ofInt 1 := ⟨_, rfl⟩
                  have hx_42 := z_add ex_42 rfl (zk (x := Int32.ofInt 1) 1 rfl) (by omega) (by omega)
                  refine lv_iinc (v := x_42) (lv' := [(9, .int x_42), (14, .int x_27), (13, .int r_25), (12, .int r_24), (11, .ref q_21), (10, .int (y_L62 (a 41) i9.toNatClampNeg)), (0, .ref (a 6)), (1, .int p0), (2, .int p1), (3, .int p2), (4, .int p3), (5, .int p4), (6, .int p5), (7, .int p6), (8, .int (y_9 (a 42) p0.toNatClampNeg))]) hx hb dX7_goOn_214 hl (k := 14) rfl ex_42.symm (by decide) rfl (fun ls hl => ?_)
                  refine lv_goto (tgt := 62) hx hb dX7_goOn_217 (by decide) ?_
                  exact ih_62  x_42 y_38 H _ ls (by omega) hG hI (by omega) (by omega) (by omega) (by omega) (by omega) hT hS (lv_sub hl [6, 7, 8, 9, 10, 11, 12, 13, 14, 0] rfl)
                · have nc_33 := z_nle rfl (zk (x := 0) 0 rfl) c_33
                  refine lv_iconst (v := 1) hx hb dX7_goOn_196 (by decide) ?_
                  refine lv_goto (tgt := 201) hx hb dX7_goOn_197 (by decide) ?_
                  refine lv_iadd hx hb dX7_goOn_201 ?_
                  refine lv_topi (fun x_43 ex_43 => ?_)
                  refine lv_iload hx hb dX7_goOn_202 (lv_at hl 11 rfl) ?_
                  refine lv_iload hx hb dX7_goOn_204 (lv_at hl 0 rfl) ?_
                  refine lv_iadd hx hb dX7_goOn_206 ?_
                  refine lv_topi (fun x_44 ex_44 => ?_)
                  refine lv_iload hx hb dX7_goOn_207 (lv_at hl 12 rfl) ?_
                  refine lv_iconst (v := 1) hx hb dX7_goOn_209 (by decide) ?_
                  refine lv_iadd hx hb dX7_goOn_210 ?_
                  refine lv_topi (fun x_45 ex_45 => ?_)
                  have hx_45 := z_add ex_45 rfl (zk (x := 1) 1 rfl) (by omega) (by omega)
                  have hFc := tw_free hF hS hA
                  refine va_callv (va_runV (As := [.int p0, .int x_31, .int r_25, .int x_32, .int x_43, .int x_44, .int x_45]) (rest := []) ⟨hx, hb, hml, hown, hts⟩ (c_goOn5 l dC dI ad av H.size a k τ ln y_28 g u p0 x_31 r_25 x_32 x_43 x_44 x_45 nP nH hI (by omega) (by omega) gn (by rw [hG.at (fx_41 hX) (by decide)]; exact gp) (by rw [hG.at (fx_42 hX) (by decide)]; exact gh) (by omega) (by omega) (by omega)) (cwV 7 hts (gi_4 (List.mem_cons_of_mem _ (List.mem_append_left _ (List.mem_of_getElem? (i := 36) rfl))) (List.mem_cons_of_mem _ (List.mem_append_left _ (List.mem_of_getElem? (i := 37) rfl))) (List.mem_cons_of_mem _ (List.mem_append_left _ (List.mem_of_getElem? (i := 38) rfl))) (List.mem_cons_of_mem _ (List.mem_append_left _ (List.mem_of_getElem? (i := 4) rfl))) (fun _ hh => (List.mem_cons_of_mem _ (List.mem_append_right _ (List.mem_append_right _ (List.mem_append_right _ (List.mem_append_right _ (List.mem_append_right _ (List.mem_append_right _ (List.mem_append_right _ (List.mem_append_right _ (List.mem_append_right _ (List.mem_append_right _ (List.mem_append_left _ hh))))))))))))) gd_c_goOn5) rfl rfl rfl (by decide +kernel) ⟨Nat.le_of_ble_eq_true rfl, Nat.le_of_ble_eq_true rfl⟩) ⟨pw_blind, tw_recv hK hT (fx_6 hX) (by decide) cl_e16 rfl, pw_use hT hK hFc hS hM⟩ rfl rfl hl.1 rfl (lv_room (Nat.le_of_ble_eq_true rfl)) dX7_goOn_211 ⟨Nat.le_of_ble_eq_true rfl, Nat.le_of_ble_eq_true rfl⟩) hS (fun q _ h => hFc q h) hFc (fun u0 t H locs ht hvm hw hB hz1 hk1 hS => ?_)
                  refine W.widen (k := 0) (n := 0) (Nat.le_of_ble_eq_true rfl) (Nat.le_of_ble_eq_true rfl) ?_
                  clear hvm hz1 hk1
                  obtain ⟨y_47, hgy_47, hf_48, hf_49, hf_50, hT⟩ := hB
                  rw [ht] at hT
                  have hG := hG.tr hgy_47 (by decide)
                  have hI := hI.ag hgy_47 (by decide)
                  obtain ⟨x_51, ex_51⟩ : ∃ y : Int32, y = i9 + Int32.ofInt 1 := ⟨_, rfl⟩
                  have hx_51 := z_add ex_51 rfl (zk (x := Int32.ofInt 1) 1 rfl) (by omega) (by omega)
                  refine lv_iinc (v := x_51) (lv' := [(9, .int x_51), (14, .int x_27), (13, .int r_25), (12, .int r_24), (11, .ref q_21), (10, .int (y_L62 (a 41) i9.toNatClampNeg)), (0, .ref (a 6)), (1, .int p0), (2, .int p1), (3, .int p2), (4, .int p3), (5, .int p4), (6, .int p5), (7, .int p6), (8, .int (y_9 (a 42) p0.toNatClampNeg))]) hx hb dX7_goOn_214 hl (k := 14) rfl ex_51.symm (by decide) rfl (fun ls hl => ?_)
                  refine lv_goto (tgt := 62) hx hb dX7_goOn_217 (by decide) ?_
                  exact ih_62  x_51 y_47 H _ ls (by omega) hG hI (by omega) (by omega) (by omega) (by omega) (by omega) hT hS (lv_sub hl [6, 7, 8, 9, 10, 11, 12, 13, 14, 0] rfl)
        have hp_52 : (0 : Int32).toInt = 0 := (zk (x := 0) 0 rfl)
        exact loop_62 _ (0 : Int32) y_9 H _ ls (Nat.lt_succ_self _) hG hI (by omega) (by omega) (by omega) (by omega) (by omega) hT hS (lv_sub hl [2, 3, 4, 5, 6, 7, 8, 9, 1, 0] rfl)
      · refine lq_top (v := 0) hre ?_
        rw [ht] at hT
        refine lv_if_ne (tgt := 27) hx hb dX7_goOn_23 (by decide) (fun c_53 => absurd c_53 (by decide)) (fun c_53 => ?_)
        exact W.vret hx hb hr (fun t ht hW9 => ⟨⟨(), rfl, trivial, ⟨y, hG, by omega, by omega, by omega, tw_at ht hT⟩⟩, hS.F ht⟩) hS.2.2 dX7_goOn_26
def wo_c_beginHand4 : List Cond := [.fieldLink RX7 78 "TypingPool$Planner" "handCount" "I", .fieldLink RX7 15 "TypingPool$Planner" "hands" "[I", .fieldLink RX7 31 "TypingPool$Planner" "floor" "LTypingPool$Floor;", .fieldLink RX7 92 "TypingPool$Floor" "now" "I", .fieldLink RX7 95 "TypingPool$Floor" "words" "[I", .fieldLink RX7 98 "TypingPool$Floor" "has" "[I", .fieldLink RX7 27 "TypingPool$Planner" "book" "LTypingPool$Book;", .methodLink RX7 67 yX1_hasPiece, .instanceMethod yX1_hasPiece, .selects RX1 yX1_hasPiece yX1_hasPiece, .initialized RX1, .fieldLink RX7 101 "TypingPool$Floor" "workLeft" "[I", .fieldLink RX7 104 "TypingPool$Floor" "rate" "[I", .initialized RX11, .static yX11_minutesFor, .methodLink RX7 111 yX1_minuteAfterWork, .instanceMethod yX1_minuteAfterWork, .selects RX1 yX1_minuteAfterWork yX1_minuteAfterWork, .fieldLink RX7 115 "TypingPool$Book" "pieces" "[LTypingPool$Piece;", .fieldLink RX7 118 "TypingPool$Piece" "words" "I", .methodLink RX7 122 yX7_goOn, .instanceMethod yX7_goOn, .selects RX7 yX7_goOn yX7_goOn, .initialized RX7, .methodLink RX7 88 yX7_keep, .instanceMethod yX7_keep, .selects RX7 yX7_keep yX7_keep]
def wm_c_beginHand4 : List Cond := .code yX7_beginHand cX7_beginHand 11 none :: (wo_c_beginHand4 ++ (wsX70 ++ (wsX30 ++ (wm_c_hasPiece ++ (wm_c_minutesFor ++ (wm_c_minuteAfterWork ++ (wsX10 ++ (wsX60 ++ (wm_c_goOn4 ++ (wm_c_keep ++ ([] : List Cond)))))))))))
theorem gd_c_beginHand4 : ∀ w ∈ wm_c_beginHand4, goodWord w = true := gd_c rfl (gd_a (by decide) (gd_a gd_wsX70 (gd_a gd_wsX30 (gd_a gd_c_hasPiece (gd_a gd_c_minutesFor (gd_a gd_c_minuteAfterWork (gd_a gd_wsX10 (gd_a gd_wsX60 (gd_a gd_c_goOn4 (gd_a gd_c_keep gd_nil))))))))))
set_option maxRecDepth 20000 in
theorem im_c_beginHand4 : ∀ w ∈ wm_c_beginHand4, w ∈ lw_tbl := im_c (in_r [.code yX7_beginHand cX7_beginHand 11 none] [1042] (by decide +kernel)) (in_app (in_r wo_c_beginHand4 [520, 519, 516, 430, 438, 432, 515, 1027, 841, 842, 71, 450, 435, 70, 845, 1053, 1054, 1055, 128, 687, 1057, 1059, 24, 85, 1043, 1045, 22] (by decide +kernel)) (in_app im_wsX70 (in_app im_wsX30 (in_app im_c_hasPiece (in_app im_c_minutesFor (in_app im_c_minuteAfterWork (in_app im_wsX10 (in_app im_wsX60 (in_app im_c_goOn4 (in_app im_c_keep im_nil))))))))))
set_option maxHeartbeats 4000000 in
set_option maxRecDepth 100000 in
theorem c_beginHand4 (l : Launch) (dC : Nat → ClassId) (dI : Nat → Nat → Nat) (ad av : Nat → Nat) (sz : Nat) (a : Nat → Nat) (k : Nat → ClassId) (τ ln : Nat → Nat) (y : Nat → Nat → Int32) (g : Nat → Nat → Option Nat) (u : Nat → Int) (p0 : Int32) (p1 : Int32) (p2 : Int32) (p3 : Int32) (p4 : Int32) (nP : Int) (nH : Int) (hI : IC a u τ ln y g) (g3 : (y (a 6) 3).toInt = nP) (g5 : (y (a 6) 5).toInt = nH) (gn : (0 ≤ nP ∧ nP ≤ 5) ∧ 0 ≤ nH ∧ nH ≤ 3) (gp : vl nP (u 2) (y (a 41))) (gh : vl nH (u 1) (y (a 42))) (g9 : 0 ≤ (y (a 6) 9).toInt ∧ (y (a 6) 9).toInt ≤ 8) (hp0 : 0 ≤ p0.toInt) (hlen : p4.toInt = 4) : Met l yX7_beginHand wm_c_beginHand4 ({ frames := 11, cells := 0, slots := 0, locals := 660 }) (pw_ ad av (dC, dI) sz [.ref (a 6), .int p0, .int p1, .int p2, .int p3, .int p4] a k τ ln y g) (va_Qv (fun (_ : Unit) => True) (fun (_ : Unit) (t : State) => (∃ (y' : Nat → Nat → Int32), ag τ [16, 54, 55] y y' ∧ (y' (a 6) 3).toInt = (y (a 6) 3).toInt ∧ (y' (a 6) 5).toInt = (y (a 6) 5).toInt ∧ (0 ≤ (y' (a 6) 9).toInt ∧ (y' (a 6) 9).toInt ≤ 8) ∧ tw (dC, dI) a k τ ln y' g t.heap)) (fr τ sz)) 0 0 (fr τ sz) := by
  refine Met.ofW (cc := cX7_beginHand) (maxL := 11) (ret := none) (by decide) rfl ?_
  intro p e s m args below meth c s₁ B hml hv
  obtain ⟨rfl, hsz, hT, hK, hM⟩ := hv
  have hx := B.exec
  have hb := B.bytes
  have hr := B.returns
  have hts := atoms_spec (ws := wm_c_beginHand4) B.pre
  have hown : s.vm.findClass RX7 = some m.cls := findClass_of_methodNamed B.named
  have hlocks := B.notSynchronized
  subst hsz
  generalize hAe : fr τ s.heap.size = A at hM ⊢
  have hA : ∀ q : Nat, s.heap.size ≤ q → A q := fun q h => by rw [← hAe]; exact Or.inr h
  have hF : ∀ q, τ q ≠ 0 → A q := fun q h => by rw [← hAe]; exact Or.inl h
  have hS : va_S A s.heap s.heap [] := va_S.rf
  have hX := hI.1
  have hR := ic_r hI
  have hG : ag τ [16, 54, 55] y y := ag.rf
  have hl := lv_entry ([.ref (a 6), .int p0, .int p1, .int p2, .int p3, .int p4]) (n := 11) (Nat.le_of_ble_eq_true rfl)
  rw [lg_entry_eq]
  generalize (lg_sl ([.ref (a 6), .int p0, .int p1, .int p2, .int p3, .int p4]) ++ List.replicate (11 - (lg_sl ([.ref (a 6), .int p0, .int p1, .int p2, .int p3, .int p4])).length) Slot.unset).toArray = ls at hl ⊢
  have hl : lv_has ls 11 [(0, .ref (a 6)), (1, .int p0), (2, .int p1), (3, .int p2), (4, .int p3), (5, .int p4)] := hl
  refine lv_iload_n hx hb dX7_beginHand_0 rfl (lv_at hl 1 rfl) ?_
  refine lv_aload_n hx hb dX7_beginHand_1 rfl (lv_at hl 0 rfl) ?_
  refine tw_get (D := (dC, dI)) (v := .int (y (a 6) 5)) (C := RX7) (T := TX7) (N := 13) hx hb hts (fun _ hh => (List.mem_cons_of_mem _ (List.mem_append_right _ (List.mem_append_left _ hh)))) hown hK hT (fx_6 hX) (by decide) cl_e16 rfl 5 (by decide) (hts (.fieldLink RX7 78 "TypingPool$Planner" "handCount" "I") (List.mem_cons_of_mem _ (List.mem_append_left _ (List.mem_of_getElem? (i := 0) rfl)))) (fun _ h9 => h9) rfl dX7_beginHand_2 ?_
  refine lv_icmp_lt (tgt := 22) hx hb dX7_beginHand_5 (by decide) (fun c_1 => ?_) (fun c_1 => ?_)
  · have nc_1 := z_lt rfl rfl c_1
    refine lv_aload_n hx hb dX7_beginHand_22 rfl (lv_at hl 0 rfl) ?_
    refine tw_get (D := (dC, dI)) (v := .ref (a 42)) (C := RX7) (T := TX7) (N := 13) hx hb hts (fun _ hh => (List.mem_cons_of_mem _ (List.mem_append_right _ (List.mem_append_left _ hh)))) hown hK hT (fx_6 hX) (by decide) cl_e16 rfl 4 (by decide) (hts (.fieldLink RX7 15 "TypingPool$Planner" "hands" "[I") (List.mem_cons_of_mem _ (List.mem_append_left _ (List.mem_of_getElem? (i := 1) rfl)))) (fun _ h9 => h9) rfl dX7_beginHand_23 ?_
    refine lv_iload_n hx hb dX7_beginHand_26 rfl (lv_at hl 1 rfl) ?_
    refine tw_iald hx hb hK hT 0 (fx_42 hX) (by decide) cl_e52 rfl (z_in rfl (by omega) (by omega)) dX7_beginHand_27 ?_
    have hv0 : vl nH (u 1) (y (a 42)) := gh
    have hv_2 := vl_at hv0 (x := p0) rfl (by omega) (by omega)
    refine lv_istore (lv' := [(6, .int (y (a 42) p0.toNatClampNeg)), (0, .ref (a 6)), (1, .int p0), (2, .int p1), (3, .int p2), (4, .int p3), (5, .int p4)]) hx hb dX7_beginHand_28 hl (by decide) rfl (fun ls hl => ?_)
    refine lv_aload_n hx hb dX7_beginHand_30 rfl (lv_at hl 1 rfl) ?_
    refine tw_get (D := (dC, dI)) (v := .ref (a 3)) (C := RX7) (T := TX7) (N := 13) hx hb hts (fun _ hh => (List.mem_cons_of_mem _ (List.mem_append_right _ (List.mem_append_left _ hh)))) hown hK hT (fx_6 hX) (by decide) cl_e16 rfl 1 (by decide) (hts (.fieldLink RX7 31 "TypingPool$Planner" "floor" "LTypingPool$Floor;") (List.mem_cons_of_mem _ (List.mem_append_left _ (List.mem_of_getElem? (i := 2) rfl)))) (fun _ h9 => h9) rfl dX7_beginHand_31 ?_
    refine tw_get (D := (dC, dI)) (v := .int (y (a 3) 2)) (C := RX3) (T := TX3) (N := 12) hx hb hts (fun _ hh => (List.mem_cons_of_mem _ (List.mem_append_right _ (List.mem_append_right _ (List.mem_append_left _ hh))))) hown hK hT (fx_3 hX) (by decide) cl_e13 rfl 2 (by decide) (hts (.fieldLink RX7 92 "TypingPool$Floor" "now" "I") (List.mem_cons_of_mem _ (List.mem_append_left _ (List.mem_of_getElem? (i := 3) rfl)))) (fun _ h9 => h9) rfl dX7_beginHand_34 ?_
    refine lv_istore (lv' := [(7, .int (y (a 3) 2)), (6, .int (y (a 42) p0.toNatClampNeg)), (0, .ref (a 6)), (1, .int p0), (2, .int p1), (3, .int p2), (4, .int p3), (5, .int p4)]) hx hb dX7_beginHand_37 hl (by decide) rfl (fun ls hl => ?_)
    refine lv_aload_n hx hb dX7_beginHand_39 rfl (lv_at hl 2 rfl) ?_
    refine tw_get (D := (dC, dI)) (v := .ref (a 3)) (C := RX7) (T := TX7) (N := 13) hx hb hts (fun _ hh => (List.mem_cons_of_mem _ (List.mem_append_right _ (List.mem_append_left _ hh)))) hown hK hT (fx_6 hX) (by decide) cl_e16 rfl 1 (by decide) (hts (.fieldLink RX7 31 "TypingPool$Planner" "floor" "LTypingPool$Floor;") (List.mem_cons_of_mem _ (List.mem_append_left _ (List.mem_of_getElem? (i := 2) rfl)))) (fun _ h9 => h9) rfl dX7_beginHand_40 ?_
    refine tw_get (D := (dC, dI)) (v := .ref (a 22)) (C := RX3) (T := TX3) (N := 12) hx hb hts (fun _ hh => (List.mem_cons_of_mem _ (List.mem_append_right _ (List.mem_append_right _ (List.mem_append_left _ hh))))) hown hK hT (fx_3 hX) (by decide) cl_e13 rfl 5 (by decide) (hts (.fieldLink RX7 95 "TypingPool$Floor" "words" "[I") (List.mem_cons_of_mem _ (List.mem_append_left _ (List.mem_of_getElem? (i := 4) rfl)))) (fun _ h9 => h9) rfl dX7_beginHand_43 ?_
    refine lv_iload hx hb dX7_beginHand_46 (lv_at hl 1 rfl) ?_
    refine tw_iald hx hb hK hT 0 (fx_22 hX) (by decide) cl_e32 rfl (z_in rfl (by omega) (by omega)) dX7_beginHand_48 ?_
    refine lv_istore (lv' := [(8, .int (y (a 22) (y (a 42) p0.toNatClampNeg).toNatClampNeg)), (7, .int (y (a 3) 2)), (6, .int (y (a 42) p0.toNatClampNeg)), (0, .ref (a 6)), (1, .int p0), (2, .int p1), (3, .int p2), (4, .int p3), (5, .int p4)]) hx hb dX7_beginHand_49 hl (by decide) rfl (fun ls hl => ?_)
    refine lv_aload_n hx hb dX7_beginHand_51 rfl (lv_at hl 3 rfl) ?_
    refine tw_get (D := (dC, dI)) (v := .ref (a 3)) (C := RX7) (T := TX7) (N := 13) hx hb hts (fun _ hh => (List.mem_cons_of_mem _ (List.mem_append_right _ (List.mem_append_left _ hh)))) hown hK hT (fx_6 hX) (by decide) cl_e16 rfl 1 (by decide) (hts (.fieldLink RX7 31 "TypingPool$Planner" "floor" "LTypingPool$Floor;") (List.mem_cons_of_mem _ (List.mem_append_left _ (List.mem_of_getElem? (i := 2) rfl)))) (fun _ h9 => h9) rfl dX7_beginHand_52 ?_
    refine tw_get (D := (dC, dI)) (v := .ref (a 20)) (C := RX3) (T := TX3) (N := 12) hx hb hts (fun _ hh => (List.mem_cons_of_mem _ (List.mem_append_right _ (List.mem_append_right _ (List.mem_append_left _ hh))))) hown hK hT (fx_3 hX) (by decide) cl_e13 rfl 3 (by decide) (hts (.fieldLink RX7 98 "TypingPool$Floor" "has" "[I") (List.mem_cons_of_mem _ (List.mem_append_left _ (List.mem_of_getElem? (i := 5) rfl)))) (fun _ h9 => h9) rfl dX7_beginHand_55 ?_
    refine lv_iload hx hb dX7_beginHand_58 (lv_at hl 2 rfl) ?_
    refine tw_iald hx hb hK hT 0 (fx_20 hX) (by decide) cl_e30 rfl (z_in rfl (by omega) (by omega)) dX7_beginHand_60 ?_
    refine lv_istore (lv' := [(9, .int (y (a 20) (y (a 42) p0.toNatClampNeg).toNatClampNeg)), (8, .int (y (a 22) (y (a 42) p0.toNatClampNeg).toNatClampNeg)), (7, .int (y (a 3) 2)), (6, .int (y (a 42) p0.toNatClampNeg)), (0, .ref (a 6)), (1, .int p0), (2, .int p1), (3, .int p2), (4, .int p3), (5, .int p4)]) hx hb dX7_beginHand_61 hl (by decide) rfl (fun ls hl => ?_)
    refine lv_aload_n hx hb dX7_beginHand_63 rfl (lv_at hl 4 rfl) ?_
    refine tw_get (D := (dC, dI)) (v := .ref (a 1)) (C := RX7) (T := TX7) (N := 13) hx hb hts (fun _ hh => (List.mem_cons_of_mem _ (List.mem_append_right _ (List.mem_append_left _ hh)))) hown hK hT (fx_6 hX) (by decide) cl_e16 rfl 0 (by decide) (hts (.fieldLink RX7 27 "TypingPool$Planner" "book" "LTypingPool$Book;") (List.mem_cons_of_mem _ (List.mem_append_left _ (List.mem_of_getElem? (i := 6) rfl)))) (fun _ h9 => h9) rfl dX7_beginHand_64 ?_
    refine lv_iload hx hb dX7_beginHand_67 (lv_at hl 0 rfl) ?_
    have hFc := tw_free hF hS hA
    refine va_calli (va_runV (As := [.int (y (a 20) (y (a 42) p0.toNatClampNeg).toNatClampNeg)]) (rest := []) ⟨hx, hb, hml, hown, hts⟩ (c_hasPiece l dC dI ad av s.heap.size a k τ ln y g u (y (a 20) (y (a 42) p0.toNatClampNeg).toNatClampNeg) hI ) (cwV 1 hts (gi_4 (List.mem_cons_of_mem _ (List.mem_append_left _ (List.mem_of_getElem? (i := 7) rfl))) (List.mem_cons_of_mem _ (List.mem_append_left _ (List.mem_of_getElem? (i := 8) rfl))) (List.mem_cons_of_mem _ (List.mem_append_left _ (List.mem_of_getElem? (i := 9) rfl))) (List.mem_cons_of_mem _ (List.mem_append_left _ (List.mem_of_getElem? (i := 10) rfl))) (fun _ hh => (List.mem_cons_of_mem _ (List.mem_append_right _ (List.mem_append_right _ (List.mem_append_right _ (List.mem_append_left _ hh)))))) gd_c_hasPiece) rfl rfl rfl (by decide +kernel) ⟨Nat.le_of_ble_eq_true rfl, Nat.le_of_ble_eq_true rfl⟩) ⟨pw_blind, tw_recv hK hT (fx_1 hX) (by decide) cl_e11 rfl, pw_use hT hK hFc hS hM⟩ rfl rfl hl.1 rfl (lv_room (Nat.le_of_ble_eq_true rfl)) dX7_beginHand_69 ⟨Nat.le_of_ble_eq_true rfl, Nat.le_of_ble_eq_true rfl⟩) hS (fun q _ h => hFc q h) hFc (fun r0 r_3 t H locs ht hvm hw hB hz1 hk1 hS => ?_)
    refine W.widen (k := 0) (n := 0) (Nat.le_of_ble_eq_true rfl) (Nat.le_of_ble_eq_true rfl) ?_
    clear hvm hz1 hk1
    subst hw
    rcases hB with ⟨hre, hf_4, hf_5, hT⟩ | ⟨hre, hf_6, hT⟩
    · refine lq_top (v := 1) hre ?_
      rw [ht] at hT
      refine lv_if_eq (tgt := 133) hx hb dX7_beginHand_72 (by decide) (fun c_7 => absurd c_7 (by decide)) (fun c_7 => ?_)
      refine lv_aload_n hx hb dX7_beginHand_75 rfl (lv_at hl 4 rfl) ?_
      refine tw_get (D := (dC, dI)) (v := .ref (a 3)) (C := RX7) (T := TX7) (N := 13) hx hb hts (fun _ hh => (List.mem_cons_of_mem _ (List.mem_append_right _ (List.mem_append_left _ hh)))) hown hK hT (fx_6 hX) (by decide) cl_e16 rfl 1 (by decide) (hts (.fieldLink RX7 31 "TypingPool$Planner" "floor" "LTypingPool$Floor;") (List.mem_cons_of_mem _ (List.mem_append_left _ (List.mem_of_getElem? (i := 2) rfl)))) (fun _ h9 => h9) rfl dX7_beginHand_76 ?_
      refine tw_get (D := (dC, dI)) (v := .ref (a 27)) (C := RX3) (T := TX3) (N := 12) hx hb hts (fun _ hh => (List.mem_cons_of_mem _ (List.mem_append_right _ (List.mem_append_right _ (List.mem_append_left _ hh))))) hown hK hT (fx_3 hX) (by decide) cl_e13 rfl 10 (by decide) (hts (.fieldLink RX7 101 "TypingPool$Floor" "workLeft" "[I") (List.mem_cons_of_mem _ (List.mem_append_left _ (List.mem_of_getElem? (i := 11) rfl)))) (fun _ h9 => h9) rfl dX7_beginHand_79 ?_
      refine lv_iload hx hb dX7_beginHand_82 (lv_at hl 0 rfl) ?_
      refine tw_iald hx hb hK hT 0 (fx_27 hX) (by decide) cl_e37 rfl (z_in rfl (by omega) (by omega)) dX7_beginHand_84 ?_
      refine lv_aload_n hx hb dX7_beginHand_85 rfl (lv_at hl 4 rfl) ?_
      refine tw_get (D := (dC, dI)) (v := .ref (a 3)) (C := RX7) (T := TX7) (N := 13) hx hb hts (fun _ hh => (List.mem_cons_of_mem _ (List.mem_append_right _ (List.mem_append_left _ hh)))) hown hK hT (fx_6 hX) (by decide) cl_e16 rfl 1 (by decide) (hts (.fieldLink RX7 31 "TypingPool$Planner" "floor" "LTypingPool$Floor;") (List.mem_cons_of_mem _ (List.mem_append_left _ (List.mem_of_getElem? (i := 2) rfl)))) (fun _ h9 => h9) rfl dX7_beginHand_86 ?_
      refine tw_get (D := (dC, dI)) (v := .ref (a 21)) (C := RX3) (T := TX3) (N := 12) hx hb hts (fun _ hh => (List.mem_cons_of_mem _ (List.mem_append_right _ (List.mem_append_right _ (List.mem_append_left _ hh))))) hown hK hT (fx_3 hX) (by decide) cl_e13 rfl 4 (by decide) (hts (.fieldLink RX7 104 "TypingPool$Floor" "rate" "[I") (List.mem_cons_of_mem _ (List.mem_append_left _ (List.mem_of_getElem? (i := 12) rfl)))) (fun _ h9 => h9) rfl dX7_beginHand_89 ?_
      refine lv_iload hx hb dX7_beginHand_92 (lv_at hl 3 rfl) ?_
      refine tw_iald hx hb hK hT 0 (fx_21 hX) (by decide) cl_e31 rfl (z_in rfl (by omega) (by omega)) dX7_beginHand_94 ?_
      have hFc := tw_free hF hS hA
      refine va_calli (va_runSN (As := [.int (y (a 27) (y (a 20) (y (a 42) p0.toNatClampNeg).toNatClampNeg).toNatClampNeg), .int (y (a 21) (y (a 42) p0.toNatClampNeg).toNatClampNeg)]) (rest := []) ⟨hx, hb, hml, hown, hts⟩ (c_minutesFor l dC dI ad av H.size a k τ ln y g u (y (a 27) (y (a 20) (y (a 42) p0.toNatClampNeg).toNatClampNeg).toNatClampNeg) (y (a 21) (y (a 42) p0.toNatClampNeg).toNatClampNeg)  ) ⟨va_cnB 2 hts (gi_0  (fun _ hh => (List.mem_cons_of_mem _ (List.mem_append_right _ (List.mem_append_right _ (List.mem_append_right _ (List.mem_append_right _ (List.mem_append_left _ hh))))))) gd_c_minutesFor) rfl rfl rfl hM.1.2.2.2.1 (hts (.initialized RX11) (List.mem_cons_of_mem _ (List.mem_append_left _ (List.mem_of_getElem? (i := 13) rfl)))) (by decide +kernel) ⟨Nat.le_of_ble_eq_true rfl, Nat.le_of_ble_eq_true rfl⟩, (hts (.static yX11_minutesFor) (List.mem_cons_of_mem _ (List.mem_append_left _ (List.mem_of_getElem? (i := 14) rfl)))), trivial⟩ ⟨pw_blind, pw_use hT hK hFc hS hM⟩ rfl rfl hl.1 rfl (lv_room (Nat.le_of_ble_eq_true rfl)) dX7_beginHand_95 ⟨Nat.le_of_ble_eq_true rfl, Nat.le_of_ble_eq_true rfl⟩) hS (fun q _ h => hFc q h) hFc (fun r0 r_8 t H locs ht hvm hw hB hz1 hk1 hS => ?_)
      refine W.widen (k := 0) (n := 0) (Nat.le_of_ble_eq_true rfl) (Nat.le_of_ble_eq_true rfl) ?_
      clear hvm hz1 hk1
      subst hw
      have hT := hB
      rw [ht] at hT
      refine lv_istore (lv' := [(10, .int r_8), (9, .int (y (a 20) (y (a 42) p0.toNatClampNeg).toNatClampNeg)), (8, .int (y (a 22) (y (a 42) p0.toNatClampNeg).toNatClampNeg)), (7, .int (y (a 3) 2)), (6, .int (y (a 42) p0.toNatClampNeg)), (0, .ref (a 6)), (1, .int p0), (2, .int p1), (3, .int p2), (4, .int p3), (5, .int p4)]) hx hb dX7_beginHand_98 hl (by decide) rfl (fun ls hl => ?_)
      refine lv_aload_n hx hb dX7_beginHand_100 rfl (lv_at hl 5 rfl) ?_
      refine tw_get (D := (dC, dI)) (v := .ref (a 1)) (C := RX7) (T := TX7) (N := 13) hx hb hts (fun _ hh => (List.mem_cons_of_mem _ (List.mem_append_right _ (List.mem_append_left _ hh)))) hown hK hT (fx_6 hX) (by decide) cl_e16 rfl 0 (by decide) (hts (.fieldLink RX7 27 "TypingPool$Planner" "book" "LTypingPool$Book;") (List.mem_cons_of_mem _ (List.mem_append_left _ (List.mem_of_getElem? (i := 6) rfl)))) (fun _ h9 => h9) rfl dX7_beginHand_101 ?_
      refine lv_iload hx hb dX7_beginHand_104 (lv_at hl 4 rfl) ?_
      refine lv_iload hx hb dX7_beginHand_106 (lv_at hl 3 rfl) ?_
      refine lv_iload hx hb dX7_beginHand_108 (lv_at hl 0 rfl) ?_
      have hFc := tw_free hF hS hA
      refine va_calli (va_runV (As := [.int (y (a 42) p0.toNatClampNeg), .int (y (a 3) 2), .int r_8]) (rest := []) ⟨hx, hb, hml, hown, hts⟩ (c_minuteAfterWork l dC dI ad av H.size a k τ ln y g u (y (a 42) p0.toNatClampNeg) (y (a 3) 2) r_8 hI ) (cwV 3 hts (gi_4 (List.mem_cons_of_mem _ (List.mem_append_left _ (List.mem_of_getElem? (i := 15) rfl))) (List.mem_cons_of_mem _ (List.mem_append_left _ (List.mem_of_getElem? (i := 16) rfl))) (List.mem_cons_of_mem _ (List.mem_append_left _ (List.mem_of_getElem? (i := 17) rfl))) (List.mem_cons_of_mem _ (List.mem_append_left _ (List.mem_of_getElem? (i := 10) rfl))) (fun _ hh => (List.mem_cons_of_mem _ (List.mem_append_right _ (List.mem_append_right _ (List.mem_append_right _ (List.mem_append_right _ (List.mem_append_right _ (List.mem_append_left _ hh)))))))) gd_c_minuteAfterWork) rfl rfl rfl (by decide +kernel) ⟨Nat.le_of_ble_eq_true rfl, Nat.le_of_ble_eq_true rfl⟩) ⟨pw_blind, tw_recv hK hT (fx_1 hX) (by decide) cl_e11 rfl, pw_use hT hK hFc hS hM⟩ rfl rfl hl.1 rfl (lv_room (Nat.le_of_ble_eq_true rfl)) dX7_beginHand_110 ⟨Nat.le_of_ble_eq_true rfl, Nat.le_of_ble_eq_true rfl⟩) hS (fun q _ h => hFc q h) hFc (fun r0 r_9 t H locs ht hvm hw hB hz1 hk1 hS => ?_)
      refine W.widen (k := 0) (n := 0) (Nat.le_of_ble_eq_true rfl) (Nat.le_of_ble_eq_true rfl) ?_
      clear hvm hz1 hk1
      subst hw
      have hT := hB
      rw [ht] at hT
      refine lv_istore (lv' := [(7, .int r_9), (10, .int r_8), (9, .int (y (a 20) (y (a 42) p0.toNatClampNeg).toNatClampNeg)), (8, .int (y (a 22) (y (a 42) p0.toNatClampNeg).toNatClampNeg)), (6, .int (y (a 42) p0.toNatClampNeg)), (0, .ref (a 6)), (1, .int p0), (2, .int p1), (3, .int p2), (4, .int p3), (5, .int p4)]) hx hb dX7_beginHand_113 hl (by decide) rfl (fun ls hl => ?_)
      refine lv_iload hx hb dX7_beginHand_115 (lv_at hl 3 rfl) ?_
      refine lv_aload_n hx hb dX7_beginHand_117 rfl (lv_at hl 5 rfl) ?_
      refine tw_get (D := (dC, dI)) (v := .ref (a 1)) (C := RX7) (T := TX7) (N := 13) hx hb hts (fun _ hh => (List.mem_cons_of_mem _ (List.mem_append_right _ (List.mem_append_left _ hh)))) hown hK hT (fx_6 hX) (by decide) cl_e16 rfl 0 (by decide) (hts (.fieldLink RX7 27 "TypingPool$Planner" "book" "LTypingPool$Book;") (List.mem_cons_of_mem _ (List.mem_append_left _ (List.mem_of_getElem? (i := 6) rfl)))) (fun _ h9 => h9) rfl dX7_beginHand_118 ?_
      refine tw_get (D := (dC, dI)) (v := .ref (a 11)) (C := RX1) (T := TX1) (N := 8) hx hb hts (fun _ hh => (List.mem_cons_of_mem _ (List.mem_append_right _ (List.mem_append_right _ (List.mem_append_right _ (List.mem_append_right _ (List.mem_append_right _ (List.mem_append_right _ (List.mem_append_left _ hh))))))))) hown hK hT (fx_1 hX) (by decide) cl_e11 rfl 4 (by decide) (hts (.fieldLink RX7 115 "TypingPool$Book" "pieces" "[LTypingPool$Piece;") (List.mem_cons_of_mem _ (List.mem_append_left _ (List.mem_of_getElem? (i := 18) rfl)))) (fun _ h9 => h9) rfl dX7_beginHand_121 ?_
      refine lv_iload hx hb dX7_beginHand_124 (lv_at hl 2 rfl) ?_
      refine tw_aald hx hb hK hT 4 (fx_11 hX) (by decide) cl_e21 rfl (z_in rfl (by omega) (by omega)) dX7_beginHand_126 ?_
      obtain ⟨q_10, hgq_10, htq_10⟩ := ic_l11 hI (x := (y (a 20) (y (a 42) p0.toNatClampNeg).toNatClampNeg)) rfl (by omega) (by omega)
      refine lq_topr hgq_10 ?_
      refine tw_get (D := (dC, dI)) (v := .int (y q_10 7)) (C := RX6) (T := TX6) (N := 11) hx hb hts (fun _ hh => (List.mem_cons_of_mem _ (List.mem_append_right _ (List.mem_append_right _ (List.mem_append_right _ (List.mem_append_right _ (List.mem_append_right _ (List.mem_append_right _ (List.mem_append_right _ (List.mem_append_left _ hh)))))))))) hown hK hT htq_10 (by decide) cl_e2 rfl 7 (by decide) (hts (.fieldLink RX7 118 "TypingPool$Piece" "words" "I") (List.mem_cons_of_mem _ (List.mem_append_left _ (List.mem_of_getElem? (i := 19) rfl)))) (fun _ h9 => h9) rfl dX7_beginHand_127 ?_
      refine lv_ior hx hb dX7_beginHand_130 ?_
      refine lv_topi (fun x_11 ex_11 => ?_)
      refine lv_istore (lv' := [(8, .int x_11), (7, .int r_9), (10, .int r_8), (9, .int (y (a 20) (y (a 42) p0.toNatClampNeg).toNatClampNeg)), (6, .int (y (a 42) p0.toNatClampNeg)), (0, .ref (a 6)), (1, .int p0), (2, .int p1), (3, .int p2), (4, .int p3), (5, .int p4)]) hx hb dX7_beginHand_131 hl (by decide) rfl (fun ls hl => ?_)
      refine lv_aload_n hx hb dX7_beginHand_133 rfl (lv_at hl 5 rfl) ?_
      refine lv_iload_n hx hb dX7_beginHand_134 rfl (lv_at hl 6 rfl) ?_
      refine lv_iload_n hx hb dX7_beginHand_135 rfl (lv_at hl 7 rfl) ?_
      refine lv_iload hx hb dX7_beginHand_136 (lv_at hl 1 rfl) ?_
      refine lv_iload hx hb dX7_beginHand_138 (lv_at hl 0 rfl) ?_
      refine lv_iload_n hx hb dX7_beginHand_140 rfl (lv_at hl 8 rfl) ?_
      refine lv_iload hx hb dX7_beginHand_141 (lv_at hl 9 rfl) ?_
      refine lv_iload hx hb dX7_beginHand_143 (lv_at hl 10 rfl) ?_
      have hFc := tw_free hF hS hA
      refine va_callv (va_runV (As := [.int p0, .int p1, .int r_9, .int x_11, .int p2, .int p3, .int p4]) (rest := []) ⟨hx, hb, hml, hown, hts⟩ (c_goOn4 l dC dI ad av H.size a k τ ln y g u p0 p1 r_9 x_11 p2 p3 p4 nP nH hI (by omega) (by omega) gn gp gh (by omega) (by omega) (by omega)) (cwV 7 hts (gi_4 (List.mem_cons_of_mem _ (List.mem_append_left _ (List.mem_of_getElem? (i := 20) rfl))) (List.mem_cons_of_mem _ (List.mem_append_left _ (List.mem_of_getElem? (i := 21) rfl))) (List.mem_cons_of_mem _ (List.mem_append_left _ (List.mem_of_getElem? (i := 22) rfl))) (List.mem_cons_of_mem _ (List.mem_append_left _ (List.mem_of_getElem? (i := 23) rfl))) (fun _ hh => (List.mem_cons_of_mem _ (List.mem_append_right _ (List.mem_append_right _ (List.mem_append_right _ (List.mem_append_right _ (List.mem_append_right _ (List.mem_append_right _ (List.mem_append_right _ (List.mem_append_right _ (List.mem_append_left _ hh))))))))))) gd_c_goOn4) rfl rfl rfl (by decide +kernel) ⟨Nat.le_of_ble_eq_true rfl, Nat.le_of_ble_eq_true rfl⟩) ⟨pw_blind, tw_recv hK hT (fx_6 hX) (by decide) cl_e16 rfl, pw_use hT hK hFc hS hM⟩ rfl rfl hl.1 rfl (lv_room (Nat.le_of_ble_eq_true rfl)) dX7_beginHand_145 ⟨Nat.le_of_ble_eq_true rfl, Nat.le_of_ble_eq_true rfl⟩) hS (fun q _ h => hFc q h) hFc (fun u0 t H locs ht hvm hw hB hz1 hk1 hS => ?_)
      refine W.widen (k := 0) (n := 0) (Nat.le_of_ble_eq_true rfl) (Nat.le_of_ble_eq_true rfl) ?_
      clear hvm hz1 hk1
      obtain ⟨y_13, hgy_13, hf_14, hf_15, hf_16, hT⟩ := hB
      rw [ht] at hT
      have hG := hG.tr hgy_13 (by decide)
      have hI := hI.ag hgy_13 (by decide)
      exact W.vret hx hb hr (fun t ht hW9 => ⟨⟨(), rfl, trivial, ⟨y_13, hG, by omega, by omega, by omega, tw_at ht hT⟩⟩, hS.F ht⟩) hS.2.2 dX7_beginHand_148
    · refine lq_top (v := 0) hre ?_
      rw [ht] at hT
      refine lv_if_eq (tgt := 133) hx hb dX7_beginHand_72 (by decide) (fun c_17 => ?_) (fun c_17 => absurd c_17 (by decide))
      refine lv_aload_n hx hb dX7_beginHand_133 rfl (lv_at hl 4 rfl) ?_
      refine lv_iload_n hx hb dX7_beginHand_134 rfl (lv_at hl 5 rfl) ?_
      refine lv_iload_n hx hb dX7_beginHand_135 rfl (lv_at hl 6 rfl) ?_
      refine lv_iload hx hb dX7_beginHand_136 (lv_at hl 2 rfl) ?_
      refine lv_iload hx hb dX7_beginHand_138 (lv_at hl 1 rfl) ?_
      refine lv_iload_n hx hb dX7_beginHand_140 rfl (lv_at hl 7 rfl) ?_
      refine lv_iload hx hb dX7_beginHand_141 (lv_at hl 8 rfl) ?_
      refine lv_iload hx hb dX7_beginHand_143 (lv_at hl 9 rfl) ?_
      have hFc := tw_free hF hS hA
      refine va_callv (va_runV (As := [.int p0, .int p1, .int (y (a 3) 2), .int (y (a 22) (y (a 42) p0.toNatClampNeg).toNatClampNeg), .int p2, .int p3, .int p4]) (rest := []) ⟨hx, hb, hml, hown, hts⟩ (c_goOn4 l dC dI ad av H.size a k τ ln y g u p0 p1 (y (a 3) 2) (y (a 22) (y (a 42) p0.toNatClampNeg).toNatClampNeg) p2 p3 p4 nP nH hI (by omega) (by omega) gn gp gh (by omega) (by omega) (by omega)) (cwV 7 hts (gi_4 (List.mem_cons_of_mem _ (List.mem_append_left _ (List.mem_of_getElem? (i := 20) rfl))) (List.mem_cons_of_mem _ (List.mem_append_left _ (List.mem_of_getElem? (i := 21) rfl))) (List.mem_cons_of_mem _ (List.mem_append_left _ (List.mem_of_getElem? (i := 22) rfl))) (List.mem_cons_of_mem _ (List.mem_append_left _ (List.mem_of_getElem? (i := 23) rfl))) (fun _ hh => (List.mem_cons_of_mem _ (List.mem_append_right _ (List.mem_append_right _ (List.mem_append_right _ (List.mem_append_right _ (List.mem_append_right _ (List.mem_append_right _ (List.mem_append_right _ (List.mem_append_right _ (List.mem_append_left _ hh))))))))))) gd_c_goOn4) rfl rfl rfl (by decide +kernel) ⟨Nat.le_of_ble_eq_true rfl, Nat.le_of_ble_eq_true rfl⟩) ⟨pw_blind, tw_recv hK hT (fx_6 hX) (by decide) cl_e16 rfl, pw_use hT hK hFc hS hM⟩ rfl rfl hl.1 rfl (lv_room (Nat.le_of_ble_eq_true rfl)) dX7_beginHand_145 ⟨Nat.le_of_ble_eq_true rfl, Nat.le_of_ble_eq_true rfl⟩) hS (fun q _ h => hFc q h) hFc (fun u0 t H locs ht hvm hw hB hz1 hk1 hS => ?_)
      refine W.widen (k := 0) (n := 0) (Nat.le_of_ble_eq_true rfl) (Nat.le_of_ble_eq_true rfl) ?_
      clear hvm hz1 hk1
      obtain ⟨y_19, hgy_19, hf_20, hf_21, hf_22, hT⟩ := hB
      rw [ht] at hT
      have hG := hG.tr hgy_19 (by decide)
      have hI := hI.ag hgy_19 (by decide)
      exact W.vret hx hb hr (fun t ht hW9 => ⟨⟨(), rfl, trivial, ⟨y_19, hG, by omega, by omega, by omega, tw_at ht hT⟩⟩, hS.F ht⟩) hS.2.2 dX7_beginHand_148
  · have nc_1 := z_nlt rfl rfl c_1
    refine lv_iload_n hx hb dX7_beginHand_8 rfl (lv_at hl 2 rfl) ?_
    refine lv_if_ne (tgt := 21) hx hb dX7_beginHand_9 (by decide) (fun c_23 => ?_) (fun c_23 => ?_)
    · have nc_23 := z_ne rfl (zk (x := 0) 0 rfl) c_23
      exact W.vret hx hb hr (fun t ht hW9 => ⟨⟨(), rfl, trivial, ⟨y, hG, by omega, by omega, by omega, tw_at ht hT⟩⟩, hS.F ht⟩) hS.2.2 dX7_beginHand_21
    · have nc_23 := z_eq rfl (zk (x := 0) 0 rfl) c_23
      refine lv_aload_n hx hb dX7_beginHand_12 rfl (lv_at hl 0 rfl) ?_
      refine lv_iload_n hx hb dX7_beginHand_13 rfl (lv_at hl 3 rfl) ?_
      refine lv_iload hx hb dX7_beginHand_14 (lv_at hl 4 rfl) ?_
      refine lv_iload hx hb dX7_beginHand_16 (lv_at hl 5 rfl) ?_
      have hFc := tw_free hF hS hA
      refine va_callv (va_runV (As := [.int p2, .int p3, .int p4]) (rest := []) ⟨hx, hb, hml, hown, hts⟩ (c_keep l dC dI ad av s.heap.size a k τ ln y g u p2 p3 p4 hI (by omega) (by omega) (by omega)) (cwV 3 hts (gi_4 (List.mem_cons_of_mem _ (List.mem_append_left _ (List.mem_of_getElem? (i := 24) rfl))) (List.mem_cons_of_mem _ (List.mem_append_left _ (List.mem_of_getElem? (i := 25) rfl))) (List.mem_cons_of_mem _ (List.mem_append_left _ (List.mem_of_getElem? (i := 26) rfl))) (List.mem_cons_of_mem _ (List.mem_append_left _ (List.mem_of_getElem? (i := 23) rfl))) (fun _ hh => (List.mem_cons_of_mem _ (List.mem_append_right _ (List.mem_append_right _ (List.mem_append_right _ (List.mem_append_right _ (List.mem_append_right _ (List.mem_append_right _ (List.mem_append_right _ (List.mem_append_right _ (List.mem_append_right _ (List.mem_append_left _ hh)))))))))))) gd_c_keep) rfl rfl rfl (by decide +kernel) ⟨Nat.le_of_ble_eq_true rfl, Nat.le_of_ble_eq_true rfl⟩) ⟨pw_blind, tw_recv hK hT (fx_6 hX) (by decide) cl_e16 rfl, pw_use hT hK hFc hS hM⟩ rfl rfl hl.1 rfl (lv_room (Nat.le_of_ble_eq_true rfl)) dX7_beginHand_18 ⟨Nat.le_of_ble_eq_true rfl, Nat.le_of_ble_eq_true rfl⟩) hS (fun q _ h => hFc q h) hFc (fun u0 t H locs ht hvm hw hB hz1 hk1 hS => ?_)
      refine W.widen (k := 0) (n := 0) (Nat.le_of_ble_eq_true rfl) (Nat.le_of_ble_eq_true rfl) ?_
      clear hvm hz1 hk1
      obtain ⟨y_25, hgy_25, hf_26, hf_27, hf_28, hT⟩ := hB
      rw [ht] at hT
      have hG := hG.tr hgy_25 (by decide)
      have hI := hI.ag hgy_25 (by decide)
      exact W.vret hx hb hr (fun t ht hW9 => ⟨⟨(), rfl, trivial, ⟨y_25, hG, by omega, by omega, by omega, tw_at ht hT⟩⟩, hS.F ht⟩) hS.2.2 dX7_beginHand_21
def wo_c_goOn3 : List Cond := [.fieldLink RX7 78 "TypingPool$Planner" "handCount" "I", .methodLink RX7 126 yX7_isBetter, .instanceMethod yX7_isBetter, .selects RX7 yX7_isBetter yX7_isBetter, .initialized RX7, .fieldLink RX7 21 "TypingPool$Planner" "current" "[I", .methodLink RX7 63 yX7_beginHand, .instanceMethod yX7_beginHand, .selects RX7 yX7_beginHand yX7_beginHand, .fieldLink RX7 15 "TypingPool$Planner" "hands" "[I", .fieldLink RX7 42 "TypingPool$Planner" "pieceCount" "I", .fieldLink RX7 18 "TypingPool$Planner" "allowed" "[I", .fieldLink RX7 9 "TypingPool$Planner" "pieces" "[I", .fieldLink RX7 27 "TypingPool$Planner" "book" "LTypingPool$Book;", .fieldLink RX7 115 "TypingPool$Book" "pieces" "[LTypingPool$Piece;", .methodLink RX7 130 yX6_allWork, .instanceMethod yX6_allWork, .selects RX6 yX6_allWork yX6_allWork, .initialized RX6, .fieldLink RX7 31 "TypingPool$Planner" "floor" "LTypingPool$Floor;", .methodLink RX7 133 yX3_rateFor, .instanceMethod yX3_rateFor, .selects RX3 yX3_rateFor yX3_rateFor, .initialized RX3, .initialized RX11, .static yX11_minutesFor, .methodLink RX7 111 yX1_minuteAfterWork, .instanceMethod yX1_minuteAfterWork, .selects RX1 yX1_minuteAfterWork yX1_minuteAfterWork, .initialized RX1, .fieldLink RX7 136 "TypingPool$Piece" "due" "I", .methodLink RX7 139 Lib.Math.max.name, .static Lib.Math.max.name, .initialized "java/lang/Math", .code Lib.Math.max.name Lib.Math.max.code 2 (some .int), .fieldLink RX7 118 "TypingPool$Piece" "words" "I", .methodLink RX7 122 yX7_goOn, .instanceMethod yX7_goOn, .selects RX7 yX7_goOn yX7_goOn]
def wm_c_goOn3 : List Cond := .code yX7_goOn cX7_goOn 15 none :: (wo_c_goOn3 ++ (wsX70 ++ (wm_c_isBetter ++ (wm_c_beginHand4 ++ (wsX10 ++ (wm_c_allWork ++ (wm_c_rateFor ++ (wm_c_minutesFor ++ (wm_c_minuteAfterWork ++ (wsX60 ++ (wm_c_goOn4 ++ ([] : List Cond))))))))))))
theorem gd_c_goOn3 : ∀ w ∈ wm_c_goOn3, goodWord w = true := gd_c rfl (gd_a (by decide) (gd_a gd_wsX70 (gd_a gd_c_isBetter (gd_a gd_c_beginHand4 (gd_a gd_wsX10 (gd_a gd_c_allWork (gd_a gd_c_rateFor (gd_a gd_c_minutesFor (gd_a gd_c_minuteAfterWork (gd_a gd_wsX60 (gd_a gd_c_goOn4 gd_nil)))))))))))
set_option maxRecDepth 20000 in
theorem im_c_goOn3 : ∀ w ∈ wm_c_goOn3, w ∈ lw_tbl := im_c (in_r [.code yX7_goOn cX7_goOn 15 none] [1060] (by decide +kernel)) (in_app (in_r wo_c_goOn3 [520, 1047, 1049, 23, 85, 522, 1039, 1041, 21, 519, 518, 521, 517, 515, 128, 1061, 720, 721, 89, 516, 1062, 820, 821, 83, 70, 845, 1053, 1054, 1055, 71, 683, 1063, 289, 78, 290, 687, 1057, 1059, 24] (by decide +kernel)) (in_app im_wsX70 (in_app im_c_isBetter (in_app im_c_beginHand4 (in_app im_wsX10 (in_app im_c_allWork (in_app im_c_rateFor (in_app im_c_minutesFor (in_app im_c_minuteAfterWork (in_app im_wsX60 (in_app im_c_goOn4 im_nil)))))))))))
set_option maxHeartbeats 4000000 in
set_option maxRecDepth 100000 in
theorem c_goOn3 (l : Launch) (dC : Nat → ClassId) (dI : Nat → Nat → Nat) (ad av : Nat → Nat) (sz : Nat) (a : Nat → Nat) (k : Nat → ClassId) (τ ln : Nat → Nat) (y : Nat → Nat → Int32) (g : Nat → Nat → Option Nat) (u : Nat → Int) (p0 : Int32) (p1 : Int32) (p2 : Int32) (p3 : Int32) (p4 : Int32) (p5 : Int32) (p6 : Int32) (nP : Int) (nH : Int) (hI : IC a u τ ln y g) (g3 : (y (a 6) 3).toInt = nP) (g5 : (y (a 6) 5).toInt = nH) (gn : (0 ≤ nP ∧ nP ≤ 5) ∧ 0 ≤ nH ∧ nH ≤ 3) (gp : vl nP (u 2) (y (a 41))) (gh : vl nH (u 1) (y (a 42))) (g9 : 0 ≤ (y (a 6) 9).toInt ∧ (y (a 6) 9).toInt ≤ 8) (hp0 : 0 ≤ p0.toInt) (hlen : p6.toInt = 3) : Met l yX7_goOn wm_c_goOn3 ({ frames := 12, cells := 0, slots := 0, locals := 720 }) (pw_ ad av (dC, dI) sz [.ref (a 6), .int p0, .int p1, .int p2, .int p3, .int p4, .int p5, .int p6] a k τ ln y g) (va_Qv (fun (_ : Unit) => True) (fun (_ : Unit) (t : State) => (∃ (y' : Nat → Nat → Int32), ag τ [16, 54, 55] y y' ∧ (y' (a 6) 3).toInt = (y (a 6) 3).toInt ∧ (y' (a 6) 5).toInt = (y (a 6) 5).toInt ∧ (0 ≤ (y' (a 6) 9).toInt ∧ (y' (a 6) 9).toInt ≤ 8) ∧ tw (dC, dI) a k τ ln y' g t.heap)) (fr τ sz)) 0 0 (fr τ sz) := by
  refine Met.ofW (cc := cX7_goOn) (maxL := 15) (ret := none) (by decide) rfl ?_
  intro p e s m args below meth c s₁ B hml hv
  obtain ⟨rfl, hsz, hT, hK, hM⟩ := hv
  have hx := B.exec
  have hb := B.bytes
  have hr := B.returns
  have hts := atoms_spec (ws := wm_c_goOn3) B.pre
  have hown : s.vm.findClass RX7 = some m.cls := findClass_of_methodNamed B.named
  have hlocks := B.notSynchronized
  subst hsz
  generalize hAe : fr τ s.heap.size = A at hM ⊢
  have hA : ∀ q : Nat, s.heap.size ≤ q → A q := fun q h => by rw [← hAe]; exact Or.inr h
  have hF : ∀ q, τ q ≠ 0 → A q := fun q h => by rw [← hAe]; exact Or.inl h
  have hS : va_S A s.heap s.heap [] := va_S.rf
  have hX := hI.1
  have hR := ic_r hI
  have hG : ag τ [16, 54, 55] y y := ag.rf
  have hl := lv_entry ([.ref (a 6), .int p0, .int p1, .int p2, .int p3, .int p4, .int p5, .int p6]) (n := 15) (Nat.le_of_ble_eq_true rfl)
  rw [lg_entry_eq]
  generalize (lg_sl ([.ref (a 6), .int p0, .int p1, .int p2, .int p3, .int p4, .int p5, .int p6]) ++ List.replicate (15 - (lg_sl ([.ref (a 6), .int p0, .int p1, .int p2, .int p3, .int p4, .int p5, .int p6])).length) Slot.unset).toArray = ls at hl ⊢
  have hl : lv_has ls 15 [(0, .ref (a 6)), (1, .int p0), (2, .int p1), (3, .int p2), (4, .int p3), (5, .int p4), (6, .int p5), (7, .int p6)] := hl
  refine lv_iload hx hb dX7_goOn_0 (lv_at hl 7 rfl) ?_
  refine lv_bipush (v := 8) hx hb dX7_goOn_2 (by decide) ?_
  refine lv_icmp_ge (tgt := 26) hx hb dX7_goOn_4 (by decide) (fun c_1 => ?_) (fun c_1 => ?_)
  · have nc_1 := z_le (zk (x := 8) 8 rfl) rfl c_1
    exact W.vret hx hb hr (fun t ht hW9 => ⟨⟨(), rfl, trivial, ⟨y, hG, by omega, by omega, by omega, tw_at ht hT⟩⟩, hS.F ht⟩) hS.2.2 dX7_goOn_26
  · have nc_1 := z_nle (zk (x := 8) 8 rfl) rfl c_1
    refine lv_iload_n hx hb dX7_goOn_7 rfl (lv_at hl 1 rfl) ?_
    refine lv_aload_n hx hb dX7_goOn_8 rfl (lv_at hl 0 rfl) ?_
    refine tw_get (D := (dC, dI)) (v := .int (y (a 6) 5)) (C := RX7) (T := TX7) (N := 13) hx hb hts (fun _ hh => (List.mem_cons_of_mem _ (List.mem_append_right _ (List.mem_append_left _ hh)))) hown hK hT (fx_6 hX) (by decide) cl_e16 rfl 5 (by decide) (hts (.fieldLink RX7 78 "TypingPool$Planner" "handCount" "I") (List.mem_cons_of_mem _ (List.mem_append_left _ (List.mem_of_getElem? (i := 0) rfl)))) (fun _ h9 => h9) rfl dX7_goOn_9 ?_
    refine lv_icmp_ge (tgt := 26) hx hb dX7_goOn_12 (by decide) (fun c_2 => ?_) (fun c_2 => ?_)
    · have nc_2 := z_le rfl rfl c_2
      exact W.vret hx hb hr (fun t ht hW9 => ⟨⟨(), rfl, trivial, ⟨y, hG, by omega, by omega, by omega, tw_at ht hT⟩⟩, hS.F ht⟩) hS.2.2 dX7_goOn_26
    · have nc_2 := z_nle rfl rfl c_2
      refine lv_aload_n hx hb dX7_goOn_15 rfl (lv_at hl 0 rfl) ?_
      refine lv_iload hx hb dX7_goOn_16 (lv_at hl 5 rfl) ?_
      refine lv_iload hx hb dX7_goOn_18 (lv_at hl 6 rfl) ?_
      have hFc := tw_free hF hS hA
      refine va_calli (va_runV (As := [.int p4, .int p5]) (rest := []) ⟨hx, hb, hml, hown, hts⟩ (c_isBetter l dC dI ad av s.heap.size a k τ ln y g u p4 p5 hI ) (cwV 2 hts (gi_4 (List.mem_cons_of_mem _ (List.mem_append_left _ (List.mem_of_getElem? (i := 1) rfl))) (List.mem_cons_of_mem _ (List.mem_append_left _ (List.mem_of_getElem? (i := 2) rfl))) (List.mem_cons_of_mem _ (List.mem_append_left _ (List.mem_of_getElem? (i := 3) rfl))) (List.mem_cons_of_mem _ (List.mem_append_left _ (List.mem_of_getElem? (i := 4) rfl))) (fun _ hh => (List.mem_cons_of_mem _ (List.mem_append_right _ (List.mem_append_right _ (List.mem_append_left _ hh))))) gd_c_isBetter) rfl rfl rfl (by decide +kernel) ⟨Nat.le_of_ble_eq_true rfl, Nat.le_of_ble_eq_true rfl⟩) ⟨pw_blind, tw_recv hK hT (fx_6 hX) (by decide) cl_e16 rfl, pw_use hT hK hFc hS hM⟩ rfl rfl hl.1 rfl (lv_room (Nat.le_of_ble_eq_true rfl)) dX7_goOn_20 ⟨Nat.le_of_ble_eq_true rfl, Nat.le_of_ble_eq_true rfl⟩) hS (fun q _ h => hFc q h) hFc (fun r0 r_3 t H locs ht hvm hw hB hz1 hk1 hS => ?_)
      refine W.widen (k := 0) (n := 0) (Nat.le_of_ble_eq_true rfl) (Nat.le_of_ble_eq_true rfl) ?_
      clear hvm hz1 hk1
      subst hw
      rcases hB with ⟨hre, hT⟩ | ⟨hre, hT⟩
      · refine lq_top (v := 1) hre ?_
        rw [ht] at hT
        refine lv_if_ne (tgt := 27) hx hb dX7_goOn_23 (by decide) (fun c_4 => ?_) (fun c_4 => absurd c_4 (by decide))
        refine lv_aload_n hx hb dX7_goOn_27 rfl (lv_at hl 0 rfl) ?_
        refine tw_get (D := (dC, dI)) (v := .ref (a 44)) (C := RX7) (T := TX7) (N := 13) hx hb hts (fun _ hh => (List.mem_cons_of_mem _ (List.mem_append_right _ (List.mem_append_left _ hh)))) hown hK hT (fx_6 hX) (by decide) cl_e16 rfl 7 (by decide) (hts (.fieldLink RX7 21 "TypingPool$Planner" "current" "[I") (List.mem_cons_of_mem _ (List.mem_append_left _ (List.mem_of_getElem? (i := 5) rfl)))) (fun _ h9 => h9) rfl dX7_goOn_28 ?_
        refine lv_iload hx hb dX7_goOn_31 (lv_at hl 7 rfl) ?_
        refine lv_iconst (v := (-1)) hx hb dX7_goOn_33 (by decide) ?_
        refine tw_iast hx hb hK hT hF hS 0 (fx_44 hX) (by decide) (fun _ => cl_e54) rfl (z_in rfl (by omega) (by omega)) dX7_goOn_34 (fun H locs hT hS => ?_)
        obtain ⟨y_5, hy_5, hT⟩ : ∃ z : Nat → Nat → Int32, z = up2 y (a 44) p6.toNatClampNeg (-1 : Int32) ∧ tw (dC, dI) a k τ ln z g H := ⟨_, rfl, hT⟩
        have hG : ag τ [16, 54, 55] y y_5 := by rw [hy_5]; exact hG.up (fx_44 hX) (by decide)
        have : (y_5 (a 6) 3).toInt = (y (a 6) 3).toInt := by rw [hy_5, up2_o (kd_ne (fx_6 hX) (fx_44 hX) (by decide))]
        have : (y_5 (a 6) 5).toInt = (y (a 6) 5).toInt := by rw [hy_5, up2_o (kd_ne (fx_6 hX) (fx_44 hX) (by decide))]
        have : (y_5 (a 6) 9).toInt = (y (a 6) 9).toInt := by rw [hy_5, up2_o (kd_ne (fx_6 hX) (fx_44 hX) (by decide))]
        have hI := hI.ag (S := [54]) (y' := y_5) (by rw [hy_5]; exact ag.one (fx_44 hX)) (by decide)
        refine lv_aload_n hx hb dX7_goOn_35 rfl (lv_at hl 0 rfl) ?_
        refine lv_iload_n hx hb dX7_goOn_36 rfl (lv_at hl 1 rfl) ?_
        refine lv_iconst (v := 1) hx hb dX7_goOn_37 (by decide) ?_
        refine lv_iadd hx hb dX7_goOn_38 ?_
        refine lv_topi (fun x_6 ex_6 => ?_)
        have hx_6 := z_add ex_6 rfl (zk (x := 1) 1 rfl) (by omega) (by omega)
        refine lv_iload_n hx hb dX7_goOn_39 rfl (lv_at hl 2 rfl) ?_
        refine lv_iload hx hb dX7_goOn_40 (lv_at hl 5 rfl) ?_
        refine lv_iload hx hb dX7_goOn_42 (lv_at hl 6 rfl) ?_
        refine lv_iload hx hb dX7_goOn_44 (lv_at hl 7 rfl) ?_
        refine lv_iconst (v := 1) hx hb dX7_goOn_46 (by decide) ?_
        refine lv_iadd hx hb dX7_goOn_47 ?_
        refine lv_topi (fun x_7 ex_7 => ?_)
        have hx_7 := z_add ex_7 rfl (zk (x := 1) 1 rfl) (by omega) (by omega)
        have hFc := tw_free hF hS hA
        refine va_callv (va_runV (As := [.int x_6, .int p1, .int p4, .int p5, .int x_7]) (rest := []) ⟨hx, hb, hml, hown, hts⟩ (c_beginHand4 l dC dI ad av H.size a k τ ln y_5 g u x_6 p1 p4 p5 x_7 nP nH hI (by omega) (by omega) gn (by rw [hG.at (fx_41 hX) (by decide)]; exact gp) (by rw [hG.at (fx_42 hX) (by decide)]; exact gh) (by omega) (by omega) (by omega)) (cwV 5 hts (gi_4 (List.mem_cons_of_mem _ (List.mem_append_left _ (List.mem_of_getElem? (i := 6) rfl))) (List.mem_cons_of_mem _ (List.mem_append_left _ (List.mem_of_getElem? (i := 7) rfl))) (List.mem_cons_of_mem _ (List.mem_append_left _ (List.mem_of_getElem? (i := 8) rfl))) (List.mem_cons_of_mem _ (List.mem_append_left _ (List.mem_of_getElem? (i := 4) rfl))) (fun _ hh => (List.mem_cons_of_mem _ (List.mem_append_right _ (List.mem_append_right _ (List.mem_append_right _ (List.mem_append_left _ hh)))))) gd_c_beginHand4) rfl rfl rfl (by decide +kernel) ⟨Nat.le_of_ble_eq_true rfl, Nat.le_of_ble_eq_true rfl⟩) ⟨pw_blind, tw_recv hK hT (fx_6 hX) (by decide) cl_e16 rfl, pw_use hT hK hFc hS hM⟩ rfl rfl hl.1 rfl (lv_room (Nat.le_of_ble_eq_true rfl)) dX7_goOn_48 ⟨Nat.le_of_ble_eq_true rfl, Nat.le_of_ble_eq_true rfl⟩) hS (fun q _ h => hFc q h) hFc (fun u0 t H locs ht hvm hw hB hz1 hk1 hS => ?_)
        refine W.widen (k := 0) (n := 0) (Nat.le_of_ble_eq_true rfl) (Nat.le_of_ble_eq_true rfl) ?_
        clear hvm hz1 hk1
        obtain ⟨y_9, hgy_9, hf_10, hf_11, hf_12, hT⟩ := hB
        rw [ht] at hT
        have hG := hG.tr hgy_9 (by decide)
        have hI := hI.ag hgy_9 (by decide)
        refine lv_aload_n hx hb dX7_goOn_51 rfl (lv_at hl 0 rfl) ?_
        refine tw_get (D := (dC, dI)) (v := .ref (a 42)) (C := RX7) (T := TX7) (N := 13) hx hb hts (fun _ hh => (List.mem_cons_of_mem _ (List.mem_append_right _ (List.mem_append_left _ hh)))) hown hK hT (fx_6 hX) (by decide) cl_e16 rfl 4 (by decide) (hts (.fieldLink RX7 15 "TypingPool$Planner" "hands" "[I") (List.mem_cons_of_mem _ (List.mem_append_left _ (List.mem_of_getElem? (i := 9) rfl)))) (fun _ h9 => h9) rfl dX7_goOn_52 ?_
        refine lv_iload_n hx hb dX7_goOn_55 rfl (lv_at hl 1 rfl) ?_
        refine tw_iald hx hb hK hT 0 (fx_42 hX) (by decide) cl_e52 rfl (z_in rfl (by omega) (by omega)) dX7_goOn_56 ?_
        have hv0 : vl nH (u 1) (y_9 (a 42)) := (by rw [hG.at (fx_42 hX) (by decide)]; exact gh)
        have hv_13 := vl_at hv0 (x := p0) rfl (by omega) (by omega)
        refine lv_istore (lv' := [(8, .int (y_9 (a 42) p0.toNatClampNeg)), (0, .ref (a 6)), (1, .int p0), (2, .int p1), (3, .int p2), (4, .int p3), (5, .int p4), (6, .int p5), (7, .int p6)]) hx hb dX7_goOn_57 hl (by decide) rfl (fun ls hl => ?_)
        refine lv_iconst (v := 0) hx hb dX7_goOn_59 (by decide) ?_
        refine lv_istore (lv' := [(9, .int 0), (8, .int (y_9 (a 42) p0.toNatClampNeg)), (0, .ref (a 6)), (1, .int p0), (2, .int p1), (3, .int p2), (4, .int p3), (5, .int p4), (6, .int p5), (7, .int p6)]) hx hb dX7_goOn_60 hl (by decide) rfl (fun ls hl => ?_)
        have loop_62 : ∀ (n : Nat) (i9 : Int32) (y_L62 : Nat → Nat → Int32) (H : Heap) (locs : List Loc) (ls : Array Slot), (nP - i9.toInt).toNat < n → ag τ [16, 54, 55] y y_L62 → IC a u τ ln y_L62 g → 0 ≤ i9.toInt → i9.toInt ≤ nP → (y_L62 (a 6) 3).toInt = nP → (y_L62 (a 6) 5).toInt = nH → 0 ≤ (y_L62 (a 6) 9).toInt ∧ (y_L62 (a 6) 9).toInt ≤ 8 → tw (dC, dI) a k τ ln y_L62 g H → va_S A s.heap H locs → lv_has ls 15 [(0, .ref (a 6)), (1, .int p0), (2, .int p1), (3, .int p2), (4, .int p3), (5, .int p4), (6, .int p5), (7, .int p6), (8, .int (y_9 (a 42) p0.toNatClampNeg)), (9, .int i9)] → W p l e (headSpec wm_c_goOn3 ({ frames := 12, cells := 0, slots := 0, locals := 720 })).room s m ([.ref (a 6), .int p0, .int p1, .int p2, .int p3, .int p4, .int p5, .int p6] : List Value).toArray below meth c H locs 0 0 (MQ below (va_Qv (fun (_ : Unit) => True) (fun (_ : Unit) (t : State) => (∃ (y' : Nat → Nat → Int32), ag τ [16, 54, 55] y y' ∧ (y' (a 6) 3).toInt = (y (a 6) 3).toInt ∧ (y' (a 6) 5).toInt = (y (a 6) 5).toInt ∧ (0 ≤ (y' (a 6) 9).toInt ∧ (y' (a 6) 9).toInt ≤ 8) ∧ tw (dC, dI) a k τ ln y' g t.heap)) A) ([.ref (a 6), .int p0, .int p1, .int p2, .int p3, .int p4, .int p5, .int p6] : List Value).toArray s 0 0 A) (F0 m 62 ls []) := by
          intro n
          induction n with
          | zero => intro i9 y_L62 H locs ls hlt; exact absurd hlt (Nat.not_lt_zero _)
          | succ n ih_62 =>
            intro i9 y_L62 H locs ls hlt hG hI hi62_0 hi62_1 hi62_2 hi62_3 hi62_4 hT hS hl
            refine lv_iload hx hb dX7_goOn_62 (lv_at hl 9 rfl) ?_
            refine lv_aload_n hx hb dX7_goOn_64 rfl (lv_at hl 0 rfl) ?_
            refine tw_get (D := (dC, dI)) (v := .int (y_L62 (a 6) 3)) (C := RX7) (T := TX7) (N := 13) hx hb hts (fun _ hh => (List.mem_cons_of_mem _ (List.mem_append_right _ (List.mem_append_left _ hh)))) hown hK hT (fx_6 hX) (by decide) cl_e16 rfl 3 (by decide) (hts (.fieldLink RX7 42 "TypingPool$Planner" "pieceCount" "I") (List.mem_cons_of_mem _ (List.mem_append_left _ (List.mem_of_getElem? (i := 10) rfl)))) (fun _ h9 => h9) rfl dX7_goOn_65 ?_
            refine lv_icmp_ge (tgt := 220) hx hb dX7_goOn_68 (by decide) (fun c_14 => ?_) (fun c_14 => ?_)
            · have nc_14 := z_le rfl rfl c_14
              exact W.vret hx hb hr (fun t ht hW9 => ⟨⟨(), rfl, trivial, ⟨y_L62, hG, by omega, by omega, by omega, tw_at ht hT⟩⟩, hS.F ht⟩) hS.2.2 dX7_goOn_220
            · have nc_14 := z_nle rfl rfl c_14
              refine lv_iload_n hx hb dX7_goOn_71 rfl (lv_at hl 2 rfl) ?_
              refine lv_aload_n hx hb dX7_goOn_72 rfl (lv_at hl 0 rfl) ?_
              refine tw_get (D := (dC, dI)) (v := .ref (a 43)) (C := RX7) (T := TX7) (N := 13) hx hb hts (fun _ hh => (List.mem_cons_of_mem _ (List.mem_append_right _ (List.mem_append_left _ hh)))) hown hK hT (fx_6 hX) (by decide) cl_e16 rfl 6 (by decide) (hts (.fieldLink RX7 18 "TypingPool$Planner" "allowed" "[I") (List.mem_cons_of_mem _ (List.mem_append_left _ (List.mem_of_getElem? (i := 11) rfl)))) (fun _ h9 => h9) rfl dX7_goOn_73 ?_
              refine lv_iload_n hx hb dX7_goOn_76 rfl (lv_at hl 1 rfl) ?_
              refine tw_iald hx hb hK hT 0 (fx_43 hX) (by decide) cl_e53 rfl (z_in rfl (by omega) (by omega)) dX7_goOn_77 ?_
              refine lv_iand hx hb dX7_goOn_78 ?_
              refine lv_topi (fun x_15 ex_15 => ?_)
              refine lv_iload hx hb dX7_goOn_79 (lv_at hl 9 rfl) ?_
              refine lv_ishr hx hb dX7_goOn_81 ?_
              refine lv_topi (fun x_16 ex_16 => ?_)
              refine lv_iconst (v := 1) hx hb dX7_goOn_82 (by decide) ?_
              refine lv_iand hx hb dX7_goOn_83 ?_
              refine lv_topi (fun x_17 ex_17 => ?_)
              have hx_17 := z_and (x := x_16) (zk (x := 1) 1 rfl) (by omega)
              rw [← ex_17] at hx_17
              refine lv_iconst (v := 1) hx hb dX7_goOn_84 (by decide) ?_
              refine lv_icmp_ne (tgt := 214) hx hb dX7_goOn_85 (by decide) (fun c_18 => ?_) (fun c_18 => ?_)
              · have nc_18 := z_ne rfl (zk (x := 1) 1 rfl) c_18
                obtain ⟨x_19, ex_19⟩ : ∃ y : Int32, y = i9 + Int32.ofInt 1 := ⟨_, rfl⟩
                have hx_19 := z_add ex_19 rfl (zk (x := Int32.ofInt 1) 1 rfl) (by omega) (by omega)
                refine lv_iinc (v := x_19) (lv' := [(9, .int x_19), (0, .ref (a 6)), (1, .int p0), (2, .int p1), (3, .int p2), (4, .int p3), (5, .int p4), (6, .int p5), (7, .int p6), (8, .int (y_9 (a 42) p0.toNatClampNeg))]) hx hb dX7_goOn_214 hl (k := 9) rfl ex_19.symm (by decide) rfl (fun ls hl => ?_)
                refine lv_goto (tgt := 62) hx hb dX7_goOn_217 (by decide) ?_
                exact ih_62  x_19 y_L62 H _ ls (by omega) hG hI (by omega) (by omega) (by omega) (by omega) (by omega) hT hS (lv_sub hl [1, 2, 3, 4, 5, 6, 7, 8, 9, 0] rfl)
              · have nc_18 := z_eq rfl (zk (x := 1) 1 rfl) c_18
                refine lv_aload_n hx hb dX7_goOn_88 rfl (lv_at hl 0 rfl) ?_
                refine tw_get (D := (dC, dI)) (v := .ref (a 41)) (C := RX7) (T := TX7) (N := 13) hx hb hts (fun _ hh => (List.mem_cons_of_mem _ (List.mem_append_right _ (List.mem_append_left _ hh)))) hown hK hT (fx_6 hX) (by decide) cl_e16 rfl 2 (by decide) (hts (.fieldLink RX7 9 "TypingPool$Planner" "pieces" "[I") (List.mem_cons_of_mem _ (List.mem_append_left _ (List.mem_of_getElem? (i := 12) rfl)))) (fun _ h9 => h9) rfl dX7_goOn_89 ?_
                refine lv_iload hx hb dX7_goOn_92 (lv_at hl 9 rfl) ?_
                refine tw_iald hx hb hK hT 0 (fx_41 hX) (by decide) cl_e51 rfl (z_in rfl (by omega) (by omega)) dX7_goOn_94 ?_
                have hv0 : vl nP (u 2) (y_L62 (a 41)) := (by rw [hG.at (fx_41 hX) (by decide)]; exact gp)
                have hv_20 := vl_at hv0 (x := i9) rfl (by omega) (by omega)
                refine lv_istore (lv' := [(10, .int (y_L62 (a 41) i9.toNatClampNeg)), (0, .ref (a 6)), (1, .int p0), (2, .int p1), (3, .int p2), (4, .int p3), (5, .int p4), (6, .int p5), (7, .int p6), (8, .int (y_9 (a 42) p0.toNatClampNeg)), (9, .int i9)]) hx hb dX7_goOn_95 hl (by decide) rfl (fun ls hl => ?_)
                refine lv_aload_n hx hb dX7_goOn_97 rfl (lv_at hl 1 rfl) ?_
                refine tw_get (D := (dC, dI)) (v := .ref (a 1)) (C := RX7) (T := TX7) (N := 13) hx hb hts (fun _ hh => (List.mem_cons_of_mem _ (List.mem_append_right _ (List.mem_append_left _ hh)))) hown hK hT (fx_6 hX) (by decide) cl_e16 rfl 0 (by decide) (hts (.fieldLink RX7 27 "TypingPool$Planner" "book" "LTypingPool$Book;") (List.mem_cons_of_mem _ (List.mem_append_left _ (List.mem_of_getElem? (i := 13) rfl)))) (fun _ h9 => h9) rfl dX7_goOn_98 ?_
                refine tw_get (D := (dC, dI)) (v := .ref (a 11)) (C := RX1) (T := TX1) (N := 8) hx hb hts (fun _ hh => (List.mem_cons_of_mem _ (List.mem_append_right _ (List.mem_append_right _ (List.mem_append_right _ (List.mem_append_right _ (List.mem_append_left _ hh))))))) hown hK hT (fx_1 hX) (by decide) cl_e11 rfl 4 (by decide) (hts (.fieldLink RX7 115 "TypingPool$Book" "pieces" "[LTypingPool$Piece;") (List.mem_cons_of_mem _ (List.mem_append_left _ (List.mem_of_getElem? (i := 14) rfl)))) (fun _ h9 => h9) rfl dX7_goOn_101 ?_
                refine lv_iload hx hb dX7_goOn_104 (lv_at hl 0 rfl) ?_
                refine tw_aald hx hb hK hT 4 (fx_11 hX) (by decide) cl_e21 rfl (z_in rfl (by omega) (by omega)) dX7_goOn_106 ?_
                obtain ⟨q_21, hgq_21, htq_21⟩ := ic_l11 hI (x := (y_L62 (a 41) i9.toNatClampNeg)) rfl (by omega) (by omega)
                refine lq_topr hgq_21 ?_
                refine lv_astore (lv' := [(11, .ref q_21), (10, .int (y_L62 (a 41) i9.toNatClampNeg)), (0, .ref (a 6)), (1, .int p0), (2, .int p1), (3, .int p2), (4, .int p3), (5, .int p4), (6, .int p5), (7, .int p6), (8, .int (y_9 (a 42) p0.toNatClampNeg)), (9, .int i9)]) hx hb dX7_goOn_107 hl (by decide) rfl (fun ls hl => ?_)
                refine lv_aload hx hb dX7_goOn_109 (lv_at hl 0 rfl) ?_
                have hFc := tw_free hF hS hA
                refine va_calli (va_runV (As := []) (rest := []) ⟨hx, hb, hml, hown, hts⟩ (c_allWork l dC dI ad av H.size a k τ ln y_L62 g u q_21 hI htq_21) (cwV 0 hts (gi_4 (List.mem_cons_of_mem _ (List.mem_append_left _ (List.mem_of_getElem? (i := 15) rfl))) (List.mem_cons_of_mem _ (List.mem_append_left _ (List.mem_of_getElem? (i := 16) rfl))) (List.mem_cons_of_mem _ (List.mem_append_left _ (List.mem_of_getElem? (i := 17) rfl))) (List.mem_cons_of_mem _ (List.mem_append_left _ (List.mem_of_getElem? (i := 18) rfl))) (fun _ hh => (List.mem_cons_of_mem _ (List.mem_append_right _ (List.mem_append_right _ (List.mem_append_right _ (List.mem_append_right _ (List.mem_append_right _ (List.mem_append_left _ hh)))))))) gd_c_allWork) rfl rfl rfl (by decide +kernel) ⟨Nat.le_of_ble_eq_true rfl, Nat.le_of_ble_eq_true rfl⟩) ⟨pw_blind, tw_recv hK hT htq_21 (by decide) cl_e2 rfl, pw_use hT hK hFc hS hM⟩ rfl rfl hl.1 rfl (lv_room (Nat.le_of_ble_eq_true rfl)) dX7_goOn_111 ⟨Nat.le_of_ble_eq_true rfl, Nat.le_of_ble_eq_true rfl⟩) hS (fun q _ h => hFc q h) hFc (fun r0 r_22 t H locs ht hvm hw hB hz1 hk1 hS => ?_)
                refine W.widen (k := 0) (n := 0) (Nat.le_of_ble_eq_true rfl) (Nat.le_of_ble_eq_true rfl) ?_
                clear hvm hz1 hk1
                subst hw
                have hT := hB
                rw [ht] at hT
                refine lv_aload_n hx hb dX7_goOn_114 rfl (lv_at hl 2 rfl) ?_
                refine tw_get (D := (dC, dI)) (v := .ref (a 3)) (C := RX7) (T := TX7) (N := 13) hx hb hts (fun _ hh => (List.mem_cons_of_mem _ (List.mem_append_right _ (List.mem_append_left _ hh)))) hown hK hT (fx_6 hX) (by decide) cl_e16 rfl 1 (by decide) (hts (.fieldLink RX7 31 "TypingPool$Planner" "floor" "LTypingPool$Floor;") (List.mem_cons_of_mem _ (List.mem_append_left _ (List.mem_of_getElem? (i := 19) rfl)))) (fun _ h9 => h9) rfl dX7_goOn_115 ?_
                refine lv_iload hx hb dX7_goOn_118 (lv_at hl 10 rfl) ?_
                refine lv_iload hx hb dX7_goOn_120 (lv_at hl 1 rfl) ?_
                refine lv_iload hx hb dX7_goOn_122 (lv_at hl 6 rfl) ?_
                have hFc := tw_free hF hS hA
                refine va_calli (va_runV (As := [.int (y_9 (a 42) p0.toNatClampNeg), .int (y_L62 (a 41) i9.toNatClampNeg), .int p3]) (rest := [.int r_22]) ⟨hx, hb, hml, hown, hts⟩ (c_rateFor l dC dI ad av H.size a k τ ln y_L62 g u (y_9 (a 42) p0.toNatClampNeg) (y_L62 (a 41) i9.toNatClampNeg) p3 hI (by omega) (by omega) (by omega) (by omega)) (cwV 3 hts (gi_4 (List.mem_cons_of_mem _ (List.mem_append_left _ (List.mem_of_getElem? (i := 20) rfl))) (List.mem_cons_of_mem _ (List.mem_append_left _ (List.mem_of_getElem? (i := 21) rfl))) (List.mem_cons_of_mem _ (List.mem_append_left _ (List.mem_of_getElem? (i := 22) rfl))) (List.mem_cons_of_mem _ (List.mem_append_left _ (List.mem_of_getElem? (i := 23) rfl))) (fun _ hh => (List.mem_cons_of_mem _ (List.mem_append_right _ (List.mem_append_right _ (List.mem_append_right _ (List.mem_append_right _ (List.mem_append_right _ (List.mem_append_right _ (List.mem_append_left _ hh))))))))) gd_c_rateFor) rfl rfl rfl (by decide +kernel) ⟨Nat.le_of_ble_eq_true rfl, Nat.le_of_ble_eq_true rfl⟩) ⟨pw_blind, tw_recv hK hT (fx_3 hX) (by decide) cl_e13 rfl, pw_use hT hK hFc hS hM⟩ rfl rfl hl.1 rfl (lv_room (Nat.le_of_ble_eq_true rfl)) dX7_goOn_124 ⟨Nat.le_of_ble_eq_true rfl, Nat.le_of_ble_eq_true rfl⟩) hS (fun q _ h => hFc q h) hFc (fun r0 r_23 t H locs ht hvm hw hB hz1 hk1 hS => ?_)
                refine W.widen (k := 0) (n := 0) (Nat.le_of_ble_eq_true rfl) (Nat.le_of_ble_eq_true rfl) ?_
                clear hvm hz1 hk1
                subst hw
                have hT := hB
                rw [ht] at hT
                have hFc := tw_free hF hS hA
                refine va_calli (va_runSN (As := [.int r_22, .int r_23]) (rest := []) ⟨hx, hb, hml, hown, hts⟩ (c_minutesFor l dC dI ad av H.size a k τ ln y_L62 g u r_22 r_23  ) ⟨va_cnB 2 hts (gi_0  (fun _ hh => (List.mem_cons_of_mem _ (List.mem_append_right _ (List.mem_append_right _ (List.mem_append_right _ (List.mem_append_right _ (List.mem_append_right _ (List.mem_append_right _ (List.mem_append_right _ (List.mem_append_left _ hh)))))))))) gd_c_minutesFor) rfl rfl rfl hM.1.2.2.2.1 (hts (.initialized RX11) (List.mem_cons_of_mem _ (List.mem_append_left _ (List.mem_of_getElem? (i := 24) rfl)))) (by decide +kernel) ⟨Nat.le_of_ble_eq_true rfl, Nat.le_of_ble_eq_true rfl⟩, (hts (.static yX11_minutesFor) (List.mem_cons_of_mem _ (List.mem_append_left _ (List.mem_of_getElem? (i := 25) rfl)))), trivial⟩ ⟨pw_blind, pw_use hT hK hFc hS hM⟩ rfl rfl hl.1 rfl (lv_room (Nat.le_of_ble_eq_true rfl)) dX7_goOn_127 ⟨Nat.le_of_ble_eq_true rfl, Nat.le_of_ble_eq_true rfl⟩) hS (fun q _ h => hFc q h) hFc (fun r0 r_24 t H locs ht hvm hw hB hz1 hk1 hS => ?_)
                refine W.widen (k := 0) (n := 0) (Nat.le_of_ble_eq_true rfl) (Nat.le_of_ble_eq_true rfl) ?_
                clear hvm hz1 hk1
                subst hw
                have hT := hB
                rw [ht] at hT
                refine lv_istore (lv' := [(12, .int r_24), (11, .ref q_21), (10, .int (y_L62 (a 41) i9.toNatClampNeg)), (0, .ref (a 6)), (1, .int p0), (2, .int p1), (3, .int p2), (4, .int p3), (5, .int p4), (6, .int p5), (7, .int p6), (8, .int (y_9 (a 42) p0.toNatClampNeg)), (9, .int i9)]) hx hb dX7_goOn_130 hl (by decide) rfl (fun ls hl => ?_)
                refine lv_aload_n hx hb dX7_goOn_132 rfl (lv_at hl 3 rfl) ?_
                refine tw_get (D := (dC, dI)) (v := .ref (a 1)) (C := RX7) (T := TX7) (N := 13) hx hb hts (fun _ hh => (List.mem_cons_of_mem _ (List.mem_append_right _ (List.mem_append_left _ hh)))) hown hK hT (fx_6 hX) (by decide) cl_e16 rfl 0 (by decide) (hts (.fieldLink RX7 27 "TypingPool$Planner" "book" "LTypingPool$Book;") (List.mem_cons_of_mem _ (List.mem_append_left _ (List.mem_of_getElem? (i := 13) rfl)))) (fun _ h9 => h9) rfl dX7_goOn_133 ?_
                refine lv_iload hx hb dX7_goOn_136 (lv_at hl 11 rfl) ?_
                refine lv_iload_n hx hb dX7_goOn_138 rfl (lv_at hl 6 rfl) ?_
                refine lv_iload hx hb dX7_goOn_139 (lv_at hl 0 rfl) ?_
                have hFc := tw_free hF hS hA
                refine va_calli (va_runV (As := [.int (y_9 (a 42) p0.toNatClampNeg), .int p2, .int r_24]) (rest := []) ⟨hx, hb, hml, hown, hts⟩ (c_minuteAfterWork l dC dI ad av H.size a k τ ln y_L62 g u (y_9 (a 42) p0.toNatClampNeg) p2 r_24 hI ) (cwV 3 hts (gi_4 (List.mem_cons_of_mem _ (List.mem_append_left _ (List.mem_of_getElem? (i := 26) rfl))) (List.mem_cons_of_mem _ (List.mem_append_left _ (List.mem_of_getElem? (i := 27) rfl))) (List.mem_cons_of_mem _ (List.mem_append_left _ (List.mem_of_getElem? (i := 28) rfl))) (List.mem_cons_of_mem _ (List.mem_append_left _ (List.mem_of_getElem? (i := 29) rfl))) (fun _ hh => (List.mem_cons_of_mem _ (List.mem_append_right _ (List.mem_append_right _ (List.mem_append_right _ (List.mem_append_right _ (List.mem_append_right _ (List.mem_append_right _ (List.mem_append_right _ (List.mem_append_right _ (List.mem_append_left _ hh))))))))))) gd_c_minuteAfterWork) rfl rfl rfl (by decide +kernel) ⟨Nat.le_of_ble_eq_true rfl, Nat.le_of_ble_eq_true rfl⟩) ⟨pw_blind, tw_recv hK hT (fx_1 hX) (by decide) cl_e11 rfl, pw_use hT hK hFc hS hM⟩ rfl rfl hl.1 rfl (lv_room (Nat.le_of_ble_eq_true rfl)) dX7_goOn_141 ⟨Nat.le_of_ble_eq_true rfl, Nat.le_of_ble_eq_true rfl⟩) hS (fun q _ h => hFc q h) hFc (fun r0 r_25 t H locs ht hvm hw hB hz1 hk1 hS => ?_)
                refine W.widen (k := 0) (n := 0) (Nat.le_of_ble_eq_true rfl) (Nat.le_of_ble_eq_true rfl) ?_
                clear hvm hz1 hk1
                subst hw
                have hT := hB
                rw [ht] at hT
                refine lv_istore (lv' := [(13, .int r_25), (12, .int r_24), (11, .ref q_21), (10, .int (y_L62 (a 41) i9.toNatClampNeg)), (0, .ref (a 6)), (1, .int p0), (2, .int p1), (3, .int p2), (4, .int p3), (5, .int p4), (6, .int p5), (7, .int p6), (8, .int (y_9 (a 42) p0.toNatClampNeg)), (9, .int i9)]) hx hb dX7_goOn_144 hl (by decide) rfl (fun ls hl => ?_)
                refine lv_iconst (v := 0) hx hb dX7_goOn_146 (by decide) ?_
                refine lv_iload hx hb dX7_goOn_147 (lv_at hl 0 rfl) ?_
                refine lv_aload hx hb dX7_goOn_149 (lv_at hl 2 rfl) ?_
                refine tw_get (D := (dC, dI)) (v := .int (y_L62 q_21 6)) (C := RX6) (T := TX6) (N := 11) hx hb hts (fun _ hh => (List.mem_cons_of_mem _ (List.mem_append_right _ (List.mem_append_right _ (List.mem_append_right _ (List.mem_append_right _ (List.mem_append_right _ (List.mem_append_right _ (List.mem_append_right _ (List.mem_append_right _ (List.mem_append_right _ (List.mem_append_left _ hh)))))))))))) hown hK hT htq_21 (by decide) cl_e2 rfl 6 (by decide) (hts (.fieldLink RX7 136 "TypingPool$Piece" "due" "I") (List.mem_cons_of_mem _ (List.mem_append_left _ (List.mem_of_getElem? (i := 30) rfl)))) (fun _ h9 => h9) rfl dX7_goOn_151 ?_
                refine lv_isub hx hb dX7_goOn_154 ?_
                refine lv_topi (fun x_26 ex_26 => ?_)
                refine va_mmax hx hb (by rw [hml]; exact hl.1.symm) hown (hts (.methodLink RX7 139 Lib.Math.max.name) (List.mem_cons_of_mem _ (List.mem_append_left _ (List.mem_of_getElem? (i := 31) rfl)))) (hts (.static Lib.Math.max.name) (List.mem_cons_of_mem _ (List.mem_append_left _ (List.mem_of_getElem? (i := 32) rfl)))) (hts (.initialized "java/lang/Math") (List.mem_cons_of_mem _ (List.mem_append_left _ (List.mem_of_getElem? (i := 33) rfl)))) (hts (.code Lib.Math.max.name Lib.Math.max.code 2 (some .int)) (List.mem_cons_of_mem _ (List.mem_append_left _ (List.mem_of_getElem? (i := 34) rfl)))) (Nat.le_of_ble_eq_true rfl) (Nat.le_of_ble_eq_true rfl) (Nat.le_of_ble_eq_true rfl) (Nat.le_of_ble_eq_true rfl) dX7_goOn_155 ?_
                refine lv_topi (fun x_27 ex_27 => ?_)
                have hx_27 := z_max ex_27 (zk (x := 0) 0 rfl) rfl
                refine lv_istore (lv' := [(14, .int x_27), (13, .int r_25), (12, .int r_24), (11, .ref q_21), (10, .int (y_L62 (a 41) i9.toNatClampNeg)), (0, .ref (a 6)), (1, .int p0), (2, .int p1), (3, .int p2), (4, .int p3), (5, .int p4), (6, .int p5), (7, .int p6), (8, .int (y_9 (a 42) p0.toNatClampNeg)), (9, .int i9)]) hx hb dX7_goOn_158 hl (by decide) rfl (fun ls hl => ?_)
                refine lv_aload_n hx hb dX7_goOn_160 rfl (lv_at hl 5 rfl) ?_
                refine tw_get (D := (dC, dI)) (v := .ref (a 44)) (C := RX7) (T := TX7) (N := 13) hx hb hts (fun _ hh => (List.mem_cons_of_mem _ (List.mem_append_right _ (List.mem_append_left _ hh)))) hown hK hT (fx_6 hX) (by decide) cl_e16 rfl 7 (by decide) (hts (.fieldLink RX7 21 "TypingPool$Planner" "current" "[I") (List.mem_cons_of_mem _ (List.mem_append_left _ (List.mem_of_getElem? (i := 5) rfl)))) (fun _ h9 => h9) rfl dX7_goOn_161 ?_
                refine lv_iload hx hb dX7_goOn_164 (lv_at hl 12 rfl) ?_
                refine lv_iload hx hb dX7_goOn_166 (lv_at hl 4 rfl) ?_
                refine tw_iast hx hb hK hT hF hS 0 (fx_44 hX) (by decide) (fun _ => cl_e54) rfl (z_in rfl (by omega) (by omega)) dX7_goOn_168 (fun H locs hT hS => ?_)
                obtain ⟨y_28, hy_28, hT⟩ : ∃ z : Nat → Nat → Int32, z = up2 y_L62 (a 44) p6.toNatClampNeg (y_L62 (a 41) i9.toNatClampNeg) ∧ tw (dC, dI) a k τ ln z g H := ⟨_, rfl, hT⟩
                have hG : ag τ [16, 54, 55] y y_28 := by rw [hy_28]; exact hG.up (fx_44 hX) (by decide)
                have : (y_28 (a 6) 3).toInt = (y_L62 (a 6) 3).toInt := by rw [hy_28, up2_o (kd_ne (fx_6 hX) (fx_44 hX) (by decide))]
                have : (y_28 (a 6) 5).toInt = (y_L62 (a 6) 5).toInt := by rw [hy_28, up2_o (kd_ne (fx_6 hX) (fx_44 hX) (by decide))]
                have : (y_28 (a 6) 9).toInt = (y_L62 (a 6) 9).toInt := by rw [hy_28, up2_o (kd_ne (fx_6 hX) (fx_44 hX) (by decide))]
                have hI := hI.ag (S := [54]) (y' := y_28) (by rw [hy_28]; exact ag.one (fx_44 hX)) (by decide)
                refine lv_aload_n hx hb dX7_goOn_169 rfl (lv_at hl 5 rfl) ?_
                refine lv_iload_n hx hb dX7_goOn_170 rfl (lv_at hl 6 rfl) ?_
                refine lv_iload_n hx hb dX7_goOn_171 rfl (lv_at hl 7 rfl) ?_
                refine lv_iconst (v := 1) hx hb dX7_goOn_172 (by decide) ?_
                refine lv_iload hx hb dX7_goOn_173 (lv_at hl 14 rfl) ?_
                refine lv_ishl hx hb dX7_goOn_175 ?_
                refine lv_topi (fun x_29 ex_29 => ?_)
                refine lv_iconst (v := (-1)) hx hb dX7_goOn_176 (by decide) ?_
                refine lv_ixor hx hb dX7_goOn_177 ?_
                refine lv_topi (fun x_30 ex_30 => ?_)
                refine lv_iand hx hb dX7_goOn_178 ?_
                refine lv_topi (fun x_31 ex_31 => ?_)
                refine lv_iload hx hb dX7_goOn_179 (lv_at hl 1 rfl) ?_
                refine lv_iload hx hb dX7_goOn_181 (lv_at hl 9 rfl) ?_
                refine lv_aload hx hb dX7_goOn_183 (lv_at hl 3 rfl) ?_
                refine tw_get (D := (dC, dI)) (v := .int (y_28 q_21 7)) (C := RX6) (T := TX6) (N := 11) hx hb hts (fun _ hh => (List.mem_cons_of_mem _ (List.mem_append_right _ (List.mem_append_right _ (List.mem_append_right _ (List.mem_append_right _ (List.mem_append_right _ (List.mem_append_right _ (List.mem_append_right _ (List.mem_append_right _ (List.mem_append_right _ (List.mem_append_left _ hh)))))))))))) hown hK hT htq_21 (by decide) cl_e2 rfl 7 (by decide) (hts (.fieldLink RX7 118 "TypingPool$Piece" "words" "I") (List.mem_cons_of_mem _ (List.mem_append_left _ (List.mem_of_getElem? (i := 35) rfl)))) (fun _ h9 => h9) rfl dX7_goOn_185 ?_
                refine lv_ior hx hb dX7_goOn_188 ?_
                refine lv_topi (fun x_32 ex_32 => ?_)
                refine lv_iload hx hb dX7_goOn_189 (lv_at hl 10 rfl) ?_
                refine lv_iload hx hb dX7_goOn_191 (lv_at hl 0 rfl) ?_
                refine lv_if_le (tgt := 200) hx hb dX7_goOn_193 (by decide) (fun c_33 => ?_) (fun c_33 => ?_)
                · have nc_33 := z_le rfl (zk (x := 0) 0 rfl) c_33
                  refine lv_iconst (v := 0) hx hb dX7_goOn_200 (by decide) ?_
                  refine lv_iadd hx hb dX7_goOn_201 ?_
                  refine lv_topi (fun x_34 ex_34 => ?_)
                  refine lv_iload hx hb dX7_goOn_202 (lv_at hl 11 rfl) ?_
                  refine lv_iload hx hb dX7_goOn_204 (lv_at hl 0 rfl) ?_
                  refine lv_iadd hx hb dX7_goOn_206 ?_
                  refine lv_topi (fun x_35 ex_35 => ?_)
                  refine lv_iload hx hb dX7_goOn_207 (lv_at hl 12 rfl) ?_
                  refine lv_iconst (v := 1) hx hb dX7_goOn_209 (by decide) ?_
                  refine lv_iadd hx hb dX7_goOn_210 ?_
                  refine lv_topi (fun x_36 ex_36 => ?_)
                  have hx_36 := z_add ex_36 rfl (zk (x := 1) 1 rfl) (by omega) (by omega)
                  have hFc := tw_free hF hS hA
                  refine va_callv (va_runV (As := [.int p0, .int x_31, .int r_25, .int x_32, .int x_34, .int x_35, .int x_36]) (rest := []) ⟨hx, hb, hml, hown, hts⟩ (c_goOn4 l dC dI ad av H.size a k τ ln y_28 g u p0 x_31 r_25 x_32 x_34 x_35 x_36 nP nH hI (by omega) (by omega) gn (by rw [hG.at (fx_41 hX) (by decide)]; exact gp) (by rw [hG.at (fx_42 hX) (by decide)]; exact gh) (by omega) (by omega) (by omega)) (cwV 7 hts (gi_4 (List.mem_cons_of_mem _ (List.mem_append_left _ (List.mem_of_getElem? (i := 36) rfl))) (List.mem_cons_of_mem _ (List.mem_append_left _ (List.mem_of_getElem? (i := 37) rfl))) (List.mem_cons_of_mem _ (List.mem_append_left _ (List.mem_of_getElem? (i := 38) rfl))) (List.mem_cons_of_mem _ (List.mem_append_left _ (List.mem_of_getElem? (i := 4) rfl))) (fun _ hh => (List.mem_cons_of_mem _ (List.mem_append_right _ (List.mem_append_right _ (List.mem_append_right _ (List.mem_append_right _ (List.mem_append_right _ (List.mem_append_right _ (List.mem_append_right _ (List.mem_append_right _ (List.mem_append_right _ (List.mem_append_right _ (List.mem_append_left _ hh))))))))))))) gd_c_goOn4) rfl rfl rfl (by decide +kernel) ⟨Nat.le_of_ble_eq_true rfl, Nat.le_of_ble_eq_true rfl⟩) ⟨pw_blind, tw_recv hK hT (fx_6 hX) (by decide) cl_e16 rfl, pw_use hT hK hFc hS hM⟩ rfl rfl hl.1 rfl (lv_room (Nat.le_of_ble_eq_true rfl)) dX7_goOn_211 ⟨Nat.le_of_ble_eq_true rfl, Nat.le_of_ble_eq_true rfl⟩) hS (fun q _ h => hFc q h) hFc (fun u0 t H locs ht hvm hw hB hz1 hk1 hS => ?_)
                  refine W.widen (k := 0) (n := 0) (Nat.le_of_ble_eq_true rfl) (Nat.le_of_ble_eq_true rfl) ?_
                  clear hvm hz1 hk1
                  obtain ⟨y_38, hgy_38, hf_39, hf_40, hf_41, hT⟩ := hB
                  rw [ht] at hT
                  have hG := hG.tr hgy_38 (by decide)
                  have hI := hI.ag hgy_38 (by decide)
                  obtain ⟨x_42, ex_42⟩ : ∃ y : Int32, y = i9 + Int32.ofInt 1 := ⟨_, rfl⟩
                  have hx_42 := z_add ex_42 rfl (zk (x := Int32.ofInt 1) 1 rfl) (by omega) (by omega)
                  refine lv_iinc (v := x_42) (lv' := [(9, .int x_42), (14, .int x_27), (13, .int r_25), (12, .int r_24), (11, .ref q_21), (10, .int (y_L62 (a 41) i9.toNatClampNeg)), (0, .ref (a 6)), (1, .int p0), (2, .int p1), (3, .int p2), (4, .int p3), (5, .int p4), (6, .int p5), (7, .int p6), (8, .int (y_9 (a 42) p0.toNatClampNeg))]) hx hb dX7_goOn_214 hl (k := 14) rfl ex_42.symm (by decide) rfl (fun ls hl => ?_)
                  refine lv_goto (tgt := 62) hx hb dX7_goOn_217 (by decide) ?_
                  exact ih_62  x_42 y_38 H _ ls (by omega) hG hI (by omega) (by omega) (by omega) (by omega) (by omega) hT hS (lv_sub hl [6, 7, 8, 9, 10, 11, 12, 13, 14, 0] rfl)
                · have nc_33 := z_nle rfl (zk (x := 0) 0 rfl) c_33
                  refine lv_iconst (v := 1) hx hb dX7_goOn_196 (by decide) ?_
                  refine lv_goto (tgt := 201) hx hb dX7_goOn_197 (by decide) ?_
                  refine lv_iadd hx hb dX7_goOn_201 ?_
                  refine lv_topi (fun x_43 ex_43 => ?_)
                  refine lv_iload hx hb dX7_goOn_202 (lv_at hl 11 rfl) ?_
                  refine lv_iload hx hb dX7_goOn_204 (lv_at hl 0 rfl) ?_
                  refine lv_iadd hx hb dX7_goOn_206 ?_
                  refine lv_topi (fun x_44 ex_44 => ?_)
                  refine lv_iload hx hb dX7_goOn_207 (lv_at hl 12 rfl) ?_
                  refine lv_iconst (v := 1) hx hb dX7_goOn_209 (by decide) ?_
                  refine lv_iadd hx hb dX7_goOn_210 ?_
                  refine lv_topi (fun x_45 ex_45 => ?_)
                  have hx_45 := z_add ex_45 rfl (zk (x := 1) 1 rfl) (by omega) (by omega)
                  have hFc := tw_free hF hS hA
                  refine va_callv (va_runV (As := [.int p0, .int x_31, .int r_25, .int x_32, .int x_43, .int x_44, .int x_45]) (rest := []) ⟨hx, hb, hml, hown, hts⟩ (c_goOn4 l dC dI ad av H.size a k τ ln y_28 g u p0 x_31 r_25 x_32 x_43 x_44 x_45 nP nH hI (by omega) (by omega) gn (by rw [hG.at (fx_41 hX) (by decide)]; exact gp) (by rw [hG.at (fx_42 hX) (by decide)]; exact gh) (by omega) (by omega) (by omega)) (cwV 7 hts (gi_4 (List.mem_cons_of_mem _ (List.mem_append_left _ (List.mem_of_getElem? (i := 36) rfl))) (List.mem_cons_of_mem _ (List.mem_append_left _ (List.mem_of_getElem? (i := 37) rfl))) (List.mem_cons_of_mem _ (List.mem_append_left _ (List.mem_of_getElem? (i := 38) rfl))) (List.mem_cons_of_mem _ (List.mem_append_left _ (List.mem_of_getElem? (i := 4) rfl))) (fun _ hh => (List.mem_cons_of_mem _ (List.mem_append_right _ (List.mem_append_right _ (List.mem_append_right _ (List.mem_append_right _ (List.mem_append_right _ (List.mem_append_right _ (List.mem_append_right _ (List.mem_append_right _ (List.mem_append_right _ (List.mem_append_right _ (List.mem_append_left _ hh))))))))))))) gd_c_goOn4) rfl rfl rfl (by decide +kernel) ⟨Nat.le_of_ble_eq_true rfl, Nat.le_of_ble_eq_true rfl⟩) ⟨pw_blind, tw_recv hK hT (fx_6 hX) (by decide) cl_e16 rfl, pw_use hT hK hFc hS hM⟩ rfl rfl hl.1 rfl (lv_room (Nat.le_of_ble_eq_true rfl)) dX7_goOn_211 ⟨Nat.le_of_ble_eq_true rfl, Nat.le_of_ble_eq_true rfl⟩) hS (fun q _ h => hFc q h) hFc (fun u0 t H locs ht hvm hw hB hz1 hk1 hS => ?_)
                  refine W.widen (k := 0) (n := 0) (Nat.le_of_ble_eq_true rfl) (Nat.le_of_ble_eq_true rfl) ?_
                  clear hvm hz1 hk1
                  obtain ⟨y_47, hgy_47, hf_48, hf_49, hf_50, hT⟩ := hB
                  rw [ht] at hT
                  have hG := hG.tr hgy_47 (by decide)
                  have hI := hI.ag hgy_47 (by decide)
                  obtain ⟨x_51, ex_51⟩ : ∃ y : Int32, y = i9 + Int32.ofInt 1 := ⟨_, rfl⟩
                  have hx_51 := z_add ex_51 rfl (zk (x := Int32.ofInt 1) 1 rfl) (by omega) (by omega)
                  refine lv_iinc (v := x_51) (lv' := [(9, .int x_51), (14, .int x_27), (13, .int r_25), (12, .int r_24), (11, .ref q_21), (10, .int (y_L62 (a 41) i9.toNatClampNeg)), (0, .ref (a 6)), (1, .int p0), (2, .int p1), (3, .int p2), (4, .int p3), (5, .int p4), (6, .int p5), (7, .int p6), (8, .int (y_9 (a 42) p0.toNatClampNeg))]) hx hb dX7_goOn_214 hl (k := 14) rfl ex_51.symm (by decide) rfl (fun ls hl => ?_)
                  refine lv_goto (tgt := 62) hx hb dX7_goOn_217 (by decide) ?_
                  exact ih_62  x_51 y_47 H _ ls (by omega) hG hI (by omega) (by omega) (by omega) (by omega) (by omega) hT hS (lv_sub hl [6, 7, 8, 9, 10, 11, 12, 13, 14, 0] rfl)
        have hp_52 : (0 : Int32).toInt = 0 := (zk (x := 0) 0 rfl)
        exact loop_62 _ (0 : Int32) y_9 H _ ls (Nat.lt_succ_self _) hG hI (by omega) (by omega) (by omega) (by omega) (by omega) hT hS (lv_sub hl [2, 3, 4, 5, 6, 7, 8, 9, 1, 0] rfl)
      · refine lq_top (v := 0) hre ?_
        rw [ht] at hT
        refine lv_if_ne (tgt := 27) hx hb dX7_goOn_23 (by decide) (fun c_53 => absurd c_53 (by decide)) (fun c_53 => ?_)
        exact W.vret hx hb hr (fun t ht hW9 => ⟨⟨(), rfl, trivial, ⟨y, hG, by omega, by omega, by omega, tw_at ht hT⟩⟩, hS.F ht⟩) hS.2.2 dX7_goOn_26
def wo_c_beginHand3 : List Cond := [.fieldLink RX7 78 "TypingPool$Planner" "handCount" "I", .fieldLink RX7 15 "TypingPool$Planner" "hands" "[I", .fieldLink RX7 31 "TypingPool$Planner" "floor" "LTypingPool$Floor;", .fieldLink RX7 92 "TypingPool$Floor" "now" "I", .fieldLink RX7 95 "TypingPool$Floor" "words" "[I", .fieldLink RX7 98 "TypingPool$Floor" "has" "[I", .fieldLink RX7 27 "TypingPool$Planner" "book" "LTypingPool$Book;", .methodLink RX7 67 yX1_hasPiece, .instanceMethod yX1_hasPiece, .selects RX1 yX1_hasPiece yX1_hasPiece, .initialized RX1, .fieldLink RX7 101 "TypingPool$Floor" "workLeft" "[I", .fieldLink RX7 104 "TypingPool$Floor" "rate" "[I", .initialized RX11, .static yX11_minutesFor, .methodLink RX7 111 yX1_minuteAfterWork, .instanceMethod yX1_minuteAfterWork, .selects RX1 yX1_minuteAfterWork yX1_minuteAfterWork, .fieldLink RX7 115 "TypingPool$Book" "pieces" "[LTypingPool$Piece;", .fieldLink RX7 118 "TypingPool$Piece" "words" "I", .methodLink RX7 122 yX7_goOn, .instanceMethod yX7_goOn, .selects RX7 yX7_goOn yX7_goOn, .initialized RX7, .methodLink RX7 88 yX7_keep, .instanceMethod yX7_keep, .selects RX7 yX7_keep yX7_keep]
def wm_c_beginHand3 : List Cond := .code yX7_beginHand cX7_beginHand 11 none :: (wo_c_beginHand3 ++ (wsX70 ++ (wsX30 ++ (wm_c_hasPiece ++ (wm_c_minutesFor ++ (wm_c_minuteAfterWork ++ (wsX10 ++ (wsX60 ++ (wm_c_goOn3 ++ (wm_c_keep ++ ([] : List Cond)))))))))))
theorem gd_c_beginHand3 : ∀ w ∈ wm_c_beginHand3, goodWord w = true := gd_c rfl (gd_a (by decide) (gd_a gd_wsX70 (gd_a gd_wsX30 (gd_a gd_c_hasPiece (gd_a gd_c_minutesFor (gd_a gd_c_minuteAfterWork (gd_a gd_wsX10 (gd_a gd_wsX60 (gd_a gd_c_goOn3 (gd_a gd_c_keep gd_nil))))))))))
set_option maxRecDepth 20000 in
theorem im_c_beginHand3 : ∀ w ∈ wm_c_beginHand3, w ∈ lw_tbl := im_c (in_r [.code yX7_beginHand cX7_beginHand 11 none] [1042] (by decide +kernel)) (in_app (in_r wo_c_beginHand3 [520, 519, 516, 430, 438, 432, 515, 1027, 841, 842, 71, 450, 435, 70, 845, 1053, 1054, 1055, 128, 687, 1057, 1059, 24, 85, 1043, 1045, 22] (by decide +kernel)) (in_app im_wsX70 (in_app im_wsX30 (in_app im_c_hasPiece (in_app im_c_minutesFor (in_app im_c_minuteAfterWork (in_app im_wsX10 (in_app im_wsX60 (in_app im_c_goOn3 (in_app im_c_keep im_nil))))))))))
set_option maxHeartbeats 4000000 in
set_option maxRecDepth 100000 in
theorem c_beginHand3 (l : Launch) (dC : Nat → ClassId) (dI : Nat → Nat → Nat) (ad av : Nat → Nat) (sz : Nat) (a : Nat → Nat) (k : Nat → ClassId) (τ ln : Nat → Nat) (y : Nat → Nat → Int32) (g : Nat → Nat → Option Nat) (u : Nat → Int) (p0 : Int32) (p1 : Int32) (p2 : Int32) (p3 : Int32) (p4 : Int32) (nP : Int) (nH : Int) (hI : IC a u τ ln y g) (g3 : (y (a 6) 3).toInt = nP) (g5 : (y (a 6) 5).toInt = nH) (gn : (0 ≤ nP ∧ nP ≤ 5) ∧ 0 ≤ nH ∧ nH ≤ 3) (gp : vl nP (u 2) (y (a 41))) (gh : vl nH (u 1) (y (a 42))) (g9 : 0 ≤ (y (a 6) 9).toInt ∧ (y (a 6) 9).toInt ≤ 8) (hp0 : 0 ≤ p0.toInt) (hlen : p4.toInt = 3) : Met l yX7_beginHand wm_c_beginHand3 ({ frames := 13, cells := 0, slots := 0, locals := 780 }) (pw_ ad av (dC, dI) sz [.ref (a 6), .int p0, .int p1, .int p2, .int p3, .int p4] a k τ ln y g) (va_Qv (fun (_ : Unit) => True) (fun (_ : Unit) (t : State) => (∃ (y' : Nat → Nat → Int32), ag τ [16, 54, 55] y y' ∧ (y' (a 6) 3).toInt = (y (a 6) 3).toInt ∧ (y' (a 6) 5).toInt = (y (a 6) 5).toInt ∧ (0 ≤ (y' (a 6) 9).toInt ∧ (y' (a 6) 9).toInt ≤ 8) ∧ tw (dC, dI) a k τ ln y' g t.heap)) (fr τ sz)) 0 0 (fr τ sz) := by
  refine Met.ofW (cc := cX7_beginHand) (maxL := 11) (ret := none) (by decide) rfl ?_
  intro p e s m args below meth c s₁ B hml hv
  obtain ⟨rfl, hsz, hT, hK, hM⟩ := hv
  have hx := B.exec
  have hb := B.bytes
  have hr := B.returns
  have hts := atoms_spec (ws := wm_c_beginHand3) B.pre
  have hown : s.vm.findClass RX7 = some m.cls := findClass_of_methodNamed B.named
  have hlocks := B.notSynchronized
  subst hsz
  generalize hAe : fr τ s.heap.size = A at hM ⊢
  have hA : ∀ q : Nat, s.heap.size ≤ q → A q := fun q h => by rw [← hAe]; exact Or.inr h
  have hF : ∀ q, τ q ≠ 0 → A q := fun q h => by rw [← hAe]; exact Or.inl h
  have hS : va_S A s.heap s.heap [] := va_S.rf
  have hX := hI.1
  have hR := ic_r hI
  have hG : ag τ [16, 54, 55] y y := ag.rf
  have hl := lv_entry ([.ref (a 6), .int p0, .int p1, .int p2, .int p3, .int p4]) (n := 11) (Nat.le_of_ble_eq_true rfl)
  rw [lg_entry_eq]
  generalize (lg_sl ([.ref (a 6), .int p0, .int p1, .int p2, .int p3, .int p4]) ++ List.replicate (11 - (lg_sl ([.ref (a 6), .int p0, .int p1, .int p2, .int p3, .int p4])).length) Slot.unset).toArray = ls at hl ⊢
  have hl : lv_has ls 11 [(0, .ref (a 6)), (1, .int p0), (2, .int p1), (3, .int p2), (4, .int p3), (5, .int p4)] := hl
  refine lv_iload_n hx hb dX7_beginHand_0 rfl (lv_at hl 1 rfl) ?_
  refine lv_aload_n hx hb dX7_beginHand_1 rfl (lv_at hl 0 rfl) ?_
  refine tw_get (D := (dC, dI)) (v := .int (y (a 6) 5)) (C := RX7) (T := TX7) (N := 13) hx hb hts (fun _ hh => (List.mem_cons_of_mem _ (List.mem_append_right _ (List.mem_append_left _ hh)))) hown hK hT (fx_6 hX) (by decide) cl_e16 rfl 5 (by decide) (hts (.fieldLink RX7 78 "TypingPool$Planner" "handCount" "I") (List.mem_cons_of_mem _ (List.mem_append_left _ (List.mem_of_getElem? (i := 0) rfl)))) (fun _ h9 => h9) rfl dX7_beginHand_2 ?_
  refine lv_icmp_lt (tgt := 22) hx hb dX7_beginHand_5 (by decide) (fun c_1 => ?_) (fun c_1 => ?_)
  · have nc_1 := z_lt rfl rfl c_1
    refine lv_aload_n hx hb dX7_beginHand_22 rfl (lv_at hl 0 rfl) ?_
    refine tw_get (D := (dC, dI)) (v := .ref (a 42)) (C := RX7) (T := TX7) (N := 13) hx hb hts (fun _ hh => (List.mem_cons_of_mem _ (List.mem_append_right _ (List.mem_append_left _ hh)))) hown hK hT (fx_6 hX) (by decide) cl_e16 rfl 4 (by decide) (hts (.fieldLink RX7 15 "TypingPool$Planner" "hands" "[I") (List.mem_cons_of_mem _ (List.mem_append_left _ (List.mem_of_getElem? (i := 1) rfl)))) (fun _ h9 => h9) rfl dX7_beginHand_23 ?_
    refine lv_iload_n hx hb dX7_beginHand_26 rfl (lv_at hl 1 rfl) ?_
    refine tw_iald hx hb hK hT 0 (fx_42 hX) (by decide) cl_e52 rfl (z_in rfl (by omega) (by omega)) dX7_beginHand_27 ?_
    have hv0 : vl nH (u 1) (y (a 42)) := gh
    have hv_2 := vl_at hv0 (x := p0) rfl (by omega) (by omega)
    refine lv_istore (lv' := [(6, .int (y (a 42) p0.toNatClampNeg)), (0, .ref (a 6)), (1, .int p0), (2, .int p1), (3, .int p2), (4, .int p3), (5, .int p4)]) hx hb dX7_beginHand_28 hl (by decide) rfl (fun ls hl => ?_)
    refine lv_aload_n hx hb dX7_beginHand_30 rfl (lv_at hl 1 rfl) ?_
    refine tw_get (D := (dC, dI)) (v := .ref (a 3)) (C := RX7) (T := TX7) (N := 13) hx hb hts (fun _ hh => (List.mem_cons_of_mem _ (List.mem_append_right _ (List.mem_append_left _ hh)))) hown hK hT (fx_6 hX) (by decide) cl_e16 rfl 1 (by decide) (hts (.fieldLink RX7 31 "TypingPool$Planner" "floor" "LTypingPool$Floor;") (List.mem_cons_of_mem _ (List.mem_append_left _ (List.mem_of_getElem? (i := 2) rfl)))) (fun _ h9 => h9) rfl dX7_beginHand_31 ?_
    refine tw_get (D := (dC, dI)) (v := .int (y (a 3) 2)) (C := RX3) (T := TX3) (N := 12) hx hb hts (fun _ hh => (List.mem_cons_of_mem _ (List.mem_append_right _ (List.mem_append_right _ (List.mem_append_left _ hh))))) hown hK hT (fx_3 hX) (by decide) cl_e13 rfl 2 (by decide) (hts (.fieldLink RX7 92 "TypingPool$Floor" "now" "I") (List.mem_cons_of_mem _ (List.mem_append_left _ (List.mem_of_getElem? (i := 3) rfl)))) (fun _ h9 => h9) rfl dX7_beginHand_34 ?_
    refine lv_istore (lv' := [(7, .int (y (a 3) 2)), (6, .int (y (a 42) p0.toNatClampNeg)), (0, .ref (a 6)), (1, .int p0), (2, .int p1), (3, .int p2), (4, .int p3), (5, .int p4)]) hx hb dX7_beginHand_37 hl (by decide) rfl (fun ls hl => ?_)
    refine lv_aload_n hx hb dX7_beginHand_39 rfl (lv_at hl 2 rfl) ?_
    refine tw_get (D := (dC, dI)) (v := .ref (a 3)) (C := RX7) (T := TX7) (N := 13) hx hb hts (fun _ hh => (List.mem_cons_of_mem _ (List.mem_append_right _ (List.mem_append_left _ hh)))) hown hK hT (fx_6 hX) (by decide) cl_e16 rfl 1 (by decide) (hts (.fieldLink RX7 31 "TypingPool$Planner" "floor" "LTypingPool$Floor;") (List.mem_cons_of_mem _ (List.mem_append_left _ (List.mem_of_getElem? (i := 2) rfl)))) (fun _ h9 => h9) rfl dX7_beginHand_40 ?_
    refine tw_get (D := (dC, dI)) (v := .ref (a 22)) (C := RX3) (T := TX3) (N := 12) hx hb hts (fun _ hh => (List.mem_cons_of_mem _ (List.mem_append_right _ (List.mem_append_right _ (List.mem_append_left _ hh))))) hown hK hT (fx_3 hX) (by decide) cl_e13 rfl 5 (by decide) (hts (.fieldLink RX7 95 "TypingPool$Floor" "words" "[I") (List.mem_cons_of_mem _ (List.mem_append_left _ (List.mem_of_getElem? (i := 4) rfl)))) (fun _ h9 => h9) rfl dX7_beginHand_43 ?_
    refine lv_iload hx hb dX7_beginHand_46 (lv_at hl 1 rfl) ?_
    refine tw_iald hx hb hK hT 0 (fx_22 hX) (by decide) cl_e32 rfl (z_in rfl (by omega) (by omega)) dX7_beginHand_48 ?_
    refine lv_istore (lv' := [(8, .int (y (a 22) (y (a 42) p0.toNatClampNeg).toNatClampNeg)), (7, .int (y (a 3) 2)), (6, .int (y (a 42) p0.toNatClampNeg)), (0, .ref (a 6)), (1, .int p0), (2, .int p1), (3, .int p2), (4, .int p3), (5, .int p4)]) hx hb dX7_beginHand_49 hl (by decide) rfl (fun ls hl => ?_)
    refine lv_aload_n hx hb dX7_beginHand_51 rfl (lv_at hl 3 rfl) ?_
    refine tw_get (D := (dC, dI)) (v := .ref (a 3)) (C := RX7) (T := TX7) (N := 13) hx hb hts (fun _ hh => (List.mem_cons_of_mem _ (List.mem_append_right _ (List.mem_append_left _ hh)))) hown hK hT (fx_6 hX) (by decide) cl_e16 rfl 1 (by decide) (hts (.fieldLink RX7 31 "TypingPool$Planner" "floor" "LTypingPool$Floor;") (List.mem_cons_of_mem _ (List.mem_append_left _ (List.mem_of_getElem? (i := 2) rfl)))) (fun _ h9 => h9) rfl dX7_beginHand_52 ?_
    refine tw_get (D := (dC, dI)) (v := .ref (a 20)) (C := RX3) (T := TX3) (N := 12) hx hb hts (fun _ hh => (List.mem_cons_of_mem _ (List.mem_append_right _ (List.mem_append_right _ (List.mem_append_left _ hh))))) hown hK hT (fx_3 hX) (by decide) cl_e13 rfl 3 (by decide) (hts (.fieldLink RX7 98 "TypingPool$Floor" "has" "[I") (List.mem_cons_of_mem _ (List.mem_append_left _ (List.mem_of_getElem? (i := 5) rfl)))) (fun _ h9 => h9) rfl dX7_beginHand_55 ?_
    refine lv_iload hx hb dX7_beginHand_58 (lv_at hl 2 rfl) ?_
    refine tw_iald hx hb hK hT 0 (fx_20 hX) (by decide) cl_e30 rfl (z_in rfl (by omega) (by omega)) dX7_beginHand_60 ?_
    refine lv_istore (lv' := [(9, .int (y (a 20) (y (a 42) p0.toNatClampNeg).toNatClampNeg)), (8, .int (y (a 22) (y (a 42) p0.toNatClampNeg).toNatClampNeg)), (7, .int (y (a 3) 2)), (6, .int (y (a 42) p0.toNatClampNeg)), (0, .ref (a 6)), (1, .int p0), (2, .int p1), (3, .int p2), (4, .int p3), (5, .int p4)]) hx hb dX7_beginHand_61 hl (by decide) rfl (fun ls hl => ?_)
    refine lv_aload_n hx hb dX7_beginHand_63 rfl (lv_at hl 4 rfl) ?_
    refine tw_get (D := (dC, dI)) (v := .ref (a 1)) (C := RX7) (T := TX7) (N := 13) hx hb hts (fun _ hh => (List.mem_cons_of_mem _ (List.mem_append_right _ (List.mem_append_left _ hh)))) hown hK hT (fx_6 hX) (by decide) cl_e16 rfl 0 (by decide) (hts (.fieldLink RX7 27 "TypingPool$Planner" "book" "LTypingPool$Book;") (List.mem_cons_of_mem _ (List.mem_append_left _ (List.mem_of_getElem? (i := 6) rfl)))) (fun _ h9 => h9) rfl dX7_beginHand_64 ?_
    refine lv_iload hx hb dX7_beginHand_67 (lv_at hl 0 rfl) ?_
    have hFc := tw_free hF hS hA
    refine va_calli (va_runV (As := [.int (y (a 20) (y (a 42) p0.toNatClampNeg).toNatClampNeg)]) (rest := []) ⟨hx, hb, hml, hown, hts⟩ (c_hasPiece l dC dI ad av s.heap.size a k τ ln y g u (y (a 20) (y (a 42) p0.toNatClampNeg).toNatClampNeg) hI ) (cwV 1 hts (gi_4 (List.mem_cons_of_mem _ (List.mem_append_left _ (List.mem_of_getElem? (i := 7) rfl))) (List.mem_cons_of_mem _ (List.mem_append_left _ (List.mem_of_getElem? (i := 8) rfl))) (List.mem_cons_of_mem _ (List.mem_append_left _ (List.mem_of_getElem? (i := 9) rfl))) (List.mem_cons_of_mem _ (List.mem_append_left _ (List.mem_of_getElem? (i := 10) rfl))) (fun _ hh => (List.mem_cons_of_mem _ (List.mem_append_right _ (List.mem_append_right _ (List.mem_append_right _ (List.mem_append_left _ hh)))))) gd_c_hasPiece) rfl rfl rfl (by decide +kernel) ⟨Nat.le_of_ble_eq_true rfl, Nat.le_of_ble_eq_true rfl⟩) ⟨pw_blind, tw_recv hK hT (fx_1 hX) (by decide) cl_e11 rfl, pw_use hT hK hFc hS hM⟩ rfl rfl hl.1 rfl (lv_room (Nat.le_of_ble_eq_true rfl)) dX7_beginHand_69 ⟨Nat.le_of_ble_eq_true rfl, Nat.le_of_ble_eq_true rfl⟩) hS (fun q _ h => hFc q h) hFc (fun r0 r_3 t H locs ht hvm hw hB hz1 hk1 hS => ?_)
    refine W.widen (k := 0) (n := 0) (Nat.le_of_ble_eq_true rfl) (Nat.le_of_ble_eq_true rfl) ?_
    clear hvm hz1 hk1
    subst hw
    rcases hB with ⟨hre, hf_4, hf_5, hT⟩ | ⟨hre, hf_6, hT⟩
    · refine lq_top (v := 1) hre ?_
      rw [ht] at hT
      refine lv_if_eq (tgt := 133) hx hb dX7_beginHand_72 (by decide) (fun c_7 => absurd c_7 (by decide)) (fun c_7 => ?_)
      refine lv_aload_n hx hb dX7_beginHand_75 rfl (lv_at hl 4 rfl) ?_
      refine tw_get (D := (dC, dI)) (v := .ref (a 3)) (C := RX7) (T := TX7) (N := 13) hx hb hts (fun _ hh => (List.mem_cons_of_mem _ (List.mem_append_right _ (List.mem_append_left _ hh)))) hown hK hT (fx_6 hX) (by decide) cl_e16 rfl 1 (by decide) (hts (.fieldLink RX7 31 "TypingPool$Planner" "floor" "LTypingPool$Floor;") (List.mem_cons_of_mem _ (List.mem_append_left _ (List.mem_of_getElem? (i := 2) rfl)))) (fun _ h9 => h9) rfl dX7_beginHand_76 ?_
      refine tw_get (D := (dC, dI)) (v := .ref (a 27)) (C := RX3) (T := TX3) (N := 12) hx hb hts (fun _ hh => (List.mem_cons_of_mem _ (List.mem_append_right _ (List.mem_append_right _ (List.mem_append_left _ hh))))) hown hK hT (fx_3 hX) (by decide) cl_e13 rfl 10 (by decide) (hts (.fieldLink RX7 101 "TypingPool$Floor" "workLeft" "[I") (List.mem_cons_of_mem _ (List.mem_append_left _ (List.mem_of_getElem? (i := 11) rfl)))) (fun _ h9 => h9) rfl dX7_beginHand_79 ?_
      refine lv_iload hx hb dX7_beginHand_82 (lv_at hl 0 rfl) ?_
      refine tw_iald hx hb hK hT 0 (fx_27 hX) (by decide) cl_e37 rfl (z_in rfl (by omega) (by omega)) dX7_beginHand_84 ?_
      refine lv_aload_n hx hb dX7_beginHand_85 rfl (lv_at hl 4 rfl) ?_
      refine tw_get (D := (dC, dI)) (v := .ref (a 3)) (C := RX7) (T := TX7) (N := 13) hx hb hts (fun _ hh => (List.mem_cons_of_mem _ (List.mem_append_right _ (List.mem_append_left _ hh)))) hown hK hT (fx_6 hX) (by decide) cl_e16 rfl 1 (by decide) (hts (.fieldLink RX7 31 "TypingPool$Planner" "floor" "LTypingPool$Floor;") (List.mem_cons_of_mem _ (List.mem_append_left _ (List.mem_of_getElem? (i := 2) rfl)))) (fun _ h9 => h9) rfl dX7_beginHand_86 ?_
      refine tw_get (D := (dC, dI)) (v := .ref (a 21)) (C := RX3) (T := TX3) (N := 12) hx hb hts (fun _ hh => (List.mem_cons_of_mem _ (List.mem_append_right _ (List.mem_append_right _ (List.mem_append_left _ hh))))) hown hK hT (fx_3 hX) (by decide) cl_e13 rfl 4 (by decide) (hts (.fieldLink RX7 104 "TypingPool$Floor" "rate" "[I") (List.mem_cons_of_mem _ (List.mem_append_left _ (List.mem_of_getElem? (i := 12) rfl)))) (fun _ h9 => h9) rfl dX7_beginHand_89 ?_
      refine lv_iload hx hb dX7_beginHand_92 (lv_at hl 3 rfl) ?_
      refine tw_iald hx hb hK hT 0 (fx_21 hX) (by decide) cl_e31 rfl (z_in rfl (by omega) (by omega)) dX7_beginHand_94 ?_
      have hFc := tw_free hF hS hA
      refine va_calli (va_runSN (As := [.int (y (a 27) (y (a 20) (y (a 42) p0.toNatClampNeg).toNatClampNeg).toNatClampNeg), .int (y (a 21) (y (a 42) p0.toNatClampNeg).toNatClampNeg)]) (rest := []) ⟨hx, hb, hml, hown, hts⟩ (c_minutesFor l dC dI ad av H.size a k τ ln y g u (y (a 27) (y (a 20) (y (a 42) p0.toNatClampNeg).toNatClampNeg).toNatClampNeg) (y (a 21) (y (a 42) p0.toNatClampNeg).toNatClampNeg)  ) ⟨va_cnB 2 hts (gi_0  (fun _ hh => (List.mem_cons_of_mem _ (List.mem_append_right _ (List.mem_append_right _ (List.mem_append_right _ (List.mem_append_right _ (List.mem_append_left _ hh))))))) gd_c_minutesFor) rfl rfl rfl hM.1.2.2.2.1 (hts (.initialized RX11) (List.mem_cons_of_mem _ (List.mem_append_left _ (List.mem_of_getElem? (i := 13) rfl)))) (by decide +kernel) ⟨Nat.le_of_ble_eq_true rfl, Nat.le_of_ble_eq_true rfl⟩, (hts (.static yX11_minutesFor) (List.mem_cons_of_mem _ (List.mem_append_left _ (List.mem_of_getElem? (i := 14) rfl)))), trivial⟩ ⟨pw_blind, pw_use hT hK hFc hS hM⟩ rfl rfl hl.1 rfl (lv_room (Nat.le_of_ble_eq_true rfl)) dX7_beginHand_95 ⟨Nat.le_of_ble_eq_true rfl, Nat.le_of_ble_eq_true rfl⟩) hS (fun q _ h => hFc q h) hFc (fun r0 r_8 t H locs ht hvm hw hB hz1 hk1 hS => ?_)
      refine W.widen (k := 0) (n := 0) (Nat.le_of_ble_eq_true rfl) (Nat.le_of_ble_eq_true rfl) ?_
      clear hvm hz1 hk1
      subst hw
      have hT := hB
      rw [ht] at hT
      refine lv_istore (lv' := [(10, .int r_8), (9, .int (y (a 20) (y (a 42) p0.toNatClampNeg).toNatClampNeg)), (8, .int (y (a 22) (y (a 42) p0.toNatClampNeg).toNatClampNeg)), (7, .int (y (a 3) 2)), (6, .int (y (a 42) p0.toNatClampNeg)), (0, .ref (a 6)), (1, .int p0), (2, .int p1), (3, .int p2), (4, .int p3), (5, .int p4)]) hx hb dX7_beginHand_98 hl (by decide) rfl (fun ls hl => ?_)
      refine lv_aload_n hx hb dX7_beginHand_100 rfl (lv_at hl 5 rfl) ?_
      refine tw_get (D := (dC, dI)) (v := .ref (a 1)) (C := RX7) (T := TX7) (N := 13) hx hb hts (fun _ hh => (List.mem_cons_of_mem _ (List.mem_append_right _ (List.mem_append_left _ hh)))) hown hK hT (fx_6 hX) (by decide) cl_e16 rfl 0 (by decide) (hts (.fieldLink RX7 27 "TypingPool$Planner" "book" "LTypingPool$Book;") (List.mem_cons_of_mem _ (List.mem_append_left _ (List.mem_of_getElem? (i := 6) rfl)))) (fun _ h9 => h9) rfl dX7_beginHand_101 ?_
      refine lv_iload hx hb dX7_beginHand_104 (lv_at hl 4 rfl) ?_
      refine lv_iload hx hb dX7_beginHand_106 (lv_at hl 3 rfl) ?_
      refine lv_iload hx hb dX7_beginHand_108 (lv_at hl 0 rfl) ?_
      have hFc := tw_free hF hS hA
      refine va_calli (va_runV (As := [.int (y (a 42) p0.toNatClampNeg), .int (y (a 3) 2), .int r_8]) (rest := []) ⟨hx, hb, hml, hown, hts⟩ (c_minuteAfterWork l dC dI ad av H.size a k τ ln y g u (y (a 42) p0.toNatClampNeg) (y (a 3) 2) r_8 hI ) (cwV 3 hts (gi_4 (List.mem_cons_of_mem _ (List.mem_append_left _ (List.mem_of_getElem? (i := 15) rfl))) (List.mem_cons_of_mem _ (List.mem_append_left _ (List.mem_of_getElem? (i := 16) rfl))) (List.mem_cons_of_mem _ (List.mem_append_left _ (List.mem_of_getElem? (i := 17) rfl))) (List.mem_cons_of_mem _ (List.mem_append_left _ (List.mem_of_getElem? (i := 10) rfl))) (fun _ hh => (List.mem_cons_of_mem _ (List.mem_append_right _ (List.mem_append_right _ (List.mem_append_right _ (List.mem_append_right _ (List.mem_append_right _ (List.mem_append_left _ hh)))))))) gd_c_minuteAfterWork) rfl rfl rfl (by decide +kernel) ⟨Nat.le_of_ble_eq_true rfl, Nat.le_of_ble_eq_true rfl⟩) ⟨pw_blind, tw_recv hK hT (fx_1 hX) (by decide) cl_e11 rfl, pw_use hT hK hFc hS hM⟩ rfl rfl hl.1 rfl (lv_room (Nat.le_of_ble_eq_true rfl)) dX7_beginHand_110 ⟨Nat.le_of_ble_eq_true rfl, Nat.le_of_ble_eq_true rfl⟩) hS (fun q _ h => hFc q h) hFc (fun r0 r_9 t H locs ht hvm hw hB hz1 hk1 hS => ?_)
      refine W.widen (k := 0) (n := 0) (Nat.le_of_ble_eq_true rfl) (Nat.le_of_ble_eq_true rfl) ?_
      clear hvm hz1 hk1
      subst hw
      have hT := hB
      rw [ht] at hT
      refine lv_istore (lv' := [(7, .int r_9), (10, .int r_8), (9, .int (y (a 20) (y (a 42) p0.toNatClampNeg).toNatClampNeg)), (8, .int (y (a 22) (y (a 42) p0.toNatClampNeg).toNatClampNeg)), (6, .int (y (a 42) p0.toNatClampNeg)), (0, .ref (a 6)), (1, .int p0), (2, .int p1), (3, .int p2), (4, .int p3), (5, .int p4)]) hx hb dX7_beginHand_113 hl (by decide) rfl (fun ls hl => ?_)
      refine lv_iload hx hb dX7_beginHand_115 (lv_at hl 3 rfl) ?_
      refine lv_aload_n hx hb dX7_beginHand_117 rfl (lv_at hl 5 rfl) ?_
      refine tw_get (D := (dC, dI)) (v := .ref (a 1)) (C := RX7) (T := TX7) (N := 13) hx hb hts (fun _ hh => (List.mem_cons_of_mem _ (List.mem_append_right _ (List.mem_append_left _ hh)))) hown hK hT (fx_6 hX) (by decide) cl_e16 rfl 0 (by decide) (hts (.fieldLink RX7 27 "TypingPool$Planner" "book" "LTypingPool$Book;") (List.mem_cons_of_mem _ (List.mem_append_left _ (List.mem_of_getElem? (i := 6) rfl)))) (fun _ h9 => h9) rfl dX7_beginHand_118 ?_
      refine tw_get (D := (dC, dI)) (v := .ref (a 11)) (C := RX1) (T := TX1) (N := 8) hx hb hts (fun _ hh => (List.mem_cons_of_mem _ (List.mem_append_right _ (List.mem_append_right _ (List.mem_append_right _ (List.mem_append_right _ (List.mem_append_right _ (List.mem_append_right _ (List.mem_append_left _ hh))))))))) hown hK hT (fx_1 hX) (by decide) cl_e11 rfl 4 (by decide) (hts (.fieldLink RX7 115 "TypingPool$Book" "pieces" "[LTypingPool$Piece;") (List.mem_cons_of_mem _ (List.mem_append_left _ (List.mem_of_getElem? (i := 18) rfl)))) (fun _ h9 => h9) rfl dX7_beginHand_121 ?_
      refine lv_iload hx hb dX7_beginHand_124 (lv_at hl 2 rfl) ?_
      refine tw_aald hx hb hK hT 4 (fx_11 hX) (by decide) cl_e21 rfl (z_in rfl (by omega) (by omega)) dX7_beginHand_126 ?_
      obtain ⟨q_10, hgq_10, htq_10⟩ := ic_l11 hI (x := (y (a 20) (y (a 42) p0.toNatClampNeg).toNatClampNeg)) rfl (by omega) (by omega)
      refine lq_topr hgq_10 ?_
      refine tw_get (D := (dC, dI)) (v := .int (y q_10 7)) (C := RX6) (T := TX6) (N := 11) hx hb hts (fun _ hh => (List.mem_cons_of_mem _ (List.mem_append_right _ (List.mem_append_right _ (List.mem_append_right _ (List.mem_append_right _ (List.mem_append_right _ (List.mem_append_right _ (List.mem_append_right _ (List.mem_append_left _ hh)))))))))) hown hK hT htq_10 (by decide) cl_e2 rfl 7 (by decide) (hts (.fieldLink RX7 118 "TypingPool$Piece" "words" "I") (List.mem_cons_of_mem _ (List.mem_append_left _ (List.mem_of_getElem? (i := 19) rfl)))) (fun _ h9 => h9) rfl dX7_beginHand_127 ?_
      refine lv_ior hx hb dX7_beginHand_130 ?_
      refine lv_topi (fun x_11 ex_11 => ?_)
      refine lv_istore (lv' := [(8, .int x_11), (7, .int r_9), (10, .int r_8), (9, .int (y (a 20) (y (a 42) p0.toNatClampNeg).toNatClampNeg)), (6, .int (y (a 42) p0.toNatClampNeg)), (0, .ref (a 6)), (1, .int p0), (2, .int p1), (3, .int p2), (4, .int p3), (5, .int p4)]) hx hb dX7_beginHand_131 hl (by decide) rfl (fun ls hl => ?_)
      refine lv_aload_n hx hb dX7_beginHand_133 rfl (lv_at hl 5 rfl) ?_
      refine lv_iload_n hx hb dX7_beginHand_134 rfl (lv_at hl 6 rfl) ?_
      refine lv_iload_n hx hb dX7_beginHand_135 rfl (lv_at hl 7 rfl) ?_
      refine lv_iload hx hb dX7_beginHand_136 (lv_at hl 1 rfl) ?_
      refine lv_iload hx hb dX7_beginHand_138 (lv_at hl 0 rfl) ?_
      refine lv_iload_n hx hb dX7_beginHand_140 rfl (lv_at hl 8 rfl) ?_
      refine lv_iload hx hb dX7_beginHand_141 (lv_at hl 9 rfl) ?_
      refine lv_iload hx hb dX7_beginHand_143 (lv_at hl 10 rfl) ?_
      have hFc := tw_free hF hS hA
      refine va_callv (va_runV (As := [.int p0, .int p1, .int r_9, .int x_11, .int p2, .int p3, .int p4]) (rest := []) ⟨hx, hb, hml, hown, hts⟩ (c_goOn3 l dC dI ad av H.size a k τ ln y g u p0 p1 r_9 x_11 p2 p3 p4 nP nH hI (by omega) (by omega) gn gp gh (by omega) (by omega) (by omega)) (cwV 7 hts (gi_4 (List.mem_cons_of_mem _ (List.mem_append_left _ (List.mem_of_getElem? (i := 20) rfl))) (List.mem_cons_of_mem _ (List.mem_append_left _ (List.mem_of_getElem? (i := 21) rfl))) (List.mem_cons_of_mem _ (List.mem_append_left _ (List.mem_of_getElem? (i := 22) rfl))) (List.mem_cons_of_mem _ (List.mem_append_left _ (List.mem_of_getElem? (i := 23) rfl))) (fun _ hh => (List.mem_cons_of_mem _ (List.mem_append_right _ (List.mem_append_right _ (List.mem_append_right _ (List.mem_append_right _ (List.mem_append_right _ (List.mem_append_right _ (List.mem_append_right _ (List.mem_append_right _ (List.mem_append_left _ hh))))))))))) gd_c_goOn3) rfl rfl rfl (by decide +kernel) ⟨Nat.le_of_ble_eq_true rfl, Nat.le_of_ble_eq_true rfl⟩) ⟨pw_blind, tw_recv hK hT (fx_6 hX) (by decide) cl_e16 rfl, pw_use hT hK hFc hS hM⟩ rfl rfl hl.1 rfl (lv_room (Nat.le_of_ble_eq_true rfl)) dX7_beginHand_145 ⟨Nat.le_of_ble_eq_true rfl, Nat.le_of_ble_eq_true rfl⟩) hS (fun q _ h => hFc q h) hFc (fun u0 t H locs ht hvm hw hB hz1 hk1 hS => ?_)
      refine W.widen (k := 0) (n := 0) (Nat.le_of_ble_eq_true rfl) (Nat.le_of_ble_eq_true rfl) ?_
      clear hvm hz1 hk1
      obtain ⟨y_13, hgy_13, hf_14, hf_15, hf_16, hT⟩ := hB
      rw [ht] at hT
      have hG := hG.tr hgy_13 (by decide)
      have hI := hI.ag hgy_13 (by decide)
      exact W.vret hx hb hr (fun t ht hW9 => ⟨⟨(), rfl, trivial, ⟨y_13, hG, by omega, by omega, by omega, tw_at ht hT⟩⟩, hS.F ht⟩) hS.2.2 dX7_beginHand_148
    · refine lq_top (v := 0) hre ?_
      rw [ht] at hT
      refine lv_if_eq (tgt := 133) hx hb dX7_beginHand_72 (by decide) (fun c_17 => ?_) (fun c_17 => absurd c_17 (by decide))
      refine lv_aload_n hx hb dX7_beginHand_133 rfl (lv_at hl 4 rfl) ?_
      refine lv_iload_n hx hb dX7_beginHand_134 rfl (lv_at hl 5 rfl) ?_
      refine lv_iload_n hx hb dX7_beginHand_135 rfl (lv_at hl 6 rfl) ?_
      refine lv_iload hx hb dX7_beginHand_136 (lv_at hl 2 rfl) ?_
      refine lv_iload hx hb dX7_beginHand_138 (lv_at hl 1 rfl) ?_
      refine lv_iload_n hx hb dX7_beginHand_140 rfl (lv_at hl 7 rfl) ?_
      refine lv_iload hx hb dX7_beginHand_141 (lv_at hl 8 rfl) ?_
      refine lv_iload hx hb dX7_beginHand_143 (lv_at hl 9 rfl) ?_
      have hFc := tw_free hF hS hA
      refine va_callv (va_runV (As := [.int p0, .int p1, .int (y (a 3) 2), .int (y (a 22) (y (a 42) p0.toNatClampNeg).toNatClampNeg), .int p2, .int p3, .int p4]) (rest := []) ⟨hx, hb, hml, hown, hts⟩ (c_goOn3 l dC dI ad av H.size a k τ ln y g u p0 p1 (y (a 3) 2) (y (a 22) (y (a 42) p0.toNatClampNeg).toNatClampNeg) p2 p3 p4 nP nH hI (by omega) (by omega) gn gp gh (by omega) (by omega) (by omega)) (cwV 7 hts (gi_4 (List.mem_cons_of_mem _ (List.mem_append_left _ (List.mem_of_getElem? (i := 20) rfl))) (List.mem_cons_of_mem _ (List.mem_append_left _ (List.mem_of_getElem? (i := 21) rfl))) (List.mem_cons_of_mem _ (List.mem_append_left _ (List.mem_of_getElem? (i := 22) rfl))) (List.mem_cons_of_mem _ (List.mem_append_left _ (List.mem_of_getElem? (i := 23) rfl))) (fun _ hh => (List.mem_cons_of_mem _ (List.mem_append_right _ (List.mem_append_right _ (List.mem_append_right _ (List.mem_append_right _ (List.mem_append_right _ (List.mem_append_right _ (List.mem_append_right _ (List.mem_append_right _ (List.mem_append_left _ hh))))))))))) gd_c_goOn3) rfl rfl rfl (by decide +kernel) ⟨Nat.le_of_ble_eq_true rfl, Nat.le_of_ble_eq_true rfl⟩) ⟨pw_blind, tw_recv hK hT (fx_6 hX) (by decide) cl_e16 rfl, pw_use hT hK hFc hS hM⟩ rfl rfl hl.1 rfl (lv_room (Nat.le_of_ble_eq_true rfl)) dX7_beginHand_145 ⟨Nat.le_of_ble_eq_true rfl, Nat.le_of_ble_eq_true rfl⟩) hS (fun q _ h => hFc q h) hFc (fun u0 t H locs ht hvm hw hB hz1 hk1 hS => ?_)
      refine W.widen (k := 0) (n := 0) (Nat.le_of_ble_eq_true rfl) (Nat.le_of_ble_eq_true rfl) ?_
      clear hvm hz1 hk1
      obtain ⟨y_19, hgy_19, hf_20, hf_21, hf_22, hT⟩ := hB
      rw [ht] at hT
      have hG := hG.tr hgy_19 (by decide)
      have hI := hI.ag hgy_19 (by decide)
      exact W.vret hx hb hr (fun t ht hW9 => ⟨⟨(), rfl, trivial, ⟨y_19, hG, by omega, by omega, by omega, tw_at ht hT⟩⟩, hS.F ht⟩) hS.2.2 dX7_beginHand_148
  · have nc_1 := z_nlt rfl rfl c_1
    refine lv_iload_n hx hb dX7_beginHand_8 rfl (lv_at hl 2 rfl) ?_
    refine lv_if_ne (tgt := 21) hx hb dX7_beginHand_9 (by decide) (fun c_23 => ?_) (fun c_23 => ?_)
    · have nc_23 := z_ne rfl (zk (x := 0) 0 rfl) c_23
      exact W.vret hx hb hr (fun t ht hW9 => ⟨⟨(), rfl, trivial, ⟨y, hG, by omega, by omega, by omega, tw_at ht hT⟩⟩, hS.F ht⟩) hS.2.2 dX7_beginHand_21
    · have nc_23 := z_eq rfl (zk (x := 0) 0 rfl) c_23
      refine lv_aload_n hx hb dX7_beginHand_12 rfl (lv_at hl 0 rfl) ?_
      refine lv_iload_n hx hb dX7_beginHand_13 rfl (lv_at hl 3 rfl) ?_
      refine lv_iload hx hb dX7_beginHand_14 (lv_at hl 4 rfl) ?_
      refine lv_iload hx hb dX7_beginHand_16 (lv_at hl 5 rfl) ?_
      have hFc := tw_free hF hS hA
      refine va_callv (va_runV (As := [.int p2, .int p3, .int p4]) (rest := []) ⟨hx, hb, hml, hown, hts⟩ (c_keep l dC dI ad av s.heap.size a k τ ln y g u p2 p3 p4 hI (by omega) (by omega) (by omega)) (cwV 3 hts (gi_4 (List.mem_cons_of_mem _ (List.mem_append_left _ (List.mem_of_getElem? (i := 24) rfl))) (List.mem_cons_of_mem _ (List.mem_append_left _ (List.mem_of_getElem? (i := 25) rfl))) (List.mem_cons_of_mem _ (List.mem_append_left _ (List.mem_of_getElem? (i := 26) rfl))) (List.mem_cons_of_mem _ (List.mem_append_left _ (List.mem_of_getElem? (i := 23) rfl))) (fun _ hh => (List.mem_cons_of_mem _ (List.mem_append_right _ (List.mem_append_right _ (List.mem_append_right _ (List.mem_append_right _ (List.mem_append_right _ (List.mem_append_right _ (List.mem_append_right _ (List.mem_append_right _ (List.mem_append_right _ (List.mem_append_left _ hh)))))))))))) gd_c_keep) rfl rfl rfl (by decide +kernel) ⟨Nat.le_of_ble_eq_true rfl, Nat.le_of_ble_eq_true rfl⟩) ⟨pw_blind, tw_recv hK hT (fx_6 hX) (by decide) cl_e16 rfl, pw_use hT hK hFc hS hM⟩ rfl rfl hl.1 rfl (lv_room (Nat.le_of_ble_eq_true rfl)) dX7_beginHand_18 ⟨Nat.le_of_ble_eq_true rfl, Nat.le_of_ble_eq_true rfl⟩) hS (fun q _ h => hFc q h) hFc (fun u0 t H locs ht hvm hw hB hz1 hk1 hS => ?_)
      refine W.widen (k := 0) (n := 0) (Nat.le_of_ble_eq_true rfl) (Nat.le_of_ble_eq_true rfl) ?_
      clear hvm hz1 hk1
      obtain ⟨y_25, hgy_25, hf_26, hf_27, hf_28, hT⟩ := hB
      rw [ht] at hT
      have hG := hG.tr hgy_25 (by decide)
      have hI := hI.ag hgy_25 (by decide)
      exact W.vret hx hb hr (fun t ht hW9 => ⟨⟨(), rfl, trivial, ⟨y_25, hG, by omega, by omega, by omega, tw_at ht hT⟩⟩, hS.F ht⟩) hS.2.2 dX7_beginHand_21
def wo_c_goOn2 : List Cond := [.fieldLink RX7 78 "TypingPool$Planner" "handCount" "I", .methodLink RX7 126 yX7_isBetter, .instanceMethod yX7_isBetter, .selects RX7 yX7_isBetter yX7_isBetter, .initialized RX7, .fieldLink RX7 21 "TypingPool$Planner" "current" "[I", .methodLink RX7 63 yX7_beginHand, .instanceMethod yX7_beginHand, .selects RX7 yX7_beginHand yX7_beginHand, .fieldLink RX7 15 "TypingPool$Planner" "hands" "[I", .fieldLink RX7 42 "TypingPool$Planner" "pieceCount" "I", .fieldLink RX7 18 "TypingPool$Planner" "allowed" "[I", .fieldLink RX7 9 "TypingPool$Planner" "pieces" "[I", .fieldLink RX7 27 "TypingPool$Planner" "book" "LTypingPool$Book;", .fieldLink RX7 115 "TypingPool$Book" "pieces" "[LTypingPool$Piece;", .methodLink RX7 130 yX6_allWork, .instanceMethod yX6_allWork, .selects RX6 yX6_allWork yX6_allWork, .initialized RX6, .fieldLink RX7 31 "TypingPool$Planner" "floor" "LTypingPool$Floor;", .methodLink RX7 133 yX3_rateFor, .instanceMethod yX3_rateFor, .selects RX3 yX3_rateFor yX3_rateFor, .initialized RX3, .initialized RX11, .static yX11_minutesFor, .methodLink RX7 111 yX1_minuteAfterWork, .instanceMethod yX1_minuteAfterWork, .selects RX1 yX1_minuteAfterWork yX1_minuteAfterWork, .initialized RX1, .fieldLink RX7 136 "TypingPool$Piece" "due" "I", .methodLink RX7 139 Lib.Math.max.name, .static Lib.Math.max.name, .initialized "java/lang/Math", .code Lib.Math.max.name Lib.Math.max.code 2 (some .int), .fieldLink RX7 118 "TypingPool$Piece" "words" "I", .methodLink RX7 122 yX7_goOn, .instanceMethod yX7_goOn, .selects RX7 yX7_goOn yX7_goOn]
def wm_c_goOn2 : List Cond := .code yX7_goOn cX7_goOn 15 none :: (wo_c_goOn2 ++ (wsX70 ++ (wm_c_isBetter ++ (wm_c_beginHand3 ++ (wsX10 ++ (wm_c_allWork ++ (wm_c_rateFor ++ (wm_c_minutesFor ++ (wm_c_minuteAfterWork ++ (wsX60 ++ (wm_c_goOn3 ++ ([] : List Cond))))))))))))
theorem gd_c_goOn2 : ∀ w ∈ wm_c_goOn2, goodWord w = true := gd_c rfl (gd_a (by decide) (gd_a gd_wsX70 (gd_a gd_c_isBetter (gd_a gd_c_beginHand3 (gd_a gd_wsX10 (gd_a gd_c_allWork (gd_a gd_c_rateFor (gd_a gd_c_minutesFor (gd_a gd_c_minuteAfterWork (gd_a gd_wsX60 (gd_a gd_c_goOn3 gd_nil)))))))))))
set_option maxRecDepth 20000 in
theorem im_c_goOn2 : ∀ w ∈ wm_c_goOn2, w ∈ lw_tbl := im_c (in_r [.code yX7_goOn cX7_goOn 15 none] [1060] (by decide +kernel)) (in_app (in_r wo_c_goOn2 [520, 1047, 1049, 23, 85, 522, 1039, 1041, 21, 519, 518, 521, 517, 515, 128, 1061, 720, 721, 89, 516, 1062, 820, 821, 83, 70, 845, 1053, 1054, 1055, 71, 683, 1063, 289, 78, 290, 687, 1057, 1059, 24] (by decide +kernel)) (in_app im_wsX70 (in_app im_c_isBetter (in_app im_c_beginHand3 (in_app im_wsX10 (in_app im_c_allWork (in_app im_c_rateFor (in_app im_c_minutesFor (in_app im_c_minuteAfterWork (in_app im_wsX60 (in_app im_c_goOn3 im_nil)))))))))))
set_option maxHeartbeats 4000000 in
set_option maxRecDepth 100000 in
theorem c_goOn2 (l : Launch) (dC : Nat → ClassId) (dI : Nat → Nat → Nat) (ad av : Nat → Nat) (sz : Nat) (a : Nat → Nat) (k : Nat → ClassId) (τ ln : Nat → Nat) (y : Nat → Nat → Int32) (g : Nat → Nat → Option Nat) (u : Nat → Int) (p0 : Int32) (p1 : Int32) (p2 : Int32) (p3 : Int32) (p4 : Int32) (p5 : Int32) (p6 : Int32) (nP : Int) (nH : Int) (hI : IC a u τ ln y g) (g3 : (y (a 6) 3).toInt = nP) (g5 : (y (a 6) 5).toInt = nH) (gn : (0 ≤ nP ∧ nP ≤ 5) ∧ 0 ≤ nH ∧ nH ≤ 3) (gp : vl nP (u 2) (y (a 41))) (gh : vl nH (u 1) (y (a 42))) (g9 : 0 ≤ (y (a 6) 9).toInt ∧ (y (a 6) 9).toInt ≤ 8) (hp0 : 0 ≤ p0.toInt) (hlen : p6.toInt = 2) : Met l yX7_goOn wm_c_goOn2 ({ frames := 14, cells := 0, slots := 0, locals := 840 }) (pw_ ad av (dC, dI) sz [.ref (a 6), .int p0, .int p1, .int p2, .int p3, .int p4, .int p5, .int p6] a k τ ln y g) (va_Qv (fun (_ : Unit) => True) (fun (_ : Unit) (t : State) => (∃ (y' : Nat → Nat → Int32), ag τ [16, 54, 55] y y' ∧ (y' (a 6) 3).toInt = (y (a 6) 3).toInt ∧ (y' (a 6) 5).toInt = (y (a 6) 5).toInt ∧ (0 ≤ (y' (a 6) 9).toInt ∧ (y' (a 6) 9).toInt ≤ 8) ∧ tw (dC, dI) a k τ ln y' g t.heap)) (fr τ sz)) 0 0 (fr τ sz) := by
  refine Met.ofW (cc := cX7_goOn) (maxL := 15) (ret := none) (by decide) rfl ?_
  intro p e s m args below meth c s₁ B hml hv
  obtain ⟨rfl, hsz, hT, hK, hM⟩ := hv
  have hx := B.exec
  have hb := B.bytes
  have hr := B.returns
  have hts := atoms_spec (ws := wm_c_goOn2) B.pre
  have hown : s.vm.findClass RX7 = some m.cls := findClass_of_methodNamed B.named
  have hlocks := B.notSynchronized
  subst hsz
  generalize hAe : fr τ s.heap.size = A at hM ⊢
  have hA : ∀ q : Nat, s.heap.size ≤ q → A q := fun q h => by rw [← hAe]; exact Or.inr h
  have hF : ∀ q, τ q ≠ 0 → A q := fun q h => by rw [← hAe]; exact Or.inl h
  have hS : va_S A s.heap s.heap [] := va_S.rf
  have hX := hI.1
  have hR := ic_r hI
  have hG : ag τ [16, 54, 55] y y := ag.rf
  have hl := lv_entry ([.ref (a 6), .int p0, .int p1, .int p2, .int p3, .int p4, .int p5, .int p6]) (n := 15) (Nat.le_of_ble_eq_true rfl)
  rw [lg_entry_eq]
  generalize (lg_sl ([.ref (a 6), .int p0, .int p1, .int p2, .int p3, .int p4, .int p5, .int p6]) ++ List.replicate (15 - (lg_sl ([.ref (a 6), .int p0, .int p1, .int p2, .int p3, .int p4, .int p5, .int p6])).length) Slot.unset).toArray = ls at hl ⊢
  have hl : lv_has ls 15 [(0, .ref (a 6)), (1, .int p0), (2, .int p1), (3, .int p2), (4, .int p3), (5, .int p4), (6, .int p5), (7, .int p6)] := hl
  refine lv_iload hx hb dX7_goOn_0 (lv_at hl 7 rfl) ?_
  refine lv_bipush (v := 8) hx hb dX7_goOn_2 (by decide) ?_
  refine lv_icmp_ge (tgt := 26) hx hb dX7_goOn_4 (by decide) (fun c_1 => ?_) (fun c_1 => ?_)
  · have nc_1 := z_le (zk (x := 8) 8 rfl) rfl c_1
    exact W.vret hx hb hr (fun t ht hW9 => ⟨⟨(), rfl, trivial, ⟨y, hG, by omega, by omega, by omega, tw_at ht hT⟩⟩, hS.F ht⟩) hS.2.2 dX7_goOn_26
  · have nc_1 := z_nle (zk (x := 8) 8 rfl) rfl c_1
    refine lv_iload_n hx hb dX7_goOn_7 rfl (lv_at hl 1 rfl) ?_
    refine lv_aload_n hx hb dX7_goOn_8 rfl (lv_at hl 0 rfl) ?_
    refine tw_get (D := (dC, dI)) (v := .int (y (a 6) 5)) (C := RX7) (T := TX7) (N := 13) hx hb hts (fun _ hh => (List.mem_cons_of_mem _ (List.mem_append_right _ (List.mem_append_left _ hh)))) hown hK hT (fx_6 hX) (by decide) cl_e16 rfl 5 (by decide) (hts (.fieldLink RX7 78 "TypingPool$Planner" "handCount" "I") (List.mem_cons_of_mem _ (List.mem_append_left _ (List.mem_of_getElem? (i := 0) rfl)))) (fun _ h9 => h9) rfl dX7_goOn_9 ?_
    refine lv_icmp_ge (tgt := 26) hx hb dX7_goOn_12 (by decide) (fun c_2 => ?_) (fun c_2 => ?_)
    · have nc_2 := z_le rfl rfl c_2
      exact W.vret hx hb hr (fun t ht hW9 => ⟨⟨(), rfl, trivial, ⟨y, hG, by omega, by omega, by omega, tw_at ht hT⟩⟩, hS.F ht⟩) hS.2.2 dX7_goOn_26
    · have nc_2 := z_nle rfl rfl c_2
      refine lv_aload_n hx hb dX7_goOn_15 rfl (lv_at hl 0 rfl) ?_
      refine lv_iload hx hb dX7_goOn_16 (lv_at hl 5 rfl) ?_
      refine lv_iload hx hb dX7_goOn_18 (lv_at hl 6 rfl) ?_
      have hFc := tw_free hF hS hA
      refine va_calli (va_runV (As := [.int p4, .int p5]) (rest := []) ⟨hx, hb, hml, hown, hts⟩ (c_isBetter l dC dI ad av s.heap.size a k τ ln y g u p4 p5 hI ) (cwV 2 hts (gi_4 (List.mem_cons_of_mem _ (List.mem_append_left _ (List.mem_of_getElem? (i := 1) rfl))) (List.mem_cons_of_mem _ (List.mem_append_left _ (List.mem_of_getElem? (i := 2) rfl))) (List.mem_cons_of_mem _ (List.mem_append_left _ (List.mem_of_getElem? (i := 3) rfl))) (List.mem_cons_of_mem _ (List.mem_append_left _ (List.mem_of_getElem? (i := 4) rfl))) (fun _ hh => (List.mem_cons_of_mem _ (List.mem_append_right _ (List.mem_append_right _ (List.mem_append_left _ hh))))) gd_c_isBetter) rfl rfl rfl (by decide +kernel) ⟨Nat.le_of_ble_eq_true rfl, Nat.le_of_ble_eq_true rfl⟩) ⟨pw_blind, tw_recv hK hT (fx_6 hX) (by decide) cl_e16 rfl, pw_use hT hK hFc hS hM⟩ rfl rfl hl.1 rfl (lv_room (Nat.le_of_ble_eq_true rfl)) dX7_goOn_20 ⟨Nat.le_of_ble_eq_true rfl, Nat.le_of_ble_eq_true rfl⟩) hS (fun q _ h => hFc q h) hFc (fun r0 r_3 t H locs ht hvm hw hB hz1 hk1 hS => ?_)
      refine W.widen (k := 0) (n := 0) (Nat.le_of_ble_eq_true rfl) (Nat.le_of_ble_eq_true rfl) ?_
      clear hvm hz1 hk1
      subst hw
      rcases hB with ⟨hre, hT⟩ | ⟨hre, hT⟩
      · refine lq_top (v := 1) hre ?_
        rw [ht] at hT
        refine lv_if_ne (tgt := 27) hx hb dX7_goOn_23 (by decide) (fun c_4 => ?_) (fun c_4 => absurd c_4 (by decide))
        refine lv_aload_n hx hb dX7_goOn_27 rfl (lv_at hl 0 rfl) ?_
        refine tw_get (D := (dC, dI)) (v := .ref (a 44)) (C := RX7) (T := TX7) (N := 13) hx hb hts (fun _ hh => (List.mem_cons_of_mem _ (List.mem_append_right _ (List.mem_append_left _ hh)))) hown hK hT (fx_6 hX) (by decide) cl_e16 rfl 7 (by decide) (hts (.fieldLink RX7 21 "TypingPool$Planner" "current" "[I") (List.mem_cons_of_mem _ (List.mem_append_left _ (List.mem_of_getElem? (i := 5) rfl)))) (fun _ h9 => h9) rfl dX7_goOn_28 ?_
        refine lv_iload hx hb dX7_goOn_31 (lv_at hl 7 rfl) ?_
        refine lv_iconst (v := (-1)) hx hb dX7_goOn_33 (by decide) ?_
        refine tw_iast hx hb hK hT hF hS 0 (fx_44 hX) (by decide) (fun _ => cl_e54) rfl (z_in rfl (by omega) (by omega)) dX7_goOn_34 (fun H locs hT hS => ?_)
        obtain ⟨y_5, hy_5, hT⟩ : ∃ z : Nat → Nat → Int32, z = up2 y (a 44) p6.toNatClampNeg (-1 : Int32) ∧ tw (dC, dI) a k τ ln z g H := ⟨_, rfl, hT⟩
        have hG : ag τ [16, 54, 55] y y_5 := by rw [hy_5]; exact hG.up (fx_44 hX) (by decide)
        have : (y_5 (a 6) 3).toInt = (y (a 6) 3).toInt := by rw [hy_5, up2_o (kd_ne (fx_6 hX) (fx_44 hX) (by decide))]
        have : (y_5 (a 6) 5).toInt = (y (a 6) 5).toInt := by rw [hy_5, up2_o (kd_ne (fx_6 hX) (fx_44 hX) (by decide))]
        have : (y_5 (a 6) 9).toInt = (y (a 6) 9).toInt := by rw [hy_5, up2_o (kd_ne (fx_6 hX) (fx_44 hX) (by decide))]
        have hI := hI.ag (S := [54]) (y' := y_5) (by rw [hy_5]; exact ag.one (fx_44 hX)) (by decide)
        refine lv_aload_n hx hb dX7_goOn_35 rfl (lv_at hl 0 rfl) ?_
        refine lv_iload_n hx hb dX7_goOn_36 rfl (lv_at hl 1 rfl) ?_
        refine lv_iconst (v := 1) hx hb dX7_goOn_37 (by decide) ?_
        refine lv_iadd hx hb dX7_goOn_38 ?_
        refine lv_topi (fun x_6 ex_6 => ?_)
        have hx_6 := z_add ex_6 rfl (zk (x := 1) 1 rfl) (by omega) (by omega)
        refine lv_iload_n hx hb dX7_goOn_39 rfl (lv_at hl 2 rfl) ?_
        refine lv_iload hx hb dX7_goOn_40 (lv_at hl 5 rfl) ?_
        refine lv_iload hx hb dX7_goOn_42 (lv_at hl 6 rfl) ?_
        refine lv_iload hx hb dX7_goOn_44 (lv_at hl 7 rfl) ?_
        refine lv_iconst (v := 1) hx hb dX7_goOn_46 (by decide) ?_
        refine lv_iadd hx hb dX7_goOn_47 ?_
        refine lv_topi (fun x_7 ex_7 => ?_)
        have hx_7 := z_add ex_7 rfl (zk (x := 1) 1 rfl) (by omega) (by omega)
        have hFc := tw_free hF hS hA
        refine va_callv (va_runV (As := [.int x_6, .int p1, .int p4, .int p5, .int x_7]) (rest := []) ⟨hx, hb, hml, hown, hts⟩ (c_beginHand3 l dC dI ad av H.size a k τ ln y_5 g u x_6 p1 p4 p5 x_7 nP nH hI (by omega) (by omega) gn (by rw [hG.at (fx_41 hX) (by decide)]; exact gp) (by rw [hG.at (fx_42 hX) (by decide)]; exact gh) (by omega) (by omega) (by omega)) (cwV 5 hts (gi_4 (List.mem_cons_of_mem _ (List.mem_append_left _ (List.mem_of_getElem? (i := 6) rfl))) (List.mem_cons_of_mem _ (List.mem_append_left _ (List.mem_of_getElem? (i := 7) rfl))) (List.mem_cons_of_mem _ (List.mem_append_left _ (List.mem_of_getElem? (i := 8) rfl))) (List.mem_cons_of_mem _ (List.mem_append_left _ (List.mem_of_getElem? (i := 4) rfl))) (fun _ hh => (List.mem_cons_of_mem _ (List.mem_append_right _ (List.mem_append_right _ (List.mem_append_right _ (List.mem_append_left _ hh)))))) gd_c_beginHand3) rfl rfl rfl (by decide +kernel) ⟨Nat.le_of_ble_eq_true rfl, Nat.le_of_ble_eq_true rfl⟩) ⟨pw_blind, tw_recv hK hT (fx_6 hX) (by decide) cl_e16 rfl, pw_use hT hK hFc hS hM⟩ rfl rfl hl.1 rfl (lv_room (Nat.le_of_ble_eq_true rfl)) dX7_goOn_48 ⟨Nat.le_of_ble_eq_true rfl, Nat.le_of_ble_eq_true rfl⟩) hS (fun q _ h => hFc q h) hFc (fun u0 t H locs ht hvm hw hB hz1 hk1 hS => ?_)
        refine W.widen (k := 0) (n := 0) (Nat.le_of_ble_eq_true rfl) (Nat.le_of_ble_eq_true rfl) ?_
        clear hvm hz1 hk1
        obtain ⟨y_9, hgy_9, hf_10, hf_11, hf_12, hT⟩ := hB
        rw [ht] at hT
        have hG := hG.tr hgy_9 (by decide)
        have hI := hI.ag hgy_9 (by decide)
        refine lv_aload_n hx hb dX7_goOn_51 rfl (lv_at hl 0 rfl) ?_
        refine tw_get (D := (dC, dI)) (v := .ref (a 42)) (C := RX7) (T := TX7) (N := 13) hx hb hts (fun _ hh => (List.mem_cons_of_mem _ (List.mem_append_right _ (List.mem_append_left _ hh)))) hown hK hT (fx_6 hX) (by decide) cl_e16 rfl 4 (by decide) (hts (.fieldLink RX7 15 "TypingPool$Planner" "hands" "[I") (List.mem_cons_of_mem _ (List.mem_append_left _ (List.mem_of_getElem? (i := 9) rfl)))) (fun _ h9 => h9) rfl dX7_goOn_52 ?_
        refine lv_iload_n hx hb dX7_goOn_55 rfl (lv_at hl 1 rfl) ?_
        refine tw_iald hx hb hK hT 0 (fx_42 hX) (by decide) cl_e52 rfl (z_in rfl (by omega) (by omega)) dX7_goOn_56 ?_
        have hv0 : vl nH (u 1) (y_9 (a 42)) := (by rw [hG.at (fx_42 hX) (by decide)]; exact gh)
        have hv_13 := vl_at hv0 (x := p0) rfl (by omega) (by omega)
        refine lv_istore (lv' := [(8, .int (y_9 (a 42) p0.toNatClampNeg)), (0, .ref (a 6)), (1, .int p0), (2, .int p1), (3, .int p2), (4, .int p3), (5, .int p4), (6, .int p5), (7, .int p6)]) hx hb dX7_goOn_57 hl (by decide) rfl (fun ls hl => ?_)
        refine lv_iconst (v := 0) hx hb dX7_goOn_59 (by decide) ?_
        refine lv_istore (lv' := [(9, .int 0), (8, .int (y_9 (a 42) p0.toNatClampNeg)), (0, .ref (a 6)), (1, .int p0), (2, .int p1), (3, .int p2), (4, .int p3), (5, .int p4), (6, .int p5), (7, .int p6)]) hx hb dX7_goOn_60 hl (by decide) rfl (fun ls hl => ?_)
        have loop_62 : ∀ (n : Nat) (i9 : Int32) (y_L62 : Nat → Nat → Int32) (H : Heap) (locs : List Loc) (ls : Array Slot), (nP - i9.toInt).toNat < n → ag τ [16, 54, 55] y y_L62 → IC a u τ ln y_L62 g → 0 ≤ i9.toInt → i9.toInt ≤ nP → (y_L62 (a 6) 3).toInt = nP → (y_L62 (a 6) 5).toInt = nH → 0 ≤ (y_L62 (a 6) 9).toInt ∧ (y_L62 (a 6) 9).toInt ≤ 8 → tw (dC, dI) a k τ ln y_L62 g H → va_S A s.heap H locs → lv_has ls 15 [(0, .ref (a 6)), (1, .int p0), (2, .int p1), (3, .int p2), (4, .int p3), (5, .int p4), (6, .int p5), (7, .int p6), (8, .int (y_9 (a 42) p0.toNatClampNeg)), (9, .int i9)] → W p l e (headSpec wm_c_goOn2 ({ frames := 14, cells := 0, slots := 0, locals := 840 })).room s m ([.ref (a 6), .int p0, .int p1, .int p2, .int p3, .int p4, .int p5, .int p6] : List Value).toArray below meth c H locs 0 0 (MQ below (va_Qv (fun (_ : Unit) => True) (fun (_ : Unit) (t : State) => (∃ (y' : Nat → Nat → Int32), ag τ [16, 54, 55] y y' ∧ (y' (a 6) 3).toInt = (y (a 6) 3).toInt ∧ (y' (a 6) 5).toInt = (y (a 6) 5).toInt ∧ (0 ≤ (y' (a 6) 9).toInt ∧ (y' (a 6) 9).toInt ≤ 8) ∧ tw (dC, dI) a k τ ln y' g t.heap)) A) ([.ref (a 6), .int p0, .int p1, .int p2, .int p3, .int p4, .int p5, .int p6] : List Value).toArray s 0 0 A) (F0 m 62 ls []) := by
          intro n
          induction n with
          | zero => intro i9 y_L62 H locs ls hlt; exact absurd hlt (Nat.not_lt_zero _)
          | succ n ih_62 =>
            intro i9 y_L62 H locs ls hlt hG hI hi62_0 hi62_1 hi62_2 hi62_3 hi62_4 hT hS hl
            refine lv_iload hx hb dX7_goOn_62 (lv_at hl 9 rfl) ?_
            refine lv_aload_n hx hb dX7_goOn_64 rfl (lv_at hl 0 rfl) ?_
            refine tw_get (D := (dC, dI)) (v := .int (y_L62 (a 6) 3)) (C := RX7) (T := TX7) (N := 13) hx hb hts (fun _ hh => (List.mem_cons_of_mem _ (List.mem_append_right _ (List.mem_append_left _ hh)))) hown hK hT (fx_6 hX) (by decide) cl_e16 rfl 3 (by decide) (hts (.fieldLink RX7 42 "TypingPool$Planner" "pieceCount" "I") (List.mem_cons_of_mem _ (List.mem_append_left _ (List.mem_of_getElem? (i := 10) rfl)))) (fun _ h9 => h9) rfl dX7_goOn_65 ?_
            refine lv_icmp_ge (tgt := 220) hx hb dX7_goOn_68 (by decide) (fun c_14 => ?_) (fun c_14 => ?_)
            · have nc_14 := z_le rfl rfl c_14
              exact W.vret hx hb hr (fun t ht hW9 => ⟨⟨(), rfl, trivial, ⟨y_L62, hG, by omega, by omega, by omega, tw_at ht hT⟩⟩, hS.F ht⟩) hS.2.2 dX7_goOn_220
            · have nc_14 := z_nle rfl rfl c_14
              refine lv_iload_n hx hb dX7_goOn_71 rfl (lv_at hl 2 rfl) ?_
              refine lv_aload_n hx hb dX7_goOn_72 rfl (lv_at hl 0 rfl) ?_
              refine tw_get (D := (dC, dI)) (v := .ref (a 43)) (C := RX7) (T := TX7) (N := 13) hx hb hts (fun _ hh => (List.mem_cons_of_mem _ (List.mem_append_right _ (List.mem_append_left _ hh)))) hown hK hT (fx_6 hX) (by decide) cl_e16 rfl 6 (by decide) (hts (.fieldLink RX7 18 "TypingPool$Planner" "allowed" "[I") (List.mem_cons_of_mem _ (List.mem_append_left _ (List.mem_of_getElem? (i := 11) rfl)))) (fun _ h9 => h9) rfl dX7_goOn_73 ?_
              refine lv_iload_n hx hb dX7_goOn_76 rfl (lv_at hl 1 rfl) ?_
              refine tw_iald hx hb hK hT 0 (fx_43 hX) (by decide) cl_e53 rfl (z_in rfl (by omega) (by omega)) dX7_goOn_77 ?_
              refine lv_iand hx hb dX7_goOn_78 ?_
              refine lv_topi (fun x_15 ex_15 => ?_)
              refine lv_iload hx hb dX7_goOn_79 (lv_at hl 9 rfl) ?_
              refine lv_ishr hx hb dX7_goOn_81 ?_
              refine lv_topi (fun x_16 ex_16 => ?_)
              refine lv_iconst (v := 1) hx hb dX7_goOn_82 (by decide) ?_
              refine lv_iand hx hb dX7_goOn_83 ?_
              refine lv_topi (fun x_17 ex_17 => ?_)
              have hx_17 := z_and (x := x_16) (zk (x := 1) 1 rfl) (by omega)
              rw [← ex_17] at hx_17
              refine lv_iconst (v := 1) hx hb dX7_goOn_84 (by decide) ?_
              refine lv_icmp_ne (tgt := 214) hx hb dX7_goOn_85 (by decide) (fun c_18 => ?_) (fun c_18 => ?_)
              · have nc_18 := z_ne rfl (zk (x := 1) 1 rfl) c_18
                obtain ⟨x_19, ex_19⟩ : ∃ y : Int32, y = i9 + Int32.ofInt 1 := ⟨_, rfl⟩
                have hx_19 := z_add ex_19 rfl (zk (x := Int32.ofInt 1) 1 rfl) (by omega) (by omega)
                refine lv_iinc (v := x_19) (lv' := [(9, .int x_19), (0, .ref (a 6)), (1, .int p0), (2, .int p1), (3, .int p2), (4, .int p3), (5, .int p4), (6, .int p5), (7, .int p6), (8, .int (y_9 (a 42) p0.toNatClampNeg))]) hx hb dX7_goOn_214 hl (k := 9) rfl ex_19.symm (by decide) rfl (fun ls hl => ?_)
                refine lv_goto (tgt := 62) hx hb dX7_goOn_217 (by decide) ?_
                exact ih_62  x_19 y_L62 H _ ls (by omega) hG hI (by omega) (by omega) (by omega) (by omega) (by omega) hT hS (lv_sub hl [1, 2, 3, 4, 5, 6, 7, 8, 9, 0] rfl)
              · have nc_18 := z_eq rfl (zk (x := 1) 1 rfl) c_18
                refine lv_aload_n hx hb dX7_goOn_88 rfl (lv_at hl 0 rfl) ?_
                refine tw_get (D := (dC, dI)) (v := .ref (a 41)) (C := RX7) (T := TX7) (N := 13) hx hb hts (fun _ hh => (List.mem_cons_of_mem _ (List.mem_append_right _ (List.mem_append_left _ hh)))) hown hK hT (fx_6 hX) (by decide) cl_e16 rfl 2 (by decide) (hts (.fieldLink RX7 9 "TypingPool$Planner" "pieces" "[I") (List.mem_cons_of_mem _ (List.mem_append_left _ (List.mem_of_getElem? (i := 12) rfl)))) (fun _ h9 => h9) rfl dX7_goOn_89 ?_
                refine lv_iload hx hb dX7_goOn_92 (lv_at hl 9 rfl) ?_
                refine tw_iald hx hb hK hT 0 (fx_41 hX) (by decide) cl_e51 rfl (z_in rfl (by omega) (by omega)) dX7_goOn_94 ?_
                have hv0 : vl nP (u 2) (y_L62 (a 41)) := (by rw [hG.at (fx_41 hX) (by decide)]; exact gp)
                have hv_20 := vl_at hv0 (x := i9) rfl (by omega) (by omega)
                refine lv_istore (lv' := [(10, .int (y_L62 (a 41) i9.toNatClampNeg)), (0, .ref (a 6)), (1, .int p0), (2, .int p1), (3, .int p2), (4, .int p3), (5, .int p4), (6, .int p5), (7, .int p6), (8, .int (y_9 (a 42) p0.toNatClampNeg)), (9, .int i9)]) hx hb dX7_goOn_95 hl (by decide) rfl (fun ls hl => ?_)
                refine lv_aload_n hx hb dX7_goOn_97 rfl (lv_at hl 1 rfl) ?_
                refine tw_get (D := (dC, dI)) (v := .ref (a 1)) (C := RX7) (T := TX7) (N := 13) hx hb hts (fun _ hh => (List.mem_cons_of_mem _ (List.mem_append_right _ (List.mem_append_left _ hh)))) hown hK hT (fx_6 hX) (by decide) cl_e16 rfl 0 (by decide) (hts (.fieldLink RX7 27 "TypingPool$Planner" "book" "LTypingPool$Book;") (List.mem_cons_of_mem _ (List.mem_append_left _ (List.mem_of_getElem? (i := 13) rfl)))) (fun _ h9 => h9) rfl dX7_goOn_98 ?_
                refine tw_get (D := (dC, dI)) (v := .ref (a 11)) (C := RX1) (T := TX1) (N := 8) hx hb hts (fun _ hh => (List.mem_cons_of_mem _ (List.mem_append_right _ (List.mem_append_right _ (List.mem_append_right _ (List.mem_append_right _ (List.mem_append_left _ hh))))))) hown hK hT (fx_1 hX) (by decide) cl_e11 rfl 4 (by decide) (hts (.fieldLink RX7 115 "TypingPool$Book" "pieces" "[LTypingPool$Piece;") (List.mem_cons_of_mem _ (List.mem_append_left _ (List.mem_of_getElem? (i := 14) rfl)))) (fun _ h9 => h9) rfl dX7_goOn_101 ?_
                refine lv_iload hx hb dX7_goOn_104 (lv_at hl 0 rfl) ?_
                refine tw_aald hx hb hK hT 4 (fx_11 hX) (by decide) cl_e21 rfl (z_in rfl (by omega) (by omega)) dX7_goOn_106 ?_
                obtain ⟨q_21, hgq_21, htq_21⟩ := ic_l11 hI (x := (y_L62 (a 41) i9.toNatClampNeg)) rfl (by omega) (by omega)
                refine lq_topr hgq_21 ?_
                refine lv_astore (lv' := [(11, .ref q_21), (10, .int (y_L62 (a 41) i9.toNatClampNeg)), (0, .ref (a 6)), (1, .int p0), (2, .int p1), (3, .int p2), (4, .int p3), (5, .int p4), (6, .int p5), (7, .int p6), (8, .int (y_9 (a 42) p0.toNatClampNeg)), (9, .int i9)]) hx hb dX7_goOn_107 hl (by decide) rfl (fun ls hl => ?_)
                refine lv_aload hx hb dX7_goOn_109 (lv_at hl 0 rfl) ?_
                have hFc := tw_free hF hS hA
                refine va_calli (va_runV (As := []) (rest := []) ⟨hx, hb, hml, hown, hts⟩ (c_allWork l dC dI ad av H.size a k τ ln y_L62 g u q_21 hI htq_21) (cwV 0 hts (gi_4 (List.mem_cons_of_mem _ (List.mem_append_left _ (List.mem_of_getElem? (i := 15) rfl))) (List.mem_cons_of_mem _ (List.mem_append_left _ (List.mem_of_getElem? (i := 16) rfl))) (List.mem_cons_of_mem _ (List.mem_append_left _ (List.mem_of_getElem? (i := 17) rfl))) (List.mem_cons_of_mem _ (List.mem_append_left _ (List.mem_of_getElem? (i := 18) rfl))) (fun _ hh => (List.mem_cons_of_mem _ (List.mem_append_right _ (List.mem_append_right _ (List.mem_append_right _ (List.mem_append_right _ (List.mem_append_right _ (List.mem_append_left _ hh)))))))) gd_c_allWork) rfl rfl rfl (by decide +kernel) ⟨Nat.le_of_ble_eq_true rfl, Nat.le_of_ble_eq_true rfl⟩) ⟨pw_blind, tw_recv hK hT htq_21 (by decide) cl_e2 rfl, pw_use hT hK hFc hS hM⟩ rfl rfl hl.1 rfl (lv_room (Nat.le_of_ble_eq_true rfl)) dX7_goOn_111 ⟨Nat.le_of_ble_eq_true rfl, Nat.le_of_ble_eq_true rfl⟩) hS (fun q _ h => hFc q h) hFc (fun r0 r_22 t H locs ht hvm hw hB hz1 hk1 hS => ?_)
                refine W.widen (k := 0) (n := 0) (Nat.le_of_ble_eq_true rfl) (Nat.le_of_ble_eq_true rfl) ?_
                clear hvm hz1 hk1
                subst hw
                have hT := hB
                rw [ht] at hT
                refine lv_aload_n hx hb dX7_goOn_114 rfl (lv_at hl 2 rfl) ?_
                refine tw_get (D := (dC, dI)) (v := .ref (a 3)) (C := RX7) (T := TX7) (N := 13) hx hb hts (fun _ hh => (List.mem_cons_of_mem _ (List.mem_append_right _ (List.mem_append_left _ hh)))) hown hK hT (fx_6 hX) (by decide) cl_e16 rfl 1 (by decide) (hts (.fieldLink RX7 31 "TypingPool$Planner" "floor" "LTypingPool$Floor;") (List.mem_cons_of_mem _ (List.mem_append_left _ (List.mem_of_getElem? (i := 19) rfl)))) (fun _ h9 => h9) rfl dX7_goOn_115 ?_
                refine lv_iload hx hb dX7_goOn_118 (lv_at hl 10 rfl) ?_
                refine lv_iload hx hb dX7_goOn_120 (lv_at hl 1 rfl) ?_
                refine lv_iload hx hb dX7_goOn_122 (lv_at hl 6 rfl) ?_
                have hFc := tw_free hF hS hA
                refine va_calli (va_runV (As := [.int (y_9 (a 42) p0.toNatClampNeg), .int (y_L62 (a 41) i9.toNatClampNeg), .int p3]) (rest := [.int r_22]) ⟨hx, hb, hml, hown, hts⟩ (c_rateFor l dC dI ad av H.size a k τ ln y_L62 g u (y_9 (a 42) p0.toNatClampNeg) (y_L62 (a 41) i9.toNatClampNeg) p3 hI (by omega) (by omega) (by omega) (by omega)) (cwV 3 hts (gi_4 (List.mem_cons_of_mem _ (List.mem_append_left _ (List.mem_of_getElem? (i := 20) rfl))) (List.mem_cons_of_mem _ (List.mem_append_left _ (List.mem_of_getElem? (i := 21) rfl))) (List.mem_cons_of_mem _ (List.mem_append_left _ (List.mem_of_getElem? (i := 22) rfl))) (List.mem_cons_of_mem _ (List.mem_append_left _ (List.mem_of_getElem? (i := 23) rfl))) (fun _ hh => (List.mem_cons_of_mem _ (List.mem_append_right _ (List.mem_append_right _ (List.mem_append_right _ (List.mem_append_right _ (List.mem_append_right _ (List.mem_append_right _ (List.mem_append_left _ hh))))))))) gd_c_rateFor) rfl rfl rfl (by decide +kernel) ⟨Nat.le_of_ble_eq_true rfl, Nat.le_of_ble_eq_true rfl⟩) ⟨pw_blind, tw_recv hK hT (fx_3 hX) (by decide) cl_e13 rfl, pw_use hT hK hFc hS hM⟩ rfl rfl hl.1 rfl (lv_room (Nat.le_of_ble_eq_true rfl)) dX7_goOn_124 ⟨Nat.le_of_ble_eq_true rfl, Nat.le_of_ble_eq_true rfl⟩) hS (fun q _ h => hFc q h) hFc (fun r0 r_23 t H locs ht hvm hw hB hz1 hk1 hS => ?_)
                refine W.widen (k := 0) (n := 0) (Nat.le_of_ble_eq_true rfl) (Nat.le_of_ble_eq_true rfl) ?_
                clear hvm hz1 hk1
                subst hw
                have hT := hB
                rw [ht] at hT
                have hFc := tw_free hF hS hA
                refine va_calli (va_runSN (As := [.int r_22, .int r_23]) (rest := []) ⟨hx, hb, hml, hown, hts⟩ (c_minutesFor l dC dI ad av H.size a k τ ln y_L62 g u r_22 r_23  ) ⟨va_cnB 2 hts (gi_0  (fun _ hh => (List.mem_cons_of_mem _ (List.mem_append_right _ (List.mem_append_right _ (List.mem_append_right _ (List.mem_append_right _ (List.mem_append_right _ (List.mem_append_right _ (List.mem_append_right _ (List.mem_append_left _ hh)))))))))) gd_c_minutesFor) rfl rfl rfl hM.1.2.2.2.1 (hts (.initialized RX11) (List.mem_cons_of_mem _ (List.mem_append_left _ (List.mem_of_getElem? (i := 24) rfl)))) (by decide +kernel) ⟨Nat.le_of_ble_eq_true rfl, Nat.le_of_ble_eq_true rfl⟩, (hts (.static yX11_minutesFor) (List.mem_cons_of_mem _ (List.mem_append_left _ (List.mem_of_getElem? (i := 25) rfl)))), trivial⟩ ⟨pw_blind, pw_use hT hK hFc hS hM⟩ rfl rfl hl.1 rfl (lv_room (Nat.le_of_ble_eq_true rfl)) dX7_goOn_127 ⟨Nat.le_of_ble_eq_true rfl, Nat.le_of_ble_eq_true rfl⟩) hS (fun q _ h => hFc q h) hFc (fun r0 r_24 t H locs ht hvm hw hB hz1 hk1 hS => ?_)
                refine W.widen (k := 0) (n := 0) (Nat.le_of_ble_eq_true rfl) (Nat.le_of_ble_eq_true rfl) ?_
                clear hvm hz1 hk1
                subst hw
                have hT := hB
                rw [ht] at hT
                refine lv_istore (lv' := [(12, .int r_24), (11, .ref q_21), (10, .int (y_L62 (a 41) i9.toNatClampNeg)), (0, .ref (a 6)), (1, .int p0), (2, .int p1), (3, .int p2), (4, .int p3), (5, .int p4), (6, .int p5), (7, .int p6), (8, .int (y_9 (a 42) p0.toNatClampNeg)), (9, .int i9)]) hx hb dX7_goOn_130 hl (by decide) rfl (fun ls hl => ?_)
                refine lv_aload_n hx hb dX7_goOn_132 rfl (lv_at hl 3 rfl) ?_
                refine tw_get (D := (dC, dI)) (v := .ref (a 1)) (C := RX7) (T := TX7) (N := 13) hx hb hts (fun _ hh => (List.mem_cons_of_mem _ (List.mem_append_right _ (List.mem_append_left _ hh)))) hown hK hT (fx_6 hX) (by decide) cl_e16 rfl 0 (by decide) (hts (.fieldLink RX7 27 "TypingPool$Planner" "book" "LTypingPool$Book;") (List.mem_cons_of_mem _ (List.mem_append_left _ (List.mem_of_getElem? (i := 13) rfl)))) (fun _ h9 => h9) rfl dX7_goOn_133 ?_
                refine lv_iload hx hb dX7_goOn_136 (lv_at hl 11 rfl) ?_
                refine lv_iload_n hx hb dX7_goOn_138 rfl (lv_at hl 6 rfl) ?_
                refine lv_iload hx hb dX7_goOn_139 (lv_at hl 0 rfl) ?_
                have hFc := tw_free hF hS hA
                refine va_calli (va_runV (As := [.int (y_9 (a 42) p0.toNatClampNeg), .int p2, .int r_24]) (rest := []) ⟨hx, hb, hml, hown, hts⟩ (c_minuteAfterWork l dC dI ad av H.size a k τ ln y_L62 g u (y_9 (a 42) p0.toNatClampNeg) p2 r_24 hI ) (cwV 3 hts (gi_4 (List.mem_cons_of_mem _ (List.mem_append_left _ (List.mem_of_getElem? (i := 26) rfl))) (List.mem_cons_of_mem _ (List.mem_append_left _ (List.mem_of_getElem? (i := 27) rfl))) (List.mem_cons_of_mem _ (List.mem_append_left _ (List.mem_of_getElem? (i := 28) rfl))) (List.mem_cons_of_mem _ (List.mem_append_left _ (List.mem_of_getElem? (i := 29) rfl))) (fun _ hh => (List.mem_cons_of_mem _ (List.mem_append_right _ (List.mem_append_right _ (List.mem_append_right _ (List.mem_append_right _ (List.mem_append_right _ (List.mem_append_right _ (List.mem_append_right _ (List.mem_append_right _ (List.mem_append_left _ hh))))))))))) gd_c_minuteAfterWork) rfl rfl rfl (by decide +kernel) ⟨Nat.le_of_ble_eq_true rfl, Nat.le_of_ble_eq_true rfl⟩) ⟨pw_blind, tw_recv hK hT (fx_1 hX) (by decide) cl_e11 rfl, pw_use hT hK hFc hS hM⟩ rfl rfl hl.1 rfl (lv_room (Nat.le_of_ble_eq_true rfl)) dX7_goOn_141 ⟨Nat.le_of_ble_eq_true rfl, Nat.le_of_ble_eq_true rfl⟩) hS (fun q _ h => hFc q h) hFc (fun r0 r_25 t H locs ht hvm hw hB hz1 hk1 hS => ?_)
                refine W.widen (k := 0) (n := 0) (Nat.le_of_ble_eq_true rfl) (Nat.le_of_ble_eq_true rfl) ?_
                clear hvm hz1 hk1
                subst hw
                have hT := hB
                rw [ht] at hT
                refine lv_istore (lv' := [(13, .int r_25), (12, .int r_24), (11, .ref q_21), (10, .int (y_L62 (a 41) i9.toNatClampNeg)), (0, .ref (a 6)), (1, .int p0), (2, .int p1), (3, .int p2), (4, .int p3), (5, .int p4), (6, .int p5), (7, .int p6), (8, .int (y_9 (a 42) p0.toNatClampNeg)), (9, .int i9)]) hx hb dX7_goOn_144 hl (by decide) rfl (fun ls hl => ?_)
                refine lv_iconst (v := 0) hx hb dX7_goOn_146 (by decide) ?_
                refine lv_iload hx hb dX7_goOn_147 (lv_at hl 0 rfl) ?_
                refine lv_aload hx hb dX7_goOn_149 (lv_at hl 2 rfl) ?_
                refine tw_get (D := (dC, dI)) (v := .int (y_L62 q_21 6)) (C := RX6) (T := TX6) (N := 11) hx hb hts (fun _ hh => (List.mem_cons_of_mem _ (List.mem_append_right _ (List.mem_append_right _ (List.mem_append_right _ (List.mem_append_right _ (List.mem_append_right _ (List.mem_append_right _ (List.mem_append_right _ (List.mem_append_right _ (List.mem_append_right _ (List.mem_append_left _ hh)))))))))))) hown hK hT htq_21 (by decide) cl_e2 rfl 6 (by decide) (hts (.fieldLink RX7 136 "TypingPool$Piece" "due" "I") (List.mem_cons_of_mem _ (List.mem_append_left _ (List.mem_of_getElem? (i := 30) rfl)))) (fun _ h9 => h9) rfl dX7_goOn_151 ?_
                refine lv_isub hx hb dX7_goOn_154 ?_
                refine lv_topi (fun x_26 ex_26 => ?_)
                refine va_mmax hx hb (by rw [hml]; exact hl.1.symm) hown (hts (.methodLink RX7 139 Lib.Math.max.name) (List.mem_cons_of_mem _ (List.mem_append_left _ (List.mem_of_getElem? (i := 31) rfl)))) (hts (.static Lib.Math.max.name) (List.mem_cons_of_mem _ (List.mem_append_left _ (List.mem_of_getElem? (i := 32) rfl)))) (hts (.initialized "java/lang/Math") (List.mem_cons_of_mem _ (List.mem_append_left _ (List.mem_of_getElem? (i := 33) rfl)))) (hts (.code Lib.Math.max.name Lib.Math.max.code 2 (some .int)) (List.mem_cons_of_mem _ (List.mem_append_left _ (List.mem_of_getElem? (i := 34) rfl)))) (Nat.le_of_ble_eq_true rfl) (Nat.le_of_ble_eq_true rfl) (Nat.le_of_ble_eq_true rfl) (Nat.le_of_ble_eq_true rfl) dX7_goOn_155 ?_
                refine lv_topi (fun x_27 ex_27 => ?_)
                have hx_27 := z_max ex_27 (zk (x := 0) 0 rfl) rfl
                refine lv_istore (lv' := [(14, .int x_27), (13, .int r_25), (12, .int r_24), (11, .ref q_21), (10, .int (y_L62 (a 41) i9.toNatClampNeg)), (0, .ref (a 6)), (1, .int p0), (2, .int p1), (3, .int p2), (4, .int p3), (5, .int p4), (6, .int p5), (7, .int p6), (8, .int (y_9 (a 42) p0.toNatClampNeg)), (9, .int i9)]) hx hb dX7_goOn_158 hl (by decide) rfl (fun ls hl => ?_)
                refine lv_aload_n hx hb dX7_goOn_160 rfl (lv_at hl 5 rfl) ?_
                refine tw_get (D := (dC, dI)) (v := .ref (a 44)) (C := RX7) (T := TX7) (N := 13) hx hb hts (fun _ hh => (List.mem_cons_of_mem _ (List.mem_append_right _ (List.mem_append_left _ hh)))) hown hK hT (fx_6 hX) (by decide) cl_e16 rfl 7 (by decide) (hts (.fieldLink RX7 21 "TypingPool$Planner" "current" "[I") (List.mem_cons_of_mem _ (List.mem_append_left _ (List.mem_of_getElem? (i := 5) rfl)))) (fun _ h9 => h9) rfl dX7_goOn_161 ?_
                refine lv_iload hx hb dX7_goOn_164 (lv_at hl 12 rfl) ?_
                refine lv_iload hx hb dX7_goOn_166 (lv_at hl 4 rfl) ?_
                refine tw_iast hx hb hK hT hF hS 0 (fx_44 hX) (by decide) (fun _ => cl_e54) rfl (z_in rfl (by omega) (by omega)) dX7_goOn_168 (fun H locs hT hS => ?_)
                obtain ⟨y_28, hy_28, hT⟩ : ∃ z : Nat → Nat → Int32, z = up2 y_L62 (a 44) p6.toNatClampNeg (y_L62 (a 41) i9.toNatClampNeg) ∧ tw (dC, dI) a k τ ln z g H := ⟨_, rfl, hT⟩
                have hG : ag τ [16, 54, 55] y y_28 := by rw [hy_28]; exact hG.up (fx_44 hX) (by decide)
                have : (y_28 (a 6) 3).toInt = (y_L62 (a 6) 3).toInt := by rw [hy_28, up2_o (kd_ne (fx_6 hX) (fx_44 hX) (by decide))]
                have : (y_28 (a 6) 5).toInt = (y_L62 (a 6) 5).toInt := by rw [hy_28, up2_o (kd_ne (fx_6 hX) (fx_44 hX) (by decide))]
                have : (y_28 (a 6) 9).toInt = (y_L62 (a 6) 9).toInt := by rw [hy_28, up2_o (kd_ne (fx_6 hX) (fx_44 hX) (by decide))]
                have hI := hI.ag (S := [54]) (y' := y_28) (by rw [hy_28]; exact ag.one (fx_44 hX)) (by decide)
                refine lv_aload_n hx hb dX7_goOn_169 rfl (lv_at hl 5 rfl) ?_
                refine lv_iload_n hx hb dX7_goOn_170 rfl (lv_at hl 6 rfl) ?_
                refine lv_iload_n hx hb dX7_goOn_171 rfl (lv_at hl 7 rfl) ?_
                refine lv_iconst (v := 1) hx hb dX7_goOn_172 (by decide) ?_
                refine lv_iload hx hb dX7_goOn_173 (lv_at hl 14 rfl) ?_
                refine lv_ishl hx hb dX7_goOn_175 ?_
                refine lv_topi (fun x_29 ex_29 => ?_)
                refine lv_iconst (v := (-1)) hx hb dX7_goOn_176 (by decide) ?_
                refine lv_ixor hx hb dX7_goOn_177 ?_
                refine lv_topi (fun x_30 ex_30 => ?_)
                refine lv_iand hx hb dX7_goOn_178 ?_
                refine lv_topi (fun x_31 ex_31 => ?_)
                refine lv_iload hx hb dX7_goOn_179 (lv_at hl 1 rfl) ?_
                refine lv_iload hx hb dX7_goOn_181 (lv_at hl 9 rfl) ?_
                refine lv_aload hx hb dX7_goOn_183 (lv_at hl 3 rfl) ?_
                refine tw_get (D := (dC, dI)) (v := .int (y_28 q_21 7)) (C := RX6) (T := TX6) (N := 11) hx hb hts (fun _ hh => (List.mem_cons_of_mem _ (List.mem_append_right _ (List.mem_append_right _ (List.mem_append_right _ (List.mem_append_right _ (List.mem_append_right _ (List.mem_append_right _ (List.mem_append_right _ (List.mem_append_right _ (List.mem_append_right _ (List.mem_append_left _ hh)))))))))))) hown hK hT htq_21 (by decide) cl_e2 rfl 7 (by decide) (hts (.fieldLink RX7 118 "TypingPool$Piece" "words" "I") (List.mem_cons_of_mem _ (List.mem_append_left _ (List.mem_of_getElem? (i := 35) rfl)))) (fun _ h9 => h9) rfl dX7_goOn_185 ?_
                refine lv_ior hx hb dX7_goOn_188 ?_
                refine lv_topi (fun x_32 ex_32 => ?_)
                refine lv_iload hx hb dX7_goOn_189 (lv_at hl 10 rfl) ?_
                refine lv_iload hx hb dX7_goOn_191 (lv_at hl 0 rfl) ?_
                refine lv_if_le (tgt := 200) hx hb dX7_goOn_193 (by decide) (fun c_33 => ?_) (fun c_33 => ?_)
                · have nc_33 := z_le rfl (zk (x := 0) 0 rfl) c_33
                  refine lv_iconst (v := 0) hx hb dX7_goOn_200 (by decide) ?_
                  refine lv_iadd hx hb dX7_goOn_201 ?_
                  refine lv_topi (fun x_34 ex_34 => ?_)
                  refine lv_iload hx hb dX7_goOn_202 (lv_at hl 11 rfl) ?_
                  refine lv_iload hx hb dX7_goOn_204 (lv_at hl 0 rfl) ?_
                  refine lv_iadd hx hb dX7_goOn_206 ?_
                  refine lv_topi (fun x_35 ex_35 => ?_)
                  refine lv_iload hx hb dX7_goOn_207 (lv_at hl 12 rfl) ?_
                  refine lv_iconst (v := 1) hx hb dX7_goOn_209 (by decide) ?_
                  refine lv_iadd hx hb dX7_goOn_210 ?_
                  refine lv_topi (fun x_36 ex_36 => ?_)
                  have hx_36 := z_add ex_36 rfl (zk (x := 1) 1 rfl) (by omega) (by omega)
                  have hFc := tw_free hF hS hA
                  refine va_callv (va_runV (As := [.int p0, .int x_31, .int r_25, .int x_32, .int x_34, .int x_35, .int x_36]) (rest := []) ⟨hx, hb, hml, hown, hts⟩ (c_goOn3 l dC dI ad av H.size a k τ ln y_28 g u p0 x_31 r_25 x_32 x_34 x_35 x_36 nP nH hI (by omega) (by omega) gn (by rw [hG.at (fx_41 hX) (by decide)]; exact gp) (by rw [hG.at (fx_42 hX) (by decide)]; exact gh) (by omega) (by omega) (by omega)) (cwV 7 hts (gi_4 (List.mem_cons_of_mem _ (List.mem_append_left _ (List.mem_of_getElem? (i := 36) rfl))) (List.mem_cons_of_mem _ (List.mem_append_left _ (List.mem_of_getElem? (i := 37) rfl))) (List.mem_cons_of_mem _ (List.mem_append_left _ (List.mem_of_getElem? (i := 38) rfl))) (List.mem_cons_of_mem _ (List.mem_append_left _ (List.mem_of_getElem? (i := 4) rfl))) (fun _ hh => (List.mem_cons_of_mem _ (List.mem_append_right _ (List.mem_append_right _ (List.mem_append_right _ (List.mem_append_right _ (List.mem_append_right _ (List.mem_append_right _ (List.mem_append_right _ (List.mem_append_right _ (List.mem_append_right _ (List.mem_append_right _ (List.mem_append_left _ hh))))))))))))) gd_c_goOn3) rfl rfl rfl (by decide +kernel) ⟨Nat.le_of_ble_eq_true rfl, Nat.le_of_ble_eq_true rfl⟩) ⟨pw_blind, tw_recv hK hT (fx_6 hX) (by decide) cl_e16 rfl, pw_use hT hK hFc hS hM⟩ rfl rfl hl.1 rfl (lv_room (Nat.le_of_ble_eq_true rfl)) dX7_goOn_211 ⟨Nat.le_of_ble_eq_true rfl, Nat.le_of_ble_eq_true rfl⟩) hS (fun q _ h => hFc q h) hFc (fun u0 t H locs ht hvm hw hB hz1 hk1 hS => ?_)
                  refine W.widen (k := 0) (n := 0) (Nat.le_of_ble_eq_true rfl) (Nat.le_of_ble_eq_true rfl) ?_
                  clear hvm hz1 hk1
                  obtain ⟨y_38, hgy_38, hf_39, hf_40, hf_41, hT⟩ := hB
                  rw [ht] at hT
                  have hG := hG.tr hgy_38 (by decide)
                  have hI := hI.ag hgy_38 (by decide)
                  obtain ⟨x_42, ex_42⟩ : ∃ y : Int32, y = i9 + Int32.ofInt 1 := ⟨_, rfl⟩
                  have hx_42 := z_add ex_42 rfl (zk (x := Int32.ofInt 1) 1 rfl) (by omega) (by omega)
                  refine lv_iinc (v := x_42) (lv' := [(9, .int x_42), (14, .int x_27), (13, .int r_25), (12, .int r_24), (11, .ref q_21), (10, .int (y_L62 (a 41) i9.toNatClampNeg)), (0, .ref (a 6)), (1, .int p0), (2, .int p1), (3, .int p2), (4, .int p3), (5, .int p4), (6, .int p5), (7, .int p6), (8, .int (y_9 (a 42) p0.toNatClampNeg))]) hx hb dX7_goOn_214 hl (k := 14) rfl ex_42.symm (by decide) rfl (fun ls hl => ?_)
                  refine lv_goto (tgt := 62) hx hb dX7_goOn_217 (by decide) ?_
                  exact ih_62  x_42 y_38 H _ ls (by omega) hG hI (by omega) (by omega) (by omega) (by omega) (by omega) hT hS (lv_sub hl [6, 7, 8, 9, 10, 11, 12, 13, 14, 0] rfl)
                · have nc_33 := z_nle rfl (zk (x := 0) 0 rfl) c_33
                  refine lv_iconst (v := 1) hx hb dX7_goOn_196 (by decide) ?_
                  refine lv_goto (tgt := 201) hx hb dX7_goOn_197 (by decide) ?_
                  refine lv_iadd hx hb dX7_goOn_201 ?_
                  refine lv_topi (fun x_43 ex_43 => ?_)
                  refine lv_iload hx hb dX7_goOn_202 (lv_at hl 11 rfl) ?_
                  refine lv_iload hx hb dX7_goOn_204 (lv_at hl 0 rfl) ?_
                  refine lv_iadd hx hb dX7_goOn_206 ?_
                  refine lv_topi (fun x_44 ex_44 => ?_)
                  refine lv_iload hx hb dX7_goOn_207 (lv_at hl 12 rfl) ?_
                  refine lv_iconst (v := 1) hx hb dX7_goOn_209 (by decide) ?_
                  refine lv_iadd hx hb dX7_goOn_210 ?_
                  refine lv_topi (fun x_45 ex_45 => ?_)
                  have hx_45 := z_add ex_45 rfl (zk (x := 1) 1 rfl) (by omega) (by omega)
                  have hFc := tw_free hF hS hA
                  refine va_callv (va_runV (As := [.int p0, .int x_31, .int r_25, .int x_32, .int x_43, .int x_44, .int x_45]) (rest := []) ⟨hx, hb, hml, hown, hts⟩ (c_goOn3 l dC dI ad av H.size a k τ ln y_28 g u p0 x_31 r_25 x_32 x_43 x_44 x_45 nP nH hI (by omega) (by omega) gn (by rw [hG.at (fx_41 hX) (by decide)]; exact gp) (by rw [hG.at (fx_42 hX) (by decide)]; exact gh) (by omega) (by omega) (by omega)) (cwV 7 hts (gi_4 (List.mem_cons_of_mem _ (List.mem_append_left _ (List.mem_of_getElem? (i := 36) rfl))) (List.mem_cons_of_mem _ (List.mem_append_left _ (List.mem_of_getElem? (i := 37) rfl))) (List.mem_cons_of_mem _ (List.mem_append_left _ (List.mem_of_getElem? (i := 38) rfl))) (List.mem_cons_of_mem _ (List.mem_append_left _ (List.mem_of_getElem? (i := 4) rfl))) (fun _ hh => (List.mem_cons_of_mem _ (List.mem_append_right _ (List.mem_append_right _ (List.mem_append_right _ (List.mem_append_right _ (List.mem_append_right _ (List.mem_append_right _ (List.mem_append_right _ (List.mem_append_right _ (List.mem_append_right _ (List.mem_append_right _ (List.mem_append_left _ hh))))))))))))) gd_c_goOn3) rfl rfl rfl (by decide +kernel) ⟨Nat.le_of_ble_eq_true rfl, Nat.le_of_ble_eq_true rfl⟩) ⟨pw_blind, tw_recv hK hT (fx_6 hX) (by decide) cl_e16 rfl, pw_use hT hK hFc hS hM⟩ rfl rfl hl.1 rfl (lv_room (Nat.le_of_ble_eq_true rfl)) dX7_goOn_211 ⟨Nat.le_of_ble_eq_true rfl, Nat.le_of_ble_eq_true rfl⟩) hS (fun q _ h => hFc q h) hFc (fun u0 t H locs ht hvm hw hB hz1 hk1 hS => ?_)
                  refine W.widen (k := 0) (n := 0) (Nat.le_of_ble_eq_true rfl) (Nat.le_of_ble_eq_true rfl) ?_
                  clear hvm hz1 hk1
                  obtain ⟨y_47, hgy_47, hf_48, hf_49, hf_50, hT⟩ := hB
                  rw [ht] at hT
                  have hG := hG.tr hgy_47 (by decide)
                  have hI := hI.ag hgy_47 (by decide)
                  obtain ⟨x_51, ex_51⟩ : ∃ y : Int32, y = i9 + Int32.ofInt 1 := ⟨_, rfl⟩
                  have hx_51 := z_add ex_51 rfl (zk (x := Int32.ofInt 1) 1 rfl) (by omega) (by omega)
                  refine lv_iinc (v := x_51) (lv' := [(9, .int x_51), (14, .int x_27), (13, .int r_25), (12, .int r_24), (11, .ref q_21), (10, .int (y_L62 (a 41) i9.toNatClampNeg)), (0, .ref (a 6)), (1, .int p0), (2, .int p1), (3, .int p2), (4, .int p3), (5, .int p4), (6, .int p5), (7, .int p6), (8, .int (y_9 (a 42) p0.toNatClampNeg))]) hx hb dX7_goOn_214 hl (k := 14) rfl ex_51.symm (by decide) rfl (fun ls hl => ?_)
                  refine lv_goto (tgt := 62) hx hb dX7_goOn_217 (by decide) ?_
                  exact ih_62  x_51 y_47 H _ ls (by omega) hG hI (by omega) (by omega) (by omega) (by omega) (by omega) hT hS (lv_sub hl [6, 7, 8, 9, 10, 11, 12, 13, 14, 0] rfl)
        have hp_52 : (0 : Int32).toInt = 0 := (zk (x := 0) 0 rfl)
        exact loop_62 _ (0 : Int32) y_9 H _ ls (Nat.lt_succ_self _) hG hI (by omega) (by omega) (by omega) (by omega) (by omega) hT hS (lv_sub hl [2, 3, 4, 5, 6, 7, 8, 9, 1, 0] rfl)
      · refine lq_top (v := 0) hre ?_
        rw [ht] at hT
        refine lv_if_ne (tgt := 27) hx hb dX7_goOn_23 (by decide) (fun c_53 => absurd c_53 (by decide)) (fun c_53 => ?_)
        exact W.vret hx hb hr (fun t ht hW9 => ⟨⟨(), rfl, trivial, ⟨y, hG, by omega, by omega, by omega, tw_at ht hT⟩⟩, hS.F ht⟩) hS.2.2 dX7_goOn_26
def wo_c_beginHand2 : List Cond := [.fieldLink RX7 78 "TypingPool$Planner" "handCount" "I", .fieldLink RX7 15 "TypingPool$Planner" "hands" "[I", .fieldLink RX7 31 "TypingPool$Planner" "floor" "LTypingPool$Floor;", .fieldLink RX7 92 "TypingPool$Floor" "now" "I", .fieldLink RX7 95 "TypingPool$Floor" "words" "[I", .fieldLink RX7 98 "TypingPool$Floor" "has" "[I", .fieldLink RX7 27 "TypingPool$Planner" "book" "LTypingPool$Book;", .methodLink RX7 67 yX1_hasPiece, .instanceMethod yX1_hasPiece, .selects RX1 yX1_hasPiece yX1_hasPiece, .initialized RX1, .fieldLink RX7 101 "TypingPool$Floor" "workLeft" "[I", .fieldLink RX7 104 "TypingPool$Floor" "rate" "[I", .initialized RX11, .static yX11_minutesFor, .methodLink RX7 111 yX1_minuteAfterWork, .instanceMethod yX1_minuteAfterWork, .selects RX1 yX1_minuteAfterWork yX1_minuteAfterWork, .fieldLink RX7 115 "TypingPool$Book" "pieces" "[LTypingPool$Piece;", .fieldLink RX7 118 "TypingPool$Piece" "words" "I", .methodLink RX7 122 yX7_goOn, .instanceMethod yX7_goOn, .selects RX7 yX7_goOn yX7_goOn, .initialized RX7, .methodLink RX7 88 yX7_keep, .instanceMethod yX7_keep, .selects RX7 yX7_keep yX7_keep]
def wm_c_beginHand2 : List Cond := .code yX7_beginHand cX7_beginHand 11 none :: (wo_c_beginHand2 ++ (wsX70 ++ (wsX30 ++ (wm_c_hasPiece ++ (wm_c_minutesFor ++ (wm_c_minuteAfterWork ++ (wsX10 ++ (wsX60 ++ (wm_c_goOn2 ++ (wm_c_keep ++ ([] : List Cond)))))))))))
theorem gd_c_beginHand2 : ∀ w ∈ wm_c_beginHand2, goodWord w = true := gd_c rfl (gd_a (by decide) (gd_a gd_wsX70 (gd_a gd_wsX30 (gd_a gd_c_hasPiece (gd_a gd_c_minutesFor (gd_a gd_c_minuteAfterWork (gd_a gd_wsX10 (gd_a gd_wsX60 (gd_a gd_c_goOn2 (gd_a gd_c_keep gd_nil))))))))))
set_option maxRecDepth 20000 in
theorem im_c_beginHand2 : ∀ w ∈ wm_c_beginHand2, w ∈ lw_tbl := im_c (in_r [.code yX7_beginHand cX7_beginHand 11 none] [1042] (by decide +kernel)) (in_app (in_r wo_c_beginHand2 [520, 519, 516, 430, 438, 432, 515, 1027, 841, 842, 71, 450, 435, 70, 845, 1053, 1054, 1055, 128, 687, 1057, 1059, 24, 85, 1043, 1045, 22] (by decide +kernel)) (in_app im_wsX70 (in_app im_wsX30 (in_app im_c_hasPiece (in_app im_c_minutesFor (in_app im_c_minuteAfterWork (in_app im_wsX10 (in_app im_wsX60 (in_app im_c_goOn2 (in_app im_c_keep im_nil))))))))))
set_option maxHeartbeats 4000000 in
set_option maxRecDepth 100000 in
theorem c_beginHand2 (l : Launch) (dC : Nat → ClassId) (dI : Nat → Nat → Nat) (ad av : Nat → Nat) (sz : Nat) (a : Nat → Nat) (k : Nat → ClassId) (τ ln : Nat → Nat) (y : Nat → Nat → Int32) (g : Nat → Nat → Option Nat) (u : Nat → Int) (p0 : Int32) (p1 : Int32) (p2 : Int32) (p3 : Int32) (p4 : Int32) (nP : Int) (nH : Int) (hI : IC a u τ ln y g) (g3 : (y (a 6) 3).toInt = nP) (g5 : (y (a 6) 5).toInt = nH) (gn : (0 ≤ nP ∧ nP ≤ 5) ∧ 0 ≤ nH ∧ nH ≤ 3) (gp : vl nP (u 2) (y (a 41))) (gh : vl nH (u 1) (y (a 42))) (g9 : 0 ≤ (y (a 6) 9).toInt ∧ (y (a 6) 9).toInt ≤ 8) (hp0 : 0 ≤ p0.toInt) (hlen : p4.toInt = 2) : Met l yX7_beginHand wm_c_beginHand2 ({ frames := 15, cells := 0, slots := 0, locals := 900 }) (pw_ ad av (dC, dI) sz [.ref (a 6), .int p0, .int p1, .int p2, .int p3, .int p4] a k τ ln y g) (va_Qv (fun (_ : Unit) => True) (fun (_ : Unit) (t : State) => (∃ (y' : Nat → Nat → Int32), ag τ [16, 54, 55] y y' ∧ (y' (a 6) 3).toInt = (y (a 6) 3).toInt ∧ (y' (a 6) 5).toInt = (y (a 6) 5).toInt ∧ (0 ≤ (y' (a 6) 9).toInt ∧ (y' (a 6) 9).toInt ≤ 8) ∧ tw (dC, dI) a k τ ln y' g t.heap)) (fr τ sz)) 0 0 (fr τ sz) := by
  refine Met.ofW (cc := cX7_beginHand) (maxL := 11) (ret := none) (by decide) rfl ?_
  intro p e s m args below meth c s₁ B hml hv
  obtain ⟨rfl, hsz, hT, hK, hM⟩ := hv
  have hx := B.exec
  have hb := B.bytes
  have hr := B.returns
  have hts := atoms_spec (ws := wm_c_beginHand2) B.pre
  have hown : s.vm.findClass RX7 = some m.cls := findClass_of_methodNamed B.named
  have hlocks := B.notSynchronized
  subst hsz
  generalize hAe : fr τ s.heap.size = A at hM ⊢
  have hA : ∀ q : Nat, s.heap.size ≤ q → A q := fun q h => by rw [← hAe]; exact Or.inr h
  have hF : ∀ q, τ q ≠ 0 → A q := fun q h => by rw [← hAe]; exact Or.inl h
  have hS : va_S A s.heap s.heap [] := va_S.rf
  have hX := hI.1
  have hR := ic_r hI
  have hG : ag τ [16, 54, 55] y y := ag.rf
  have hl := lv_entry ([.ref (a 6), .int p0, .int p1, .int p2, .int p3, .int p4]) (n := 11) (Nat.le_of_ble_eq_true rfl)
  rw [lg_entry_eq]
  generalize (lg_sl ([.ref (a 6), .int p0, .int p1, .int p2, .int p3, .int p4]) ++ List.replicate (11 - (lg_sl ([.ref (a 6), .int p0, .int p1, .int p2, .int p3, .int p4])).length) Slot.unset).toArray = ls at hl ⊢
  have hl : lv_has ls 11 [(0, .ref (a 6)), (1, .int p0), (2, .int p1), (3, .int p2), (4, .int p3), (5, .int p4)] := hl
  refine lv_iload_n hx hb dX7_beginHand_0 rfl (lv_at hl 1 rfl) ?_
  refine lv_aload_n hx hb dX7_beginHand_1 rfl (lv_at hl 0 rfl) ?_
  refine tw_get (D := (dC, dI)) (v := .int (y (a 6) 5)) (C := RX7) (T := TX7) (N := 13) hx hb hts (fun _ hh => (List.mem_cons_of_mem _ (List.mem_append_right _ (List.mem_append_left _ hh)))) hown hK hT (fx_6 hX) (by decide) cl_e16 rfl 5 (by decide) (hts (.fieldLink RX7 78 "TypingPool$Planner" "handCount" "I") (List.mem_cons_of_mem _ (List.mem_append_left _ (List.mem_of_getElem? (i := 0) rfl)))) (fun _ h9 => h9) rfl dX7_beginHand_2 ?_
  refine lv_icmp_lt (tgt := 22) hx hb dX7_beginHand_5 (by decide) (fun c_1 => ?_) (fun c_1 => ?_)
  · have nc_1 := z_lt rfl rfl c_1
    refine lv_aload_n hx hb dX7_beginHand_22 rfl (lv_at hl 0 rfl) ?_
    refine tw_get (D := (dC, dI)) (v := .ref (a 42)) (C := RX7) (T := TX7) (N := 13) hx hb hts (fun _ hh => (List.mem_cons_of_mem _ (List.mem_append_right _ (List.mem_append_left _ hh)))) hown hK hT (fx_6 hX) (by decide) cl_e16 rfl 4 (by decide) (hts (.fieldLink RX7 15 "TypingPool$Planner" "hands" "[I") (List.mem_cons_of_mem _ (List.mem_append_left _ (List.mem_of_getElem? (i := 1) rfl)))) (fun _ h9 => h9) rfl dX7_beginHand_23 ?_
    refine lv_iload_n hx hb dX7_beginHand_26 rfl (lv_at hl 1 rfl) ?_
    refine tw_iald hx hb hK hT 0 (fx_42 hX) (by decide) cl_e52 rfl (z_in rfl (by omega) (by omega)) dX7_beginHand_27 ?_
    have hv0 : vl nH (u 1) (y (a 42)) := gh
    have hv_2 := vl_at hv0 (x := p0) rfl (by omega) (by omega)
    refine lv_istore (lv' := [(6, .int (y (a 42) p0.toNatClampNeg)), (0, .ref (a 6)), (1, .int p0), (2, .int p1), (3, .int p2), (4, .int p3), (5, .int p4)]) hx hb dX7_beginHand_28 hl (by decide) rfl (fun ls hl => ?_)
    refine lv_aload_n hx hb dX7_beginHand_30 rfl (lv_at hl 1 rfl) ?_
    refine tw_get (D := (dC, dI)) (v := .ref (a 3)) (C := RX7) (T := TX7) (N := 13) hx hb hts (fun _ hh => (List.mem_cons_of_mem _ (List.mem_append_right _ (List.mem_append_left _ hh)))) hown hK hT (fx_6 hX) (by decide) cl_e16 rfl 1 (by decide) (hts (.fieldLink RX7 31 "TypingPool$Planner" "floor" "LTypingPool$Floor;") (List.mem_cons_of_mem _ (List.mem_append_left _ (List.mem_of_getElem? (i := 2) rfl)))) (fun _ h9 => h9) rfl dX7_beginHand_31 ?_
    refine tw_get (D := (dC, dI)) (v := .int (y (a 3) 2)) (C := RX3) (T := TX3) (N := 12) hx hb hts (fun _ hh => (List.mem_cons_of_mem _ (List.mem_append_right _ (List.mem_append_right _ (List.mem_append_left _ hh))))) hown hK hT (fx_3 hX) (by decide) cl_e13 rfl 2 (by decide) (hts (.fieldLink RX7 92 "TypingPool$Floor" "now" "I") (List.mem_cons_of_mem _ (List.mem_append_left _ (List.mem_of_getElem? (i := 3) rfl)))) (fun _ h9 => h9) rfl dX7_beginHand_34 ?_
    refine lv_istore (lv' := [(7, .int (y (a 3) 2)), (6, .int (y (a 42) p0.toNatClampNeg)), (0, .ref (a 6)), (1, .int p0), (2, .int p1), (3, .int p2), (4, .int p3), (5, .int p4)]) hx hb dX7_beginHand_37 hl (by decide) rfl (fun ls hl => ?_)
    refine lv_aload_n hx hb dX7_beginHand_39 rfl (lv_at hl 2 rfl) ?_
    refine tw_get (D := (dC, dI)) (v := .ref (a 3)) (C := RX7) (T := TX7) (N := 13) hx hb hts (fun _ hh => (List.mem_cons_of_mem _ (List.mem_append_right _ (List.mem_append_left _ hh)))) hown hK hT (fx_6 hX) (by decide) cl_e16 rfl 1 (by decide) (hts (.fieldLink RX7 31 "TypingPool$Planner" "floor" "LTypingPool$Floor;") (List.mem_cons_of_mem _ (List.mem_append_left _ (List.mem_of_getElem? (i := 2) rfl)))) (fun _ h9 => h9) rfl dX7_beginHand_40 ?_
    refine tw_get (D := (dC, dI)) (v := .ref (a 22)) (C := RX3) (T := TX3) (N := 12) hx hb hts (fun _ hh => (List.mem_cons_of_mem _ (List.mem_append_right _ (List.mem_append_right _ (List.mem_append_left _ hh))))) hown hK hT (fx_3 hX) (by decide) cl_e13 rfl 5 (by decide) (hts (.fieldLink RX7 95 "TypingPool$Floor" "words" "[I") (List.mem_cons_of_mem _ (List.mem_append_left _ (List.mem_of_getElem? (i := 4) rfl)))) (fun _ h9 => h9) rfl dX7_beginHand_43 ?_
    refine lv_iload hx hb dX7_beginHand_46 (lv_at hl 1 rfl) ?_
    refine tw_iald hx hb hK hT 0 (fx_22 hX) (by decide) cl_e32 rfl (z_in rfl (by omega) (by omega)) dX7_beginHand_48 ?_
    refine lv_istore (lv' := [(8, .int (y (a 22) (y (a 42) p0.toNatClampNeg).toNatClampNeg)), (7, .int (y (a 3) 2)), (6, .int (y (a 42) p0.toNatClampNeg)), (0, .ref (a 6)), (1, .int p0), (2, .int p1), (3, .int p2), (4, .int p3), (5, .int p4)]) hx hb dX7_beginHand_49 hl (by decide) rfl (fun ls hl => ?_)
    refine lv_aload_n hx hb dX7_beginHand_51 rfl (lv_at hl 3 rfl) ?_
    refine tw_get (D := (dC, dI)) (v := .ref (a 3)) (C := RX7) (T := TX7) (N := 13) hx hb hts (fun _ hh => (List.mem_cons_of_mem _ (List.mem_append_right _ (List.mem_append_left _ hh)))) hown hK hT (fx_6 hX) (by decide) cl_e16 rfl 1 (by decide) (hts (.fieldLink RX7 31 "TypingPool$Planner" "floor" "LTypingPool$Floor;") (List.mem_cons_of_mem _ (List.mem_append_left _ (List.mem_of_getElem? (i := 2) rfl)))) (fun _ h9 => h9) rfl dX7_beginHand_52 ?_
    refine tw_get (D := (dC, dI)) (v := .ref (a 20)) (C := RX3) (T := TX3) (N := 12) hx hb hts (fun _ hh => (List.mem_cons_of_mem _ (List.mem_append_right _ (List.mem_append_right _ (List.mem_append_left _ hh))))) hown hK hT (fx_3 hX) (by decide) cl_e13 rfl 3 (by decide) (hts (.fieldLink RX7 98 "TypingPool$Floor" "has" "[I") (List.mem_cons_of_mem _ (List.mem_append_left _ (List.mem_of_getElem? (i := 5) rfl)))) (fun _ h9 => h9) rfl dX7_beginHand_55 ?_
    refine lv_iload hx hb dX7_beginHand_58 (lv_at hl 2 rfl) ?_
    refine tw_iald hx hb hK hT 0 (fx_20 hX) (by decide) cl_e30 rfl (z_in rfl (by omega) (by omega)) dX7_beginHand_60 ?_
    refine lv_istore (lv' := [(9, .int (y (a 20) (y (a 42) p0.toNatClampNeg).toNatClampNeg)), (8, .int (y (a 22) (y (a 42) p0.toNatClampNeg).toNatClampNeg)), (7, .int (y (a 3) 2)), (6, .int (y (a 42) p0.toNatClampNeg)), (0, .ref (a 6)), (1, .int p0), (2, .int p1), (3, .int p2), (4, .int p3), (5, .int p4)]) hx hb dX7_beginHand_61 hl (by decide) rfl (fun ls hl => ?_)
    refine lv_aload_n hx hb dX7_beginHand_63 rfl (lv_at hl 4 rfl) ?_
    refine tw_get (D := (dC, dI)) (v := .ref (a 1)) (C := RX7) (T := TX7) (N := 13) hx hb hts (fun _ hh => (List.mem_cons_of_mem _ (List.mem_append_right _ (List.mem_append_left _ hh)))) hown hK hT (fx_6 hX) (by decide) cl_e16 rfl 0 (by decide) (hts (.fieldLink RX7 27 "TypingPool$Planner" "book" "LTypingPool$Book;") (List.mem_cons_of_mem _ (List.mem_append_left _ (List.mem_of_getElem? (i := 6) rfl)))) (fun _ h9 => h9) rfl dX7_beginHand_64 ?_
    refine lv_iload hx hb dX7_beginHand_67 (lv_at hl 0 rfl) ?_
    have hFc := tw_free hF hS hA
    refine va_calli (va_runV (As := [.int (y (a 20) (y (a 42) p0.toNatClampNeg).toNatClampNeg)]) (rest := []) ⟨hx, hb, hml, hown, hts⟩ (c_hasPiece l dC dI ad av s.heap.size a k τ ln y g u (y (a 20) (y (a 42) p0.toNatClampNeg).toNatClampNeg) hI ) (cwV 1 hts (gi_4 (List.mem_cons_of_mem _ (List.mem_append_left _ (List.mem_of_getElem? (i := 7) rfl))) (List.mem_cons_of_mem _ (List.mem_append_left _ (List.mem_of_getElem? (i := 8) rfl))) (List.mem_cons_of_mem _ (List.mem_append_left _ (List.mem_of_getElem? (i := 9) rfl))) (List.mem_cons_of_mem _ (List.mem_append_left _ (List.mem_of_getElem? (i := 10) rfl))) (fun _ hh => (List.mem_cons_of_mem _ (List.mem_append_right _ (List.mem_append_right _ (List.mem_append_right _ (List.mem_append_left _ hh)))))) gd_c_hasPiece) rfl rfl rfl (by decide +kernel) ⟨Nat.le_of_ble_eq_true rfl, Nat.le_of_ble_eq_true rfl⟩) ⟨pw_blind, tw_recv hK hT (fx_1 hX) (by decide) cl_e11 rfl, pw_use hT hK hFc hS hM⟩ rfl rfl hl.1 rfl (lv_room (Nat.le_of_ble_eq_true rfl)) dX7_beginHand_69 ⟨Nat.le_of_ble_eq_true rfl, Nat.le_of_ble_eq_true rfl⟩) hS (fun q _ h => hFc q h) hFc (fun r0 r_3 t H locs ht hvm hw hB hz1 hk1 hS => ?_)
    refine W.widen (k := 0) (n := 0) (Nat.le_of_ble_eq_true rfl) (Nat.le_of_ble_eq_true rfl) ?_
    clear hvm hz1 hk1
    subst hw
    rcases hB with ⟨hre, hf_4, hf_5, hT⟩ | ⟨hre, hf_6, hT⟩
    · refine lq_top (v := 1) hre ?_
      rw [ht] at hT
      refine lv_if_eq (tgt := 133) hx hb dX7_beginHand_72 (by decide) (fun c_7 => absurd c_7 (by decide)) (fun c_7 => ?_)
      refine lv_aload_n hx hb dX7_beginHand_75 rfl (lv_at hl 4 rfl) ?_
      refine tw_get (D := (dC, dI)) (v := .ref (a 3)) (C := RX7) (T := TX7) (N := 13) hx hb hts (fun _ hh => (List.mem_cons_of_mem _ (List.mem_append_right _ (List.mem_append_left _ hh)))) hown hK hT (fx_6 hX) (by decide) cl_e16 rfl 1 (by decide) (hts (.fieldLink RX7 31 "TypingPool$Planner" "floor" "LTypingPool$Floor;") (List.mem_cons_of_mem _ (List.mem_append_left _ (List.mem_of_getElem? (i := 2) rfl)))) (fun _ h9 => h9) rfl dX7_beginHand_76 ?_
      refine tw_get (D := (dC, dI)) (v := .ref (a 27)) (C := RX3) (T := TX3) (N := 12) hx hb hts (fun _ hh => (List.mem_cons_of_mem _ (List.mem_append_right _ (List.mem_append_right _ (List.mem_append_left _ hh))))) hown hK hT (fx_3 hX) (by decide) cl_e13 rfl 10 (by decide) (hts (.fieldLink RX7 101 "TypingPool$Floor" "workLeft" "[I") (List.mem_cons_of_mem _ (List.mem_append_left _ (List.mem_of_getElem? (i := 11) rfl)))) (fun _ h9 => h9) rfl dX7_beginHand_79 ?_
      refine lv_iload hx hb dX7_beginHand_82 (lv_at hl 0 rfl) ?_
      refine tw_iald hx hb hK hT 0 (fx_27 hX) (by decide) cl_e37 rfl (z_in rfl (by omega) (by omega)) dX7_beginHand_84 ?_
      refine lv_aload_n hx hb dX7_beginHand_85 rfl (lv_at hl 4 rfl) ?_
      refine tw_get (D := (dC, dI)) (v := .ref (a 3)) (C := RX7) (T := TX7) (N := 13) hx hb hts (fun _ hh => (List.mem_cons_of_mem _ (List.mem_append_right _ (List.mem_append_left _ hh)))) hown hK hT (fx_6 hX) (by decide) cl_e16 rfl 1 (by decide) (hts (.fieldLink RX7 31 "TypingPool$Planner" "floor" "LTypingPool$Floor;") (List.mem_cons_of_mem _ (List.mem_append_left _ (List.mem_of_getElem? (i := 2) rfl)))) (fun _ h9 => h9) rfl dX7_beginHand_86 ?_
      refine tw_get (D := (dC, dI)) (v := .ref (a 21)) (C := RX3) (T := TX3) (N := 12) hx hb hts (fun _ hh => (List.mem_cons_of_mem _ (List.mem_append_right _ (List.mem_append_right _ (List.mem_append_left _ hh))))) hown hK hT (fx_3 hX) (by decide) cl_e13 rfl 4 (by decide) (hts (.fieldLink RX7 104 "TypingPool$Floor" "rate" "[I") (List.mem_cons_of_mem _ (List.mem_append_left _ (List.mem_of_getElem? (i := 12) rfl)))) (fun _ h9 => h9) rfl dX7_beginHand_89 ?_
      refine lv_iload hx hb dX7_beginHand_92 (lv_at hl 3 rfl) ?_
      refine tw_iald hx hb hK hT 0 (fx_21 hX) (by decide) cl_e31 rfl (z_in rfl (by omega) (by omega)) dX7_beginHand_94 ?_
      have hFc := tw_free hF hS hA
      refine va_calli (va_runSN (As := [.int (y (a 27) (y (a 20) (y (a 42) p0.toNatClampNeg).toNatClampNeg).toNatClampNeg), .int (y (a 21) (y (a 42) p0.toNatClampNeg).toNatClampNeg)]) (rest := []) ⟨hx, hb, hml, hown, hts⟩ (c_minutesFor l dC dI ad av H.size a k τ ln y g u (y (a 27) (y (a 20) (y (a 42) p0.toNatClampNeg).toNatClampNeg).toNatClampNeg) (y (a 21) (y (a 42) p0.toNatClampNeg).toNatClampNeg)  ) ⟨va_cnB 2 hts (gi_0  (fun _ hh => (List.mem_cons_of_mem _ (List.mem_append_right _ (List.mem_append_right _ (List.mem_append_right _ (List.mem_append_right _ (List.mem_append_left _ hh))))))) gd_c_minutesFor) rfl rfl rfl hM.1.2.2.2.1 (hts (.initialized RX11) (List.mem_cons_of_mem _ (List.mem_append_left _ (List.mem_of_getElem? (i := 13) rfl)))) (by decide +kernel) ⟨Nat.le_of_ble_eq_true rfl, Nat.le_of_ble_eq_true rfl⟩, (hts (.static yX11_minutesFor) (List.mem_cons_of_mem _ (List.mem_append_left _ (List.mem_of_getElem? (i := 14) rfl)))), trivial⟩ ⟨pw_blind, pw_use hT hK hFc hS hM⟩ rfl rfl hl.1 rfl (lv_room (Nat.le_of_ble_eq_true rfl)) dX7_beginHand_95 ⟨Nat.le_of_ble_eq_true rfl, Nat.le_of_ble_eq_true rfl⟩) hS (fun q _ h => hFc q h) hFc (fun r0 r_8 t H locs ht hvm hw hB hz1 hk1 hS => ?_)
      refine W.widen (k := 0) (n := 0) (Nat.le_of_ble_eq_true rfl) (Nat.le_of_ble_eq_true rfl) ?_
      clear hvm hz1 hk1
      subst hw
      have hT := hB
      rw [ht] at hT
      refine lv_istore (lv' := [(10, .int r_8), (9, .int (y (a 20) (y (a 42) p0.toNatClampNeg).toNatClampNeg)), (8, .int (y (a 22) (y (a 42) p0.toNatClampNeg).toNatClampNeg)), (7, .int (y (a 3) 2)), (6, .int (y (a 42) p0.toNatClampNeg)), (0, .ref (a 6)), (1, .int p0), (2, .int p1), (3, .int p2), (4, .int p3), (5, .int p4)]) hx hb dX7_beginHand_98 hl (by decide) rfl (fun ls hl => ?_)
      refine lv_aload_n hx hb dX7_beginHand_100 rfl (lv_at hl 5 rfl) ?_
      refine tw_get (D := (dC, dI)) (v := .ref (a 1)) (C := RX7) (T := TX7) (N := 13) hx hb hts (fun _ hh => (List.mem_cons_of_mem _ (List.mem_append_right _ (List.mem_append_left _ hh)))) hown hK hT (fx_6 hX) (by decide) cl_e16 rfl 0 (by decide) (hts (.fieldLink RX7 27 "TypingPool$Planner" "book" "LTypingPool$Book;") (List.mem_cons_of_mem _ (List.mem_append_left _ (List.mem_of_getElem? (i := 6) rfl)))) (fun _ h9 => h9) rfl dX7_beginHand_101 ?_
      refine lv_iload hx hb dX7_beginHand_104 (lv_at hl 4 rfl) ?_
      refine lv_iload hx hb dX7_beginHand_106 (lv_at hl 3 rfl) ?_
      refine lv_iload hx hb dX7_beginHand_108 (lv_at hl 0 rfl) ?_
      have hFc := tw_free hF hS hA
      refine va_calli (va_runV (As := [.int (y (a 42) p0.toNatClampNeg), .int (y (a 3) 2), .int r_8]) (rest := []) ⟨hx, hb, hml, hown, hts⟩ (c_minuteAfterWork l dC dI ad av H.size a k τ ln y g u (y (a 42) p0.toNatClampNeg) (y (a 3) 2) r_8 hI ) (cwV 3 hts (gi_4 (List.mem_cons_of_mem _ (List.mem_append_left _ (List.mem_of_getElem? (i := 15) rfl))) (List.mem_cons_of_mem _ (List.mem_append_left _ (List.mem_of_getElem? (i := 16) rfl))) (List.mem_cons_of_mem _ (List.mem_append_left _ (List.mem_of_getElem? (i := 17) rfl))) (List.mem_cons_of_mem _ (List.mem_append_left _ (List.mem_of_getElem? (i := 10) rfl))) (fun _ hh => (List.mem_cons_of_mem _ (List.mem_append_right _ (List.mem_append_right _ (List.mem_append_right _ (List.mem_append_right _ (List.mem_append_right _ (List.mem_append_left _ hh)))))))) gd_c_minuteAfterWork) rfl rfl rfl (by decide +kernel) ⟨Nat.le_of_ble_eq_true rfl, Nat.le_of_ble_eq_true rfl⟩) ⟨pw_blind, tw_recv hK hT (fx_1 hX) (by decide) cl_e11 rfl, pw_use hT hK hFc hS hM⟩ rfl rfl hl.1 rfl (lv_room (Nat.le_of_ble_eq_true rfl)) dX7_beginHand_110 ⟨Nat.le_of_ble_eq_true rfl, Nat.le_of_ble_eq_true rfl⟩) hS (fun q _ h => hFc q h) hFc (fun r0 r_9 t H locs ht hvm hw hB hz1 hk1 hS => ?_)
      refine W.widen (k := 0) (n := 0) (Nat.le_of_ble_eq_true rfl) (Nat.le_of_ble_eq_true rfl) ?_
      clear hvm hz1 hk1
      subst hw
      have hT := hB
      rw [ht] at hT
      refine lv_istore (lv' := [(7, .int r_9), (10, .int r_8), (9, .int (y (a 20) (y (a 42) p0.toNatClampNeg).toNatClampNeg)), (8, .int (y (a 22) (y (a 42) p0.toNatClampNeg).toNatClampNeg)), (6, .int (y (a 42) p0.toNatClampNeg)), (0, .ref (a 6)), (1, .int p0), (2, .int p1), (3, .int p2), (4, .int p3), (5, .int p4)]) hx hb dX7_beginHand_113 hl (by decide) rfl (fun ls hl => ?_)
      refine lv_iload hx hb dX7_beginHand_115 (lv_at hl 3 rfl) ?_
      refine lv_aload_n hx hb dX7_beginHand_117 rfl (lv_at hl 5 rfl) ?_
      refine tw_get (D := (dC, dI)) (v := .ref (a 1)) (C := RX7) (T := TX7) (N := 13) hx hb hts (fun _ hh => (List.mem_cons_of_mem _ (List.mem_append_right _ (List.mem_append_left _ hh)))) hown hK hT (fx_6 hX) (by decide) cl_e16 rfl 0 (by decide) (hts (.fieldLink RX7 27 "TypingPool$Planner" "book" "LTypingPool$Book;") (List.mem_cons_of_mem _ (List.mem_append_left _ (List.mem_of_getElem? (i := 6) rfl)))) (fun _ h9 => h9) rfl dX7_beginHand_118 ?_
      refine tw_get (D := (dC, dI)) (v := .ref (a 11)) (C := RX1) (T := TX1) (N := 8) hx hb hts (fun _ hh => (List.mem_cons_of_mem _ (List.mem_append_right _ (List.mem_append_right _ (List.mem_append_right _ (List.mem_append_right _ (List.mem_append_right _ (List.mem_append_right _ (List.mem_append_left _ hh))))))))) hown hK hT (fx_1 hX) (by decide) cl_e11 rfl 4 (by decide) (hts (.fieldLink RX7 115 "TypingPool$Book" "pieces" "[LTypingPool$Piece;") (List.mem_cons_of_mem _ (List.mem_append_left _ (List.mem_of_getElem? (i := 18) rfl)))) (fun _ h9 => h9) rfl dX7_beginHand_121 ?_
      refine lv_iload hx hb dX7_beginHand_124 (lv_at hl 2 rfl) ?_
      refine tw_aald hx hb hK hT 4 (fx_11 hX) (by decide) cl_e21 rfl (z_in rfl (by omega) (by omega)) dX7_beginHand_126 ?_
      obtain ⟨q_10, hgq_10, htq_10⟩ := ic_l11 hI (x := (y (a 20) (y (a 42) p0.toNatClampNeg).toNatClampNeg)) rfl (by omega) (by omega)
      refine lq_topr hgq_10 ?_
      refine tw_get (D := (dC, dI)) (v := .int (y q_10 7)) (C := RX6) (T := TX6) (N := 11) hx hb hts (fun _ hh => (List.mem_cons_of_mem _ (List.mem_append_right _ (List.mem_append_right _ (List.mem_append_right _ (List.mem_append_right _ (List.mem_append_right _ (List.mem_append_right _ (List.mem_append_right _ (List.mem_append_left _ hh)))))))))) hown hK hT htq_10 (by decide) cl_e2 rfl 7 (by decide) (hts (.fieldLink RX7 118 "TypingPool$Piece" "words" "I") (List.mem_cons_of_mem _ (List.mem_append_left _ (List.mem_of_getElem? (i := 19) rfl)))) (fun _ h9 => h9) rfl dX7_beginHand_127 ?_
      refine lv_ior hx hb dX7_beginHand_130 ?_
      refine lv_topi (fun x_11 ex_11 => ?_)
      refine lv_istore (lv' := [(8, .int x_11), (7, .int r_9), (10, .int r_8), (9, .int (y (a 20) (y (a 42) p0.toNatClampNeg).toNatClampNeg)), (6, .int (y (a 42) p0.toNatClampNeg)), (0, .ref (a 6)), (1, .int p0), (2, .int p1), (3, .int p2), (4, .int p3), (5, .int p4)]) hx hb dX7_beginHand_131 hl (by decide) rfl (fun ls hl => ?_)
      refine lv_aload_n hx hb dX7_beginHand_133 rfl (lv_at hl 5 rfl) ?_
      refine lv_iload_n hx hb dX7_beginHand_134 rfl (lv_at hl 6 rfl) ?_
      refine lv_iload_n hx hb dX7_beginHand_135 rfl (lv_at hl 7 rfl) ?_
      refine lv_iload hx hb dX7_beginHand_136 (lv_at hl 1 rfl) ?_
      refine lv_iload hx hb dX7_beginHand_138 (lv_at hl 0 rfl) ?_
      refine lv_iload_n hx hb dX7_beginHand_140 rfl (lv_at hl 8 rfl) ?_
      refine lv_iload hx hb dX7_beginHand_141 (lv_at hl 9 rfl) ?_
      refine lv_iload hx hb dX7_beginHand_143 (lv_at hl 10 rfl) ?_
      have hFc := tw_free hF hS hA
      refine va_callv (va_runV (As := [.int p0, .int p1, .int r_9, .int x_11, .int p2, .int p3, .int p4]) (rest := []) ⟨hx, hb, hml, hown, hts⟩ (c_goOn2 l dC dI ad av H.size a k τ ln y g u p0 p1 r_9 x_11 p2 p3 p4 nP nH hI (by omega) (by omega) gn gp gh (by omega) (by omega) (by omega)) (cwV 7 hts (gi_4 (List.mem_cons_of_mem _ (List.mem_append_left _ (List.mem_of_getElem? (i := 20) rfl))) (List.mem_cons_of_mem _ (List.mem_append_left _ (List.mem_of_getElem? (i := 21) rfl))) (List.mem_cons_of_mem _ (List.mem_append_left _ (List.mem_of_getElem? (i := 22) rfl))) (List.mem_cons_of_mem _ (List.mem_append_left _ (List.mem_of_getElem? (i := 23) rfl))) (fun _ hh => (List.mem_cons_of_mem _ (List.mem_append_right _ (List.mem_append_right _ (List.mem_append_right _ (List.mem_append_right _ (List.mem_append_right _ (List.mem_append_right _ (List.mem_append_right _ (List.mem_append_right _ (List.mem_append_left _ hh))))))))))) gd_c_goOn2) rfl rfl rfl (by decide +kernel) ⟨Nat.le_of_ble_eq_true rfl, Nat.le_of_ble_eq_true rfl⟩) ⟨pw_blind, tw_recv hK hT (fx_6 hX) (by decide) cl_e16 rfl, pw_use hT hK hFc hS hM⟩ rfl rfl hl.1 rfl (lv_room (Nat.le_of_ble_eq_true rfl)) dX7_beginHand_145 ⟨Nat.le_of_ble_eq_true rfl, Nat.le_of_ble_eq_true rfl⟩) hS (fun q _ h => hFc q h) hFc (fun u0 t H locs ht hvm hw hB hz1 hk1 hS => ?_)
      refine W.widen (k := 0) (n := 0) (Nat.le_of_ble_eq_true rfl) (Nat.le_of_ble_eq_true rfl) ?_
      clear hvm hz1 hk1
      obtain ⟨y_13, hgy_13, hf_14, hf_15, hf_16, hT⟩ := hB
      rw [ht] at hT
      have hG := hG.tr hgy_13 (by decide)
      have hI := hI.ag hgy_13 (by decide)
      exact W.vret hx hb hr (fun t ht hW9 => ⟨⟨(), rfl, trivial, ⟨y_13, hG, by omega, by omega, by omega, tw_at ht hT⟩⟩, hS.F ht⟩) hS.2.2 dX7_beginHand_148
    · refine lq_top (v := 0) hre ?_
      rw [ht] at hT
      refine lv_if_eq (tgt := 133) hx hb dX7_beginHand_72 (by decide) (fun c_17 => ?_) (fun c_17 => absurd c_17 (by decide))
      refine lv_aload_n hx hb dX7_beginHand_133 rfl (lv_at hl 4 rfl) ?_
      refine lv_iload_n hx hb dX7_beginHand_134 rfl (lv_at hl 5 rfl) ?_
      refine lv_iload_n hx hb dX7_beginHand_135 rfl (lv_at hl 6 rfl) ?_
      refine lv_iload hx hb dX7_beginHand_136 (lv_at hl 2 rfl) ?_
      refine lv_iload hx hb dX7_beginHand_138 (lv_at hl 1 rfl) ?_
      refine lv_iload_n hx hb dX7_beginHand_140 rfl (lv_at hl 7 rfl) ?_
      refine lv_iload hx hb dX7_beginHand_141 (lv_at hl 8 rfl) ?_
      refine lv_iload hx hb dX7_beginHand_143 (lv_at hl 9 rfl) ?_
      have hFc := tw_free hF hS hA
      refine va_callv (va_runV (As := [.int p0, .int p1, .int (y (a 3) 2), .int (y (a 22) (y (a 42) p0.toNatClampNeg).toNatClampNeg), .int p2, .int p3, .int p4]) (rest := []) ⟨hx, hb, hml, hown, hts⟩ (c_goOn2 l dC dI ad av H.size a k τ ln y g u p0 p1 (y (a 3) 2) (y (a 22) (y (a 42) p0.toNatClampNeg).toNatClampNeg) p2 p3 p4 nP nH hI (by omega) (by omega) gn gp gh (by omega) (by omega) (by omega)) (cwV 7 hts (gi_4 (List.mem_cons_of_mem _ (List.mem_append_left _ (List.mem_of_getElem? (i := 20) rfl))) (List.mem_cons_of_mem _ (List.mem_append_left _ (List.mem_of_getElem? (i := 21) rfl))) (List.mem_cons_of_mem _ (List.mem_append_left _ (List.mem_of_getElem? (i := 22) rfl))) (List.mem_cons_of_mem _ (List.mem_append_left _ (List.mem_of_getElem? (i := 23) rfl))) (fun _ hh => (List.mem_cons_of_mem _ (List.mem_append_right _ (List.mem_append_right _ (List.mem_append_right _ (List.mem_append_right _ (List.mem_append_right _ (List.mem_append_right _ (List.mem_append_right _ (List.mem_append_right _ (List.mem_append_left _ hh))))))))))) gd_c_goOn2) rfl rfl rfl (by decide +kernel) ⟨Nat.le_of_ble_eq_true rfl, Nat.le_of_ble_eq_true rfl⟩) ⟨pw_blind, tw_recv hK hT (fx_6 hX) (by decide) cl_e16 rfl, pw_use hT hK hFc hS hM⟩ rfl rfl hl.1 rfl (lv_room (Nat.le_of_ble_eq_true rfl)) dX7_beginHand_145 ⟨Nat.le_of_ble_eq_true rfl, Nat.le_of_ble_eq_true rfl⟩) hS (fun q _ h => hFc q h) hFc (fun u0 t H locs ht hvm hw hB hz1 hk1 hS => ?_)
      refine W.widen (k := 0) (n := 0) (Nat.le_of_ble_eq_true rfl) (Nat.le_of_ble_eq_true rfl) ?_
      clear hvm hz1 hk1
      obtain ⟨y_19, hgy_19, hf_20, hf_21, hf_22, hT⟩ := hB
      rw [ht] at hT
      have hG := hG.tr hgy_19 (by decide)
      have hI := hI.ag hgy_19 (by decide)
      exact W.vret hx hb hr (fun t ht hW9 => ⟨⟨(), rfl, trivial, ⟨y_19, hG, by omega, by omega, by omega, tw_at ht hT⟩⟩, hS.F ht⟩) hS.2.2 dX7_beginHand_148
  · have nc_1 := z_nlt rfl rfl c_1
    refine lv_iload_n hx hb dX7_beginHand_8 rfl (lv_at hl 2 rfl) ?_
    refine lv_if_ne (tgt := 21) hx hb dX7_beginHand_9 (by decide) (fun c_23 => ?_) (fun c_23 => ?_)
    · have nc_23 := z_ne rfl (zk (x := 0) 0 rfl) c_23
      exact W.vret hx hb hr (fun t ht hW9 => ⟨⟨(), rfl, trivial, ⟨y, hG, by omega, by omega, by omega, tw_at ht hT⟩⟩, hS.F ht⟩) hS.2.2 dX7_beginHand_21
    · have nc_23 := z_eq rfl (zk (x := 0) 0 rfl) c_23
      refine lv_aload_n hx hb dX7_beginHand_12 rfl (lv_at hl 0 rfl) ?_
      refine lv_iload_n hx hb dX7_beginHand_13 rfl (lv_at hl 3 rfl) ?_
      refine lv_iload hx hb dX7_beginHand_14 (lv_at hl 4 rfl) ?_
      refine lv_iload hx hb dX7_beginHand_16 (lv_at hl 5 rfl) ?_
      have hFc := tw_free hF hS hA
      refine va_callv (va_runV (As := [.int p2, .int p3, .int p4]) (rest := []) ⟨hx, hb, hml, hown, hts⟩ (c_keep l dC dI ad av s.heap.size a k τ ln y g u p2 p3 p4 hI (by omega) (by omega) (by omega)) (cwV 3 hts (gi_4 (List.mem_cons_of_mem _ (List.mem_append_left _ (List.mem_of_getElem? (i := 24) rfl))) (List.mem_cons_of_mem _ (List.mem_append_left _ (List.mem_of_getElem? (i := 25) rfl))) (List.mem_cons_of_mem _ (List.mem_append_left _ (List.mem_of_getElem? (i := 26) rfl))) (List.mem_cons_of_mem _ (List.mem_append_left _ (List.mem_of_getElem? (i := 23) rfl))) (fun _ hh => (List.mem_cons_of_mem _ (List.mem_append_right _ (List.mem_append_right _ (List.mem_append_right _ (List.mem_append_right _ (List.mem_append_right _ (List.mem_append_right _ (List.mem_append_right _ (List.mem_append_right _ (List.mem_append_right _ (List.mem_append_left _ hh)))))))))))) gd_c_keep) rfl rfl rfl (by decide +kernel) ⟨Nat.le_of_ble_eq_true rfl, Nat.le_of_ble_eq_true rfl⟩) ⟨pw_blind, tw_recv hK hT (fx_6 hX) (by decide) cl_e16 rfl, pw_use hT hK hFc hS hM⟩ rfl rfl hl.1 rfl (lv_room (Nat.le_of_ble_eq_true rfl)) dX7_beginHand_18 ⟨Nat.le_of_ble_eq_true rfl, Nat.le_of_ble_eq_true rfl⟩) hS (fun q _ h => hFc q h) hFc (fun u0 t H locs ht hvm hw hB hz1 hk1 hS => ?_)
      refine W.widen (k := 0) (n := 0) (Nat.le_of_ble_eq_true rfl) (Nat.le_of_ble_eq_true rfl) ?_
      clear hvm hz1 hk1
      obtain ⟨y_25, hgy_25, hf_26, hf_27, hf_28, hT⟩ := hB
      rw [ht] at hT
      have hG := hG.tr hgy_25 (by decide)
      have hI := hI.ag hgy_25 (by decide)
      exact W.vret hx hb hr (fun t ht hW9 => ⟨⟨(), rfl, trivial, ⟨y_25, hG, by omega, by omega, by omega, tw_at ht hT⟩⟩, hS.F ht⟩) hS.2.2 dX7_beginHand_21
def wo_c_goOn1 : List Cond := [.fieldLink RX7 78 "TypingPool$Planner" "handCount" "I", .methodLink RX7 126 yX7_isBetter, .instanceMethod yX7_isBetter, .selects RX7 yX7_isBetter yX7_isBetter, .initialized RX7, .fieldLink RX7 21 "TypingPool$Planner" "current" "[I", .methodLink RX7 63 yX7_beginHand, .instanceMethod yX7_beginHand, .selects RX7 yX7_beginHand yX7_beginHand, .fieldLink RX7 15 "TypingPool$Planner" "hands" "[I", .fieldLink RX7 42 "TypingPool$Planner" "pieceCount" "I", .fieldLink RX7 18 "TypingPool$Planner" "allowed" "[I", .fieldLink RX7 9 "TypingPool$Planner" "pieces" "[I", .fieldLink RX7 27 "TypingPool$Planner" "book" "LTypingPool$Book;", .fieldLink RX7 115 "TypingPool$Book" "pieces" "[LTypingPool$Piece;", .methodLink RX7 130 yX6_allWork, .instanceMethod yX6_allWork, .selects RX6 yX6_allWork yX6_allWork, .initialized RX6, .fieldLink RX7 31 "TypingPool$Planner" "floor" "LTypingPool$Floor;", .methodLink RX7 133 yX3_rateFor, .instanceMethod yX3_rateFor, .selects RX3 yX3_rateFor yX3_rateFor, .initialized RX3, .initialized RX11, .static yX11_minutesFor, .methodLink RX7 111 yX1_minuteAfterWork, .instanceMethod yX1_minuteAfterWork, .selects RX1 yX1_minuteAfterWork yX1_minuteAfterWork, .initialized RX1, .fieldLink RX7 136 "TypingPool$Piece" "due" "I", .methodLink RX7 139 Lib.Math.max.name, .static Lib.Math.max.name, .initialized "java/lang/Math", .code Lib.Math.max.name Lib.Math.max.code 2 (some .int), .fieldLink RX7 118 "TypingPool$Piece" "words" "I", .methodLink RX7 122 yX7_goOn, .instanceMethod yX7_goOn, .selects RX7 yX7_goOn yX7_goOn]
def wm_c_goOn1 : List Cond := .code yX7_goOn cX7_goOn 15 none :: (wo_c_goOn1 ++ (wsX70 ++ (wm_c_isBetter ++ (wm_c_beginHand2 ++ (wsX10 ++ (wm_c_allWork ++ (wm_c_rateFor ++ (wm_c_minutesFor ++ (wm_c_minuteAfterWork ++ (wsX60 ++ (wm_c_goOn2 ++ ([] : List Cond))))))))))))
theorem gd_c_goOn1 : ∀ w ∈ wm_c_goOn1, goodWord w = true := gd_c rfl (gd_a (by decide) (gd_a gd_wsX70 (gd_a gd_c_isBetter (gd_a gd_c_beginHand2 (gd_a gd_wsX10 (gd_a gd_c_allWork (gd_a gd_c_rateFor (gd_a gd_c_minutesFor (gd_a gd_c_minuteAfterWork (gd_a gd_wsX60 (gd_a gd_c_goOn2 gd_nil)))))))))))
set_option maxRecDepth 20000 in
theorem im_c_goOn1 : ∀ w ∈ wm_c_goOn1, w ∈ lw_tbl := im_c (in_r [.code yX7_goOn cX7_goOn 15 none] [1060] (by decide +kernel)) (in_app (in_r wo_c_goOn1 [520, 1047, 1049, 23, 85, 522, 1039, 1041, 21, 519, 518, 521, 517, 515, 128, 1061, 720, 721, 89, 516, 1062, 820, 821, 83, 70, 845, 1053, 1054, 1055, 71, 683, 1063, 289, 78, 290, 687, 1057, 1059, 24] (by decide +kernel)) (in_app im_wsX70 (in_app im_c_isBetter (in_app im_c_beginHand2 (in_app im_wsX10 (in_app im_c_allWork (in_app im_c_rateFor (in_app im_c_minutesFor (in_app im_c_minuteAfterWork (in_app im_wsX60 (in_app im_c_goOn2 im_nil)))))))))))
set_option maxHeartbeats 4000000 in
set_option maxRecDepth 100000 in
theorem c_goOn1 (l : Launch) (dC : Nat → ClassId) (dI : Nat → Nat → Nat) (ad av : Nat → Nat) (sz : Nat) (a : Nat → Nat) (k : Nat → ClassId) (τ ln : Nat → Nat) (y : Nat → Nat → Int32) (g : Nat → Nat → Option Nat) (u : Nat → Int) (p0 : Int32) (p1 : Int32) (p2 : Int32) (p3 : Int32) (p4 : Int32) (p5 : Int32) (p6 : Int32) (nP : Int) (nH : Int) (hI : IC a u τ ln y g) (g3 : (y (a 6) 3).toInt = nP) (g5 : (y (a 6) 5).toInt = nH) (gn : (0 ≤ nP ∧ nP ≤ 5) ∧ 0 ≤ nH ∧ nH ≤ 3) (gp : vl nP (u 2) (y (a 41))) (gh : vl nH (u 1) (y (a 42))) (g9 : 0 ≤ (y (a 6) 9).toInt ∧ (y (a 6) 9).toInt ≤ 8) (hp0 : 0 ≤ p0.toInt) (hlen : p6.toInt = 1) : Met l yX7_goOn wm_c_goOn1 ({ frames := 16, cells := 0, slots := 0, locals := 960 }) (pw_ ad av (dC, dI) sz [.ref (a 6), .int p0, .int p1, .int p2, .int p3, .int p4, .int p5, .int p6] a k τ ln y g) (va_Qv (fun (_ : Unit) => True) (fun (_ : Unit) (t : State) => (∃ (y' : Nat → Nat → Int32), ag τ [16, 54, 55] y y' ∧ (y' (a 6) 3).toInt = (y (a 6) 3).toInt ∧ (y' (a 6) 5).toInt = (y (a 6) 5).toInt ∧ (0 ≤ (y' (a 6) 9).toInt ∧ (y' (a 6) 9).toInt ≤ 8) ∧ tw (dC, dI) a k τ ln y' g t.heap)) (fr τ sz)) 0 0 (fr τ sz) := by
  refine Met.ofW (cc := cX7_goOn) (maxL := 15) (ret := none) (by decide) rfl ?_
  intro p e s m args below meth c s₁ B hml hv
  obtain ⟨rfl, hsz, hT, hK, hM⟩ := hv
  have hx := B.exec
  have hb := B.bytes
  have hr := B.returns
  have hts := atoms_spec (ws := wm_c_goOn1) B.pre
  have hown : s.vm.findClass RX7 = some m.cls := findClass_of_methodNamed B.named
  have hlocks := B.notSynchronized
  subst hsz
  generalize hAe : fr τ s.heap.size = A at hM ⊢
  have hA : ∀ q : Nat, s.heap.size ≤ q → A q := fun q h => by rw [← hAe]; exact Or.inr h
  have hF : ∀ q, τ q ≠ 0 → A q := fun q h => by rw [← hAe]; exact Or.inl h
  have hS : va_S A s.heap s.heap [] := va_S.rf
  have hX := hI.1
  have hR := ic_r hI
  have hG : ag τ [16, 54, 55] y y := ag.rf
  have hl := lv_entry ([.ref (a 6), .int p0, .int p1, .int p2, .int p3, .int p4, .int p5, .int p6]) (n := 15) (Nat.le_of_ble_eq_true rfl)
  rw [lg_entry_eq]
  generalize (lg_sl ([.ref (a 6), .int p0, .int p1, .int p2, .int p3, .int p4, .int p5, .int p6]) ++ List.replicate (15 - (lg_sl ([.ref (a 6), .int p0, .int p1, .int p2, .int p3, .int p4, .int p5, .int p6])).length) Slot.unset).toArray = ls at hl ⊢
  have hl : lv_has ls 15 [(0, .ref (a 6)), (1, .int p0), (2, .int p1), (3, .int p2), (4, .int p3), (5, .int p4), (6, .int p5), (7, .int p6)] := hl
  refine lv_iload hx hb dX7_goOn_0 (lv_at hl 7 rfl) ?_
  refine lv_bipush (v := 8) hx hb dX7_goOn_2 (by decide) ?_
  refine lv_icmp_ge (tgt := 26) hx hb dX7_goOn_4 (by decide) (fun c_1 => ?_) (fun c_1 => ?_)
  · have nc_1 := z_le (zk (x := 8) 8 rfl) rfl c_1
    exact W.vret hx hb hr (fun t ht hW9 => ⟨⟨(), rfl, trivial, ⟨y, hG, by omega, by omega, by omega, tw_at ht hT⟩⟩, hS.F ht⟩) hS.2.2 dX7_goOn_26
  · have nc_1 := z_nle (zk (x := 8) 8 rfl) rfl c_1
    refine lv_iload_n hx hb dX7_goOn_7 rfl (lv_at hl 1 rfl) ?_
    refine lv_aload_n hx hb dX7_goOn_8 rfl (lv_at hl 0 rfl) ?_
    refine tw_get (D := (dC, dI)) (v := .int (y (a 6) 5)) (C := RX7) (T := TX7) (N := 13) hx hb hts (fun _ hh => (List.mem_cons_of_mem _ (List.mem_append_right _ (List.mem_append_left _ hh)))) hown hK hT (fx_6 hX) (by decide) cl_e16 rfl 5 (by decide) (hts (.fieldLink RX7 78 "TypingPool$Planner" "handCount" "I") (List.mem_cons_of_mem _ (List.mem_append_left _ (List.mem_of_getElem? (i := 0) rfl)))) (fun _ h9 => h9) rfl dX7_goOn_9 ?_
    refine lv_icmp_ge (tgt := 26) hx hb dX7_goOn_12 (by decide) (fun c_2 => ?_) (fun c_2 => ?_)
    · have nc_2 := z_le rfl rfl c_2
      exact W.vret hx hb hr (fun t ht hW9 => ⟨⟨(), rfl, trivial, ⟨y, hG, by omega, by omega, by omega, tw_at ht hT⟩⟩, hS.F ht⟩) hS.2.2 dX7_goOn_26
    · have nc_2 := z_nle rfl rfl c_2
      refine lv_aload_n hx hb dX7_goOn_15 rfl (lv_at hl 0 rfl) ?_
      refine lv_iload hx hb dX7_goOn_16 (lv_at hl 5 rfl) ?_
      refine lv_iload hx hb dX7_goOn_18 (lv_at hl 6 rfl) ?_
      have hFc := tw_free hF hS hA
      refine va_calli (va_runV (As := [.int p4, .int p5]) (rest := []) ⟨hx, hb, hml, hown, hts⟩ (c_isBetter l dC dI ad av s.heap.size a k τ ln y g u p4 p5 hI ) (cwV 2 hts (gi_4 (List.mem_cons_of_mem _ (List.mem_append_left _ (List.mem_of_getElem? (i := 1) rfl))) (List.mem_cons_of_mem _ (List.mem_append_left _ (List.mem_of_getElem? (i := 2) rfl))) (List.mem_cons_of_mem _ (List.mem_append_left _ (List.mem_of_getElem? (i := 3) rfl))) (List.mem_cons_of_mem _ (List.mem_append_left _ (List.mem_of_getElem? (i := 4) rfl))) (fun _ hh => (List.mem_cons_of_mem _ (List.mem_append_right _ (List.mem_append_right _ (List.mem_append_left _ hh))))) gd_c_isBetter) rfl rfl rfl (by decide +kernel) ⟨Nat.le_of_ble_eq_true rfl, Nat.le_of_ble_eq_true rfl⟩) ⟨pw_blind, tw_recv hK hT (fx_6 hX) (by decide) cl_e16 rfl, pw_use hT hK hFc hS hM⟩ rfl rfl hl.1 rfl (lv_room (Nat.le_of_ble_eq_true rfl)) dX7_goOn_20 ⟨Nat.le_of_ble_eq_true rfl, Nat.le_of_ble_eq_true rfl⟩) hS (fun q _ h => hFc q h) hFc (fun r0 r_3 t H locs ht hvm hw hB hz1 hk1 hS => ?_)
      refine W.widen (k := 0) (n := 0) (Nat.le_of_ble_eq_true rfl) (Nat.le_of_ble_eq_true rfl) ?_
      clear hvm hz1 hk1
      subst hw
      rcases hB with ⟨hre, hT⟩ | ⟨hre, hT⟩
      · refine lq_top (v := 1) hre ?_
        rw [ht] at hT
        refine lv_if_ne (tgt := 27) hx hb dX7_goOn_23 (by decide) (fun c_4 => ?_) (fun c_4 => absurd c_4 (by decide))
        refine lv_aload_n hx hb dX7_goOn_27 rfl (lv_at hl 0 rfl) ?_
        refine tw_get (D := (dC, dI)) (v := .ref (a 44)) (C := RX7) (T := TX7) (N := 13) hx hb hts (fun _ hh => (List.mem_cons_of_mem _ (List.mem_append_right _ (List.mem_append_left _ hh)))) hown hK hT (fx_6 hX) (by decide) cl_e16 rfl 7 (by decide) (hts (.fieldLink RX7 21 "TypingPool$Planner" "current" "[I") (List.mem_cons_of_mem _ (List.mem_append_left _ (List.mem_of_getElem? (i := 5) rfl)))) (fun _ h9 => h9) rfl dX7_goOn_28 ?_
        refine lv_iload hx hb dX7_goOn_31 (lv_at hl 7 rfl) ?_
        refine lv_iconst (v := (-1)) hx hb dX7_goOn_33 (by decide) ?_
        refine tw_iast hx hb hK hT hF hS 0 (fx_44 hX) (by decide) (fun _ => cl_e54) rfl (z_in rfl (by omega) (by omega)) dX7_goOn_34 (fun H locs hT hS => ?_)
        obtain ⟨y_5, hy_5, hT⟩ : ∃ z : Nat → Nat → Int32, z = up2 y (a 44) p6.toNatClampNeg (-1 : Int32) ∧ tw (dC, dI) a k τ ln z g H := ⟨_, rfl, hT⟩
        have hG : ag τ [16, 54, 55] y y_5 := by rw [hy_5]; exact hG.up (fx_44 hX) (by decide)
        have : (y_5 (a 6) 3).toInt = (y (a 6) 3).toInt := by rw [hy_5, up2_o (kd_ne (fx_6 hX) (fx_44 hX) (by decide))]
        have : (y_5 (a 6) 5).toInt = (y (a 6) 5).toInt := by rw [hy_5, up2_o (kd_ne (fx_6 hX) (fx_44 hX) (by decide))]
        have : (y_5 (a 6) 9).toInt = (y (a 6) 9).toInt := by rw [hy_5, up2_o (kd_ne (fx_6 hX) (fx_44 hX) (by decide))]
        have hI := hI.ag (S := [54]) (y' := y_5) (by rw [hy_5]; exact ag.one (fx_44 hX)) (by decide)
        refine lv_aload_n hx hb dX7_goOn_35 rfl (lv_at hl 0 rfl) ?_
        refine lv_iload_n hx hb dX7_goOn_36 rfl (lv_at hl 1 rfl) ?_
        refine lv_iconst (v := 1) hx hb dX7_goOn_37 (by decide) ?_
        refine lv_iadd hx hb dX7_goOn_38 ?_
        refine lv_topi (fun x_6 ex_6 => ?_)
        have hx_6 := z_add ex_6 rfl (zk (x := 1) 1 rfl) (by omega) (by omega)
        refine lv_iload_n hx hb dX7_goOn_39 rfl (lv_at hl 2 rfl) ?_
        refine lv_iload hx hb dX7_goOn_40 (lv_at hl 5 rfl) ?_
        refine lv_iload hx hb dX7_goOn_42 (lv_at hl 6 rfl) ?_
        refine lv_iload hx hb dX7_goOn_44 (lv_at hl 7 rfl) ?_
        refine lv_iconst (v := 1) hx hb dX7_goOn_46 (by decide) ?_
        refine lv_iadd hx hb dX7_goOn_47 ?_
        refine lv_topi (fun x_7 ex_7 => ?_)
        have hx_7 := z_add ex_7 rfl (zk (x := 1) 1 rfl) (by omega) (by omega)
        have hFc := tw_free hF hS hA
        refine va_callv (va_runV (As := [.int x_6, .int p1, .int p4, .int p5, .int x_7]) (rest := []) ⟨hx, hb, hml, hown, hts⟩ (c_beginHand2 l dC dI ad av H.size a k τ ln y_5 g u x_6 p1 p4 p5 x_7 nP nH hI (by omega) (by omega) gn (by rw [hG.at (fx_41 hX) (by decide)]; exact gp) (by rw [hG.at (fx_42 hX) (by decide)]; exact gh) (by omega) (by omega) (by omega)) (cwV 5 hts (gi_4 (List.mem_cons_of_mem _ (List.mem_append_left _ (List.mem_of_getElem? (i := 6) rfl))) (List.mem_cons_of_mem _ (List.mem_append_left _ (List.mem_of_getElem? (i := 7) rfl))) (List.mem_cons_of_mem _ (List.mem_append_left _ (List.mem_of_getElem? (i := 8) rfl))) (List.mem_cons_of_mem _ (List.mem_append_left _ (List.mem_of_getElem? (i := 4) rfl))) (fun _ hh => (List.mem_cons_of_mem _ (List.mem_append_right _ (List.mem_append_right _ (List.mem_append_right _ (List.mem_append_left _ hh)))))) gd_c_beginHand2) rfl rfl rfl (by decide +kernel) ⟨Nat.le_of_ble_eq_true rfl, Nat.le_of_ble_eq_true rfl⟩) ⟨pw_blind, tw_recv hK hT (fx_6 hX) (by decide) cl_e16 rfl, pw_use hT hK hFc hS hM⟩ rfl rfl hl.1 rfl (lv_room (Nat.le_of_ble_eq_true rfl)) dX7_goOn_48 ⟨Nat.le_of_ble_eq_true rfl, Nat.le_of_ble_eq_true rfl⟩) hS (fun q _ h => hFc q h) hFc (fun u0 t H locs ht hvm hw hB hz1 hk1 hS => ?_)
        refine W.widen (k := 0) (n := 0) (Nat.le_of_ble_eq_true rfl) (Nat.le_of_ble_eq_true rfl) ?_
        clear hvm hz1 hk1
        obtain ⟨y_9, hgy_9, hf_10, hf_11, hf_12, hT⟩ := hB
        rw [ht] at hT
        have hG := hG.tr hgy_9 (by decide)
        have hI := hI.ag hgy_9 (by decide)
        refine lv_aload_n hx hb dX7_goOn_51 rfl (lv_at hl 0 rfl) ?_
        refine tw_get (D := (dC, dI)) (v := .ref (a 42)) (C := RX7) (T := TX7) (N := 13) hx hb hts (fun _ hh => (List.mem_cons_of_mem _ (List.mem_append_right _ (List.mem_append_left _ hh)))) hown hK hT (fx_6 hX) (by decide) cl_e16 rfl 4 (by decide) (hts (.fieldLink RX7 15 "TypingPool$Planner" "hands" "[I") (List.mem_cons_of_mem _ (List.mem_append_left _ (List.mem_of_getElem? (i := 9) rfl)))) (fun _ h9 => h9) rfl dX7_goOn_52 ?_
        refine lv_iload_n hx hb dX7_goOn_55 rfl (lv_at hl 1 rfl) ?_
        refine tw_iald hx hb hK hT 0 (fx_42 hX) (by decide) cl_e52 rfl (z_in rfl (by omega) (by omega)) dX7_goOn_56 ?_
        have hv0 : vl nH (u 1) (y_9 (a 42)) := (by rw [hG.at (fx_42 hX) (by decide)]; exact gh)
        have hv_13 := vl_at hv0 (x := p0) rfl (by omega) (by omega)
        refine lv_istore (lv' := [(8, .int (y_9 (a 42) p0.toNatClampNeg)), (0, .ref (a 6)), (1, .int p0), (2, .int p1), (3, .int p2), (4, .int p3), (5, .int p4), (6, .int p5), (7, .int p6)]) hx hb dX7_goOn_57 hl (by decide) rfl (fun ls hl => ?_)
        refine lv_iconst (v := 0) hx hb dX7_goOn_59 (by decide) ?_
        refine lv_istore (lv' := [(9, .int 0), (8, .int (y_9 (a 42) p0.toNatClampNeg)), (0, .ref (a 6)), (1, .int p0), (2, .int p1), (3, .int p2), (4, .int p3), (5, .int p4), (6, .int p5), (7, .int p6)]) hx hb dX7_goOn_60 hl (by decide) rfl (fun ls hl => ?_)
        have loop_62 : ∀ (n : Nat) (i9 : Int32) (y_L62 : Nat → Nat → Int32) (H : Heap) (locs : List Loc) (ls : Array Slot), (nP - i9.toInt).toNat < n → ag τ [16, 54, 55] y y_L62 → IC a u τ ln y_L62 g → 0 ≤ i9.toInt → i9.toInt ≤ nP → (y_L62 (a 6) 3).toInt = nP → (y_L62 (a 6) 5).toInt = nH → 0 ≤ (y_L62 (a 6) 9).toInt ∧ (y_L62 (a 6) 9).toInt ≤ 8 → tw (dC, dI) a k τ ln y_L62 g H → va_S A s.heap H locs → lv_has ls 15 [(0, .ref (a 6)), (1, .int p0), (2, .int p1), (3, .int p2), (4, .int p3), (5, .int p4), (6, .int p5), (7, .int p6), (8, .int (y_9 (a 42) p0.toNatClampNeg)), (9, .int i9)] → W p l e (headSpec wm_c_goOn1 ({ frames := 16, cells := 0, slots := 0, locals := 960 })).room s m ([.ref (a 6), .int p0, .int p1, .int p2, .int p3, .int p4, .int p5, .int p6] : List Value).toArray below meth c H locs 0 0 (MQ below (va_Qv (fun (_ : Unit) => True) (fun (_ : Unit) (t : State) => (∃ (y' : Nat → Nat → Int32), ag τ [16, 54, 55] y y' ∧ (y' (a 6) 3).toInt = (y (a 6) 3).toInt ∧ (y' (a 6) 5).toInt = (y (a 6) 5).toInt ∧ (0 ≤ (y' (a 6) 9).toInt ∧ (y' (a 6) 9).toInt ≤ 8) ∧ tw (dC, dI) a k τ ln y' g t.heap)) A) ([.ref (a 6), .int p0, .int p1, .int p2, .int p3, .int p4, .int p5, .int p6] : List Value).toArray s 0 0 A) (F0 m 62 ls []) := by
          intro n
          induction n with
          | zero => intro i9 y_L62 H locs ls hlt; exact absurd hlt (Nat.not_lt_zero _)
          | succ n ih_62 =>
            intro i9 y_L62 H locs ls hlt hG hI hi62_0 hi62_1 hi62_2 hi62_3 hi62_4 hT hS hl
            refine lv_iload hx hb dX7_goOn_62 (lv_at hl 9 rfl) ?_
            refine lv_aload_n hx hb dX7_goOn_64 rfl (lv_at hl 0 rfl) ?_
            refine tw_get (D := (dC, dI)) (v := .int (y_L62 (a 6) 3)) (C := RX7) (T := TX7) (N := 13) hx hb hts (fun _ hh => (List.mem_cons_of_mem _ (List.mem_append_right _ (List.mem_append_left _ hh)))) hown hK hT (fx_6 hX) (by decide) cl_e16 rfl 3 (by decide) (hts (.fieldLink RX7 42 "TypingPool$Planner" "pieceCount" "I") (List.mem_cons_of_mem _ (List.mem_append_left _ (List.mem_of_getElem? (i := 10) rfl)))) (fun _ h9 => h9) rfl dX7_goOn_65 ?_
            refine lv_icmp_ge (tgt := 220) hx hb dX7_goOn_68 (by decide) (fun c_14 => ?_) (fun c_14 => ?_)
            · have nc_14 := z_le rfl rfl c_14
              exact W.vret hx hb hr (fun t ht hW9 => ⟨⟨(), rfl, trivial, ⟨y_L62, hG, by omega, by omega, by omega, tw_at ht hT⟩⟩, hS.F ht⟩) hS.2.2 dX7_goOn_220
            · have nc_14 := z_nle rfl rfl c_14
              refine lv_iload_n hx hb dX7_goOn_71 rfl (lv_at hl 2 rfl) ?_
              refine lv_aload_n hx hb dX7_goOn_72 rfl (lv_at hl 0 rfl) ?_
              refine tw_get (D := (dC, dI)) (v := .ref (a 43)) (C := RX7) (T := TX7) (N := 13) hx hb hts (fun _ hh => (List.mem_cons_of_mem _ (List.mem_append_right _ (List.mem_append_left _ hh)))) hown hK hT (fx_6 hX) (by decide) cl_e16 rfl 6 (by decide) (hts (.fieldLink RX7 18 "TypingPool$Planner" "allowed" "[I") (List.mem_cons_of_mem _ (List.mem_append_left _ (List.mem_of_getElem? (i := 11) rfl)))) (fun _ h9 => h9) rfl dX7_goOn_73 ?_
              refine lv_iload_n hx hb dX7_goOn_76 rfl (lv_at hl 1 rfl) ?_
              refine tw_iald hx hb hK hT 0 (fx_43 hX) (by decide) cl_e53 rfl (z_in rfl (by omega) (by omega)) dX7_goOn_77 ?_
              refine lv_iand hx hb dX7_goOn_78 ?_
              refine lv_topi (fun x_15 ex_15 => ?_)
              refine lv_iload hx hb dX7_goOn_79 (lv_at hl 9 rfl) ?_
              refine lv_ishr hx hb dX7_goOn_81 ?_
              refine lv_topi (fun x_16 ex_16 => ?_)
              refine lv_iconst (v := 1) hx hb dX7_goOn_82 (by decide) ?_
              refine lv_iand hx hb dX7_goOn_83 ?_
              refine lv_topi (fun x_17 ex_17 => ?_)
              have hx_17 := z_and (x := x_16) (zk (x := 1) 1 rfl) (by omega)
              rw [← ex_17] at hx_17
              refine lv_iconst (v := 1) hx hb dX7_goOn_84 (by decide) ?_
              refine lv_icmp_ne (tgt := 214) hx hb dX7_goOn_85 (by decide) (fun c_18 => ?_) (fun c_18 => ?_)
              · have nc_18 := z_ne rfl (zk (x := 1) 1 rfl) c_18
                obtain ⟨x_19, ex_19⟩ : ∃ y : Int32, y = i9 + Int32.ofInt 1 := ⟨_, rfl⟩
                have hx_19 := z_add ex_19 rfl (zk (x := Int32.ofInt 1) 1 rfl) (by omega) (by omega)
                refine lv_iinc (v := x_19) (lv' := [(9, .int x_19), (0, .ref (a 6)), (1, .int p0), (2, .int p1), (3, .int p2), (4, .int p3), (5, .int p4), (6, .int p5), (7, .int p6), (8, .int (y_9 (a 42) p0.toNatClampNeg))]) hx hb dX7_goOn_214 hl (k := 9) rfl ex_19.symm (by decide) rfl (fun ls hl => ?_)
                refine lv_goto (tgt := 62) hx hb dX7_goOn_217 (by decide) ?_
                exact ih_62  x_19 y_L62 H _ ls (by omega) hG hI (by omega) (by omega) (by omega) (by omega) (by omega) hT hS (lv_sub hl [1, 2, 3, 4, 5, 6, 7, 8, 9, 0] rfl)
              · have nc_18 := z_eq rfl (zk (x := 1) 1 rfl) c_18
                refine lv_aload_n hx hb dX7_goOn_88 rfl (lv_at hl 0 rfl) ?_
                refine tw_get (D := (dC, dI)) (v := .ref (a 41)) (C := RX7) (T := TX7) (N := 13) hx hb hts (fun _ hh => (List.mem_cons_of_mem _ (List.mem_append_right _ (List.mem_append_left _ hh)))) hown hK hT (fx_6 hX) (by decide) cl_e16 rfl 2 (by decide) (hts (.fieldLink RX7 9 "TypingPool$Planner" "pieces" "[I") (List.mem_cons_of_mem _ (List.mem_append_left _ (List.mem_of_getElem? (i := 12) rfl)))) (fun _ h9 => h9) rfl dX7_goOn_89 ?_
                refine lv_iload hx hb dX7_goOn_92 (lv_at hl 9 rfl) ?_
                refine tw_iald hx hb hK hT 0 (fx_41 hX) (by decide) cl_e51 rfl (z_in rfl (by omega) (by omega)) dX7_goOn_94 ?_
                have hv0 : vl nP (u 2) (y_L62 (a 41)) := (by rw [hG.at (fx_41 hX) (by decide)]; exact gp)
                have hv_20 := vl_at hv0 (x := i9) rfl (by omega) (by omega)
                refine lv_istore (lv' := [(10, .int (y_L62 (a 41) i9.toNatClampNeg)), (0, .ref (a 6)), (1, .int p0), (2, .int p1), (3, .int p2), (4, .int p3), (5, .int p4), (6, .int p5), (7, .int p6), (8, .int (y_9 (a 42) p0.toNatClampNeg)), (9, .int i9)]) hx hb dX7_goOn_95 hl (by decide) rfl (fun ls hl => ?_)
                refine lv_aload_n hx hb dX7_goOn_97 rfl (lv_at hl 1 rfl) ?_
                refine tw_get (D := (dC, dI)) (v := .ref (a 1)) (C := RX7) (T := TX7) (N := 13) hx hb hts (fun _ hh => (List.mem_cons_of_mem _ (List.mem_append_right _ (List.mem_append_left _ hh)))) hown hK hT (fx_6 hX) (by decide) cl_e16 rfl 0 (by decide) (hts (.fieldLink RX7 27 "TypingPool$Planner" "book" "LTypingPool$Book;") (List.mem_cons_of_mem _ (List.mem_append_left _ (List.mem_of_getElem? (i := 13) rfl)))) (fun _ h9 => h9) rfl dX7_goOn_98 ?_
                refine tw_get (D := (dC, dI)) (v := .ref (a 11)) (C := RX1) (T := TX1) (N := 8) hx hb hts (fun _ hh => (List.mem_cons_of_mem _ (List.mem_append_right _ (List.mem_append_right _ (List.mem_append_right _ (List.mem_append_right _ (List.mem_append_left _ hh))))))) hown hK hT (fx_1 hX) (by decide) cl_e11 rfl 4 (by decide) (hts (.fieldLink RX7 115 "TypingPool$Book" "pieces" "[LTypingPool$Piece;") (List.mem_cons_of_mem _ (List.mem_append_left _ (List.mem_of_getElem? (i := 14) rfl)))) (fun _ h9 => h9) rfl dX7_goOn_101 ?_
                refine lv_iload hx hb dX7_goOn_104 (lv_at hl 0 rfl) ?_
                refine tw_aald hx hb hK hT 4 (fx_11 hX) (by decide) cl_e21 rfl (z_in rfl (by omega) (by omega)) dX7_goOn_106 ?_
                obtain ⟨q_21, hgq_21, htq_21⟩ := ic_l11 hI (x := (y_L62 (a 41) i9.toNatClampNeg)) rfl (by omega) (by omega)
                refine lq_topr hgq_21 ?_
                refine lv_astore (lv' := [(11, .ref q_21), (10, .int (y_L62 (a 41) i9.toNatClampNeg)), (0, .ref (a 6)), (1, .int p0), (2, .int p1), (3, .int p2), (4, .int p3), (5, .int p4), (6, .int p5), (7, .int p6), (8, .int (y_9 (a 42) p0.toNatClampNeg)), (9, .int i9)]) hx hb dX7_goOn_107 hl (by decide) rfl (fun ls hl => ?_)
                refine lv_aload hx hb dX7_goOn_109 (lv_at hl 0 rfl) ?_
                have hFc := tw_free hF hS hA
                refine va_calli (va_runV (As := []) (rest := []) ⟨hx, hb, hml, hown, hts⟩ (c_allWork l dC dI ad av H.size a k τ ln y_L62 g u q_21 hI htq_21) (cwV 0 hts (gi_4 (List.mem_cons_of_mem _ (List.mem_append_left _ (List.mem_of_getElem? (i := 15) rfl))) (List.mem_cons_of_mem _ (List.mem_append_left _ (List.mem_of_getElem? (i := 16) rfl))) (List.mem_cons_of_mem _ (List.mem_append_left _ (List.mem_of_getElem? (i := 17) rfl))) (List.mem_cons_of_mem _ (List.mem_append_left _ (List.mem_of_getElem? (i := 18) rfl))) (fun _ hh => (List.mem_cons_of_mem _ (List.mem_append_right _ (List.mem_append_right _ (List.mem_append_right _ (List.mem_append_right _ (List.mem_append_right _ (List.mem_append_left _ hh)))))))) gd_c_allWork) rfl rfl rfl (by decide +kernel) ⟨Nat.le_of_ble_eq_true rfl, Nat.le_of_ble_eq_true rfl⟩) ⟨pw_blind, tw_recv hK hT htq_21 (by decide) cl_e2 rfl, pw_use hT hK hFc hS hM⟩ rfl rfl hl.1 rfl (lv_room (Nat.le_of_ble_eq_true rfl)) dX7_goOn_111 ⟨Nat.le_of_ble_eq_true rfl, Nat.le_of_ble_eq_true rfl⟩) hS (fun q _ h => hFc q h) hFc (fun r0 r_22 t H locs ht hvm hw hB hz1 hk1 hS => ?_)
                refine W.widen (k := 0) (n := 0) (Nat.le_of_ble_eq_true rfl) (Nat.le_of_ble_eq_true rfl) ?_
                clear hvm hz1 hk1
                subst hw
                have hT := hB
                rw [ht] at hT
                refine lv_aload_n hx hb dX7_goOn_114 rfl (lv_at hl 2 rfl) ?_
                refine tw_get (D := (dC, dI)) (v := .ref (a 3)) (C := RX7) (T := TX7) (N := 13) hx hb hts (fun _ hh => (List.mem_cons_of_mem _ (List.mem_append_right _ (List.mem_append_left _ hh)))) hown hK hT (fx_6 hX) (by decide) cl_e16 rfl 1 (by decide) (hts (.fieldLink RX7 31 "TypingPool$Planner" "floor" "LTypingPool$Floor;") (List.mem_cons_of_mem _ (List.mem_append_left _ (List.mem_of_getElem? (i := 19) rfl)))) (fun _ h9 => h9) rfl dX7_goOn_115 ?_
                refine lv_iload hx hb dX7_goOn_118 (lv_at hl 10 rfl) ?_
                refine lv_iload hx hb dX7_goOn_120 (lv_at hl 1 rfl) ?_
                refine lv_iload hx hb dX7_goOn_122 (lv_at hl 6 rfl) ?_
                have hFc := tw_free hF hS hA
                refine va_calli (va_runV (As := [.int (y_9 (a 42) p0.toNatClampNeg), .int (y_L62 (a 41) i9.toNatClampNeg), .int p3]) (rest := [.int r_22]) ⟨hx, hb, hml, hown, hts⟩ (c_rateFor l dC dI ad av H.size a k τ ln y_L62 g u (y_9 (a 42) p0.toNatClampNeg) (y_L62 (a 41) i9.toNatClampNeg) p3 hI (by omega) (by omega) (by omega) (by omega)) (cwV 3 hts (gi_4 (List.mem_cons_of_mem _ (List.mem_append_left _ (List.mem_of_getElem? (i := 20) rfl))) (List.mem_cons_of_mem _ (List.mem_append_left _ (List.mem_of_getElem? (i := 21) rfl))) (List.mem_cons_of_mem _ (List.mem_append_left _ (List.mem_of_getElem? (i := 22) rfl))) (List.mem_cons_of_mem _ (List.mem_append_left _ (List.mem_of_getElem? (i := 23) rfl))) (fun _ hh => (List.mem_cons_of_mem _ (List.mem_append_right _ (List.mem_append_right _ (List.mem_append_right _ (List.mem_append_right _ (List.mem_append_right _ (List.mem_append_right _ (List.mem_append_left _ hh))))))))) gd_c_rateFor) rfl rfl rfl (by decide +kernel) ⟨Nat.le_of_ble_eq_true rfl, Nat.le_of_ble_eq_true rfl⟩) ⟨pw_blind, tw_recv hK hT (fx_3 hX) (by decide) cl_e13 rfl, pw_use hT hK hFc hS hM⟩ rfl rfl hl.1 rfl (lv_room (Nat.le_of_ble_eq_true rfl)) dX7_goOn_124 ⟨Nat.le_of_ble_eq_true rfl, Nat.le_of_ble_eq_true rfl⟩) hS (fun q _ h => hFc q h) hFc (fun r0 r_23 t H locs ht hvm hw hB hz1 hk1 hS => ?_)
                refine W.widen (k := 0) (n := 0) (Nat.le_of_ble_eq_true rfl) (Nat.le_of_ble_eq_true rfl) ?_
                clear hvm hz1 hk1
                subst hw
                have hT := hB
                rw [ht] at hT
                have hFc := tw_free hF hS hA
                refine va_calli (va_runSN (As := [.int r_22, .int r_23]) (rest := []) ⟨hx, hb, hml, hown, hts⟩ (c_minutesFor l dC dI ad av H.size a k τ ln y_L62 g u r_22 r_23  ) ⟨va_cnB 2 hts (gi_0  (fun _ hh => (List.mem_cons_of_mem _ (List.mem_append_right _ (List.mem_append_right _ (List.mem_append_right _ (List.mem_append_right _ (List.mem_append_right _ (List.mem_append_right _ (List.mem_append_right _ (List.mem_append_left _ hh)))))))))) gd_c_minutesFor) rfl rfl rfl hM.1.2.2.2.1 (hts (.initialized RX11) (List.mem_cons_of_mem _ (List.mem_append_left _ (List.mem_of_getElem? (i := 24) rfl)))) (by decide +kernel) ⟨Nat.le_of_ble_eq_true rfl, Nat.le_of_ble_eq_true rfl⟩, (hts (.static yX11_minutesFor) (List.mem_cons_of_mem _ (List.mem_append_left _ (List.mem_of_getElem? (i := 25) rfl)))), trivial⟩ ⟨pw_blind, pw_use hT hK hFc hS hM⟩ rfl rfl hl.1 rfl (lv_room (Nat.le_of_ble_eq_true rfl)) dX7_goOn_127 ⟨Nat.le_of_ble_eq_true rfl, Nat.le_of_ble_eq_true rfl⟩) hS (fun q _ h => hFc q h) hFc (fun r0 r_24 t H locs ht hvm hw hB hz1 hk1 hS => ?_)
                refine W.widen (k := 0) (n := 0) (Nat.le_of_ble_eq_true rfl) (Nat.le_of_ble_eq_true rfl) ?_
                clear hvm hz1 hk1
                subst hw
                have hT := hB
                rw [ht] at hT
                refine lv_istore (lv' := [(12, .int r_24), (11, .ref q_21), (10, .int (y_L62 (a 41) i9.toNatClampNeg)), (0, .ref (a 6)), (1, .int p0), (2, .int p1), (3, .int p2), (4, .int p3), (5, .int p4), (6, .int p5), (7, .int p6), (8, .int (y_9 (a 42) p0.toNatClampNeg)), (9, .int i9)]) hx hb dX7_goOn_130 hl (by decide) rfl (fun ls hl => ?_)
                refine lv_aload_n hx hb dX7_goOn_132 rfl (lv_at hl 3 rfl) ?_
                refine tw_get (D := (dC, dI)) (v := .ref (a 1)) (C := RX7) (T := TX7) (N := 13) hx hb hts (fun _ hh => (List.mem_cons_of_mem _ (List.mem_append_right _ (List.mem_append_left _ hh)))) hown hK hT (fx_6 hX) (by decide) cl_e16 rfl 0 (by decide) (hts (.fieldLink RX7 27 "TypingPool$Planner" "book" "LTypingPool$Book;") (List.mem_cons_of_mem _ (List.mem_append_left _ (List.mem_of_getElem? (i := 13) rfl)))) (fun _ h9 => h9) rfl dX7_goOn_133 ?_
                refine lv_iload hx hb dX7_goOn_136 (lv_at hl 11 rfl) ?_
                refine lv_iload_n hx hb dX7_goOn_138 rfl (lv_at hl 6 rfl) ?_
                refine lv_iload hx hb dX7_goOn_139 (lv_at hl 0 rfl) ?_
                have hFc := tw_free hF hS hA
                refine va_calli (va_runV (As := [.int (y_9 (a 42) p0.toNatClampNeg), .int p2, .int r_24]) (rest := []) ⟨hx, hb, hml, hown, hts⟩ (c_minuteAfterWork l dC dI ad av H.size a k τ ln y_L62 g u (y_9 (a 42) p0.toNatClampNeg) p2 r_24 hI ) (cwV 3 hts (gi_4 (List.mem_cons_of_mem _ (List.mem_append_left _ (List.mem_of_getElem? (i := 26) rfl))) (List.mem_cons_of_mem _ (List.mem_append_left _ (List.mem_of_getElem? (i := 27) rfl))) (List.mem_cons_of_mem _ (List.mem_append_left _ (List.mem_of_getElem? (i := 28) rfl))) (List.mem_cons_of_mem _ (List.mem_append_left _ (List.mem_of_getElem? (i := 29) rfl))) (fun _ hh => (List.mem_cons_of_mem _ (List.mem_append_right _ (List.mem_append_right _ (List.mem_append_right _ (List.mem_append_right _ (List.mem_append_right _ (List.mem_append_right _ (List.mem_append_right _ (List.mem_append_right _ (List.mem_append_left _ hh))))))))))) gd_c_minuteAfterWork) rfl rfl rfl (by decide +kernel) ⟨Nat.le_of_ble_eq_true rfl, Nat.le_of_ble_eq_true rfl⟩) ⟨pw_blind, tw_recv hK hT (fx_1 hX) (by decide) cl_e11 rfl, pw_use hT hK hFc hS hM⟩ rfl rfl hl.1 rfl (lv_room (Nat.le_of_ble_eq_true rfl)) dX7_goOn_141 ⟨Nat.le_of_ble_eq_true rfl, Nat.le_of_ble_eq_true rfl⟩) hS (fun q _ h => hFc q h) hFc (fun r0 r_25 t H locs ht hvm hw hB hz1 hk1 hS => ?_)
                refine W.widen (k := 0) (n := 0) (Nat.le_of_ble_eq_true rfl) (Nat.le_of_ble_eq_true rfl) ?_
                clear hvm hz1 hk1
                subst hw
                have hT := hB
                rw [ht] at hT
                refine lv_istore (lv' := [(13, .int r_25), (12, .int r_24), (11, .ref q_21), (10, .int (y_L62 (a 41) i9.toNatClampNeg)), (0, .ref (a 6)), (1, .int p0), (2, .int p1), (3, .int p2), (4, .int p3), (5, .int p4), (6, .int p5), (7, .int p6), (8, .int (y_9 (a 42) p0.toNatClampNeg)), (9, .int i9)]) hx hb dX7_goOn_144 hl (by decide) rfl (fun ls hl => ?_)
                refine lv_iconst (v := 0) hx hb dX7_goOn_146 (by decide) ?_
                refine lv_iload hx hb dX7_goOn_147 (lv_at hl 0 rfl) ?_
                refine lv_aload hx hb dX7_goOn_149 (lv_at hl 2 rfl) ?_
                refine tw_get (D := (dC, dI)) (v := .int (y_L62 q_21 6)) (C := RX6) (T := TX6) (N := 11) hx hb hts (fun _ hh => (List.mem_cons_of_mem _ (List.mem_append_right _ (List.mem_append_right _ (List.mem_append_right _ (List.mem_append_right _ (List.mem_append_right _ (List.mem_append_right _ (List.mem_append_right _ (List.mem_append_right _ (List.mem_append_right _ (List.mem_append_left _ hh)))))))))))) hown hK hT htq_21 (by decide) cl_e2 rfl 6 (by decide) (hts (.fieldLink RX7 136 "TypingPool$Piece" "due" "I") (List.mem_cons_of_mem _ (List.mem_append_left _ (List.mem_of_getElem? (i := 30) rfl)))) (fun _ h9 => h9) rfl dX7_goOn_151 ?_
                refine lv_isub hx hb dX7_goOn_154 ?_
                refine lv_topi (fun x_26 ex_26 => ?_)
                refine va_mmax hx hb (by rw [hml]; exact hl.1.symm) hown (hts (.methodLink RX7 139 Lib.Math.max.name) (List.mem_cons_of_mem _ (List.mem_append_left _ (List.mem_of_getElem? (i := 31) rfl)))) (hts (.static Lib.Math.max.name) (List.mem_cons_of_mem _ (List.mem_append_left _ (List.mem_of_getElem? (i := 32) rfl)))) (hts (.initialized "java/lang/Math") (List.mem_cons_of_mem _ (List.mem_append_left _ (List.mem_of_getElem? (i := 33) rfl)))) (hts (.code Lib.Math.max.name Lib.Math.max.code 2 (some .int)) (List.mem_cons_of_mem _ (List.mem_append_left _ (List.mem_of_getElem? (i := 34) rfl)))) (Nat.le_of_ble_eq_true rfl) (Nat.le_of_ble_eq_true rfl) (Nat.le_of_ble_eq_true rfl) (Nat.le_of_ble_eq_true rfl) dX7_goOn_155 ?_
                refine lv_topi (fun x_27 ex_27 => ?_)
                have hx_27 := z_max ex_27 (zk (x := 0) 0 rfl) rfl
                refine lv_istore (lv' := [(14, .int x_27), (13, .int r_25), (12, .int r_24), (11, .ref q_21), (10, .int (y_L62 (a 41) i9.toNatClampNeg)), (0, .ref (a 6)), (1, .int p0), (2, .int p1), (3, .int p2), (4, .int p3), (5, .int p4), (6, .int p5), (7, .int p6), (8, .int (y_9 (a 42) p0.toNatClampNeg)), (9, .int i9)]) hx hb dX7_goOn_158 hl (by decide) rfl (fun ls hl => ?_)
                refine lv_aload_n hx hb dX7_goOn_160 rfl (lv_at hl 5 rfl) ?_
                refine tw_get (D := (dC, dI)) (v := .ref (a 44)) (C := RX7) (T := TX7) (N := 13) hx hb hts (fun _ hh => (List.mem_cons_of_mem _ (List.mem_append_right _ (List.mem_append_left _ hh)))) hown hK hT (fx_6 hX) (by decide) cl_e16 rfl 7 (by decide) (hts (.fieldLink RX7 21 "TypingPool$Planner" "current" "[I") (List.mem_cons_of_mem _ (List.mem_append_left _ (List.mem_of_getElem? (i := 5) rfl)))) (fun _ h9 => h9) rfl dX7_goOn_161 ?_
                refine lv_iload hx hb dX7_goOn_164 (lv_at hl 12 rfl) ?_
                refine lv_iload hx hb dX7_goOn_166 (lv_at hl 4 rfl) ?_
                refine tw_iast hx hb hK hT hF hS 0 (fx_44 hX) (by decide) (fun _ => cl_e54) rfl (z_in rfl (by omega) (by omega)) dX7_goOn_168 (fun H locs hT hS => ?_)
                obtain ⟨y_28, hy_28, hT⟩ : ∃ z : Nat → Nat → Int32, z = up2 y_L62 (a 44) p6.toNatClampNeg (y_L62 (a 41) i9.toNatClampNeg) ∧ tw (dC, dI) a k τ ln z g H := ⟨_, rfl, hT⟩
                have hG : ag τ [16, 54, 55] y y_28 := by rw [hy_28]; exact hG.up (fx_44 hX) (by decide)
                have : (y_28 (a 6) 3).toInt = (y_L62 (a 6) 3).toInt := by rw [hy_28, up2_o (kd_ne (fx_6 hX) (fx_44 hX) (by decide))]
                have : (y_28 (a 6) 5).toInt = (y_L62 (a 6) 5).toInt := by rw [hy_28, up2_o (kd_ne (fx_6 hX) (fx_44 hX) (by decide))]
                have : (y_28 (a 6) 9).toInt = (y_L62 (a 6) 9).toInt := by rw [hy_28, up2_o (kd_ne (fx_6 hX) (fx_44 hX) (by decide))]
                have hI := hI.ag (S := [54]) (y' := y_28) (by rw [hy_28]; exact ag.one (fx_44 hX)) (by decide)
                refine lv_aload_n hx hb dX7_goOn_169 rfl (lv_at hl 5 rfl) ?_
                refine lv_iload_n hx hb dX7_goOn_170 rfl (lv_at hl 6 rfl) ?_
                refine lv_iload_n hx hb dX7_goOn_171 rfl (lv_at hl 7 rfl) ?_
                refine lv_iconst (v := 1) hx hb dX7_goOn_172 (by decide) ?_
                refine lv_iload hx hb dX7_goOn_173 (lv_at hl 14 rfl) ?_
                refine lv_ishl hx hb dX7_goOn_175 ?_
                refine lv_topi (fun x_29 ex_29 => ?_)
                refine lv_iconst (v := (-1)) hx hb dX7_goOn_176 (by decide) ?_
                refine lv_ixor hx hb dX7_goOn_177 ?_
                refine lv_topi (fun x_30 ex_30 => ?_)
                refine lv_iand hx hb dX7_goOn_178 ?_
                refine lv_topi (fun x_31 ex_31 => ?_)
                refine lv_iload hx hb dX7_goOn_179 (lv_at hl 1 rfl) ?_
                refine lv_iload hx hb dX7_goOn_181 (lv_at hl 9 rfl) ?_
                refine lv_aload hx hb dX7_goOn_183 (lv_at hl 3 rfl) ?_
                refine tw_get (D := (dC, dI)) (v := .int (y_28 q_21 7)) (C := RX6) (T := TX6) (N := 11) hx hb hts (fun _ hh => (List.mem_cons_of_mem _ (List.mem_append_right _ (List.mem_append_right _ (List.mem_append_right _ (List.mem_append_right _ (List.mem_append_right _ (List.mem_append_right _ (List.mem_append_right _ (List.mem_append_right _ (List.mem_append_right _ (List.mem_append_left _ hh)))))))))))) hown hK hT htq_21 (by decide) cl_e2 rfl 7 (by decide) (hts (.fieldLink RX7 118 "TypingPool$Piece" "words" "I") (List.mem_cons_of_mem _ (List.mem_append_left _ (List.mem_of_getElem? (i := 35) rfl)))) (fun _ h9 => h9) rfl dX7_goOn_185 ?_
                refine lv_ior hx hb dX7_goOn_188 ?_
                refine lv_topi (fun x_32 ex_32 => ?_)
                refine lv_iload hx hb dX7_goOn_189 (lv_at hl 10 rfl) ?_
                refine lv_iload hx hb dX7_goOn_191 (lv_at hl 0 rfl) ?_
                refine lv_if_le (tgt := 200) hx hb dX7_goOn_193 (by decide) (fun c_33 => ?_) (fun c_33 => ?_)
                · have nc_33 := z_le rfl (zk (x := 0) 0 rfl) c_33
                  refine lv_iconst (v := 0) hx hb dX7_goOn_200 (by decide) ?_
                  refine lv_iadd hx hb dX7_goOn_201 ?_
                  refine lv_topi (fun x_34 ex_34 => ?_)
                  refine lv_iload hx hb dX7_goOn_202 (lv_at hl 11 rfl) ?_
                  refine lv_iload hx hb dX7_goOn_204 (lv_at hl 0 rfl) ?_
                  refine lv_iadd hx hb dX7_goOn_206 ?_
                  refine lv_topi (fun x_35 ex_35 => ?_)
                  refine lv_iload hx hb dX7_goOn_207 (lv_at hl 12 rfl) ?_
                  refine lv_iconst (v := 1) hx hb dX7_goOn_209 (by decide) ?_
                  refine lv_iadd hx hb dX7_goOn_210 ?_
                  refine lv_topi (fun x_36 ex_36 => ?_)
                  have hx_36 := z_add ex_36 rfl (zk (x := 1) 1 rfl) (by omega) (by omega)
                  have hFc := tw_free hF hS hA
                  refine va_callv (va_runV (As := [.int p0, .int x_31, .int r_25, .int x_32, .int x_34, .int x_35, .int x_36]) (rest := []) ⟨hx, hb, hml, hown, hts⟩ (c_goOn2 l dC dI ad av H.size a k τ ln y_28 g u p0 x_31 r_25 x_32 x_34 x_35 x_36 nP nH hI (by omega) (by omega) gn (by rw [hG.at (fx_41 hX) (by decide)]; exact gp) (by rw [hG.at (fx_42 hX) (by decide)]; exact gh) (by omega) (by omega) (by omega)) (cwV 7 hts (gi_4 (List.mem_cons_of_mem _ (List.mem_append_left _ (List.mem_of_getElem? (i := 36) rfl))) (List.mem_cons_of_mem _ (List.mem_append_left _ (List.mem_of_getElem? (i := 37) rfl))) (List.mem_cons_of_mem _ (List.mem_append_left _ (List.mem_of_getElem? (i := 38) rfl))) (List.mem_cons_of_mem _ (List.mem_append_left _ (List.mem_of_getElem? (i := 4) rfl))) (fun _ hh => (List.mem_cons_of_mem _ (List.mem_append_right _ (List.mem_append_right _ (List.mem_append_right _ (List.mem_append_right _ (List.mem_append_right _ (List.mem_append_right _ (List.mem_append_right _ (List.mem_append_right _ (List.mem_append_right _ (List.mem_append_right _ (List.mem_append_left _ hh))))))))))))) gd_c_goOn2) rfl rfl rfl (by decide +kernel) ⟨Nat.le_of_ble_eq_true rfl, Nat.le_of_ble_eq_true rfl⟩) ⟨pw_blind, tw_recv hK hT (fx_6 hX) (by decide) cl_e16 rfl, pw_use hT hK hFc hS hM⟩ rfl rfl hl.1 rfl (lv_room (Nat.le_of_ble_eq_true rfl)) dX7_goOn_211 ⟨Nat.le_of_ble_eq_true rfl, Nat.le_of_ble_eq_true rfl⟩) hS (fun q _ h => hFc q h) hFc (fun u0 t H locs ht hvm hw hB hz1 hk1 hS => ?_)
                  refine W.widen (k := 0) (n := 0) (Nat.le_of_ble_eq_true rfl) (Nat.le_of_ble_eq_true rfl) ?_
                  clear hvm hz1 hk1
                  obtain ⟨y_38, hgy_38, hf_39, hf_40, hf_41, hT⟩ := hB
                  rw [ht] at hT
                  have hG := hG.tr hgy_38 (by decide)
                  have hI := hI.ag hgy_38 (by decide)
                  obtain ⟨x_42, ex_42⟩ : ∃ y : Int32, y = i9 + Int32.ofInt 1 := ⟨_, rfl⟩
                  have hx_42 := z_add ex_42 rfl (zk (x := Int32.ofInt 1) 1 rfl) (by omega) (by omega)
                  refine lv_iinc (v := x_42) (lv' := [(9, .int x_42), (14, .int x_27), (13, .int r_25), (12, .int r_24), (11, .ref q_21), (10, .int (y_L62 (a 41) i9.toNatClampNeg)), (0, .ref (a 6)), (1, .int p0), (2, .int p1), (3, .int p2), (4, .int p3), (5, .int p4), (6, .int p5), (7, .int p6), (8, .int (y_9 (a 42) p0.toNatClampNeg))]) hx hb dX7_goOn_214 hl (k := 14) rfl ex_42.symm (by decide) rfl (fun ls hl => ?_)
                  refine lv_goto (tgt := 62) hx hb dX7_goOn_217 (by decide) ?_
                  exact ih_62  x_42 y_38 H _ ls (by omega) hG hI (by omega) (by omega) (by omega) (by omega) (by omega) hT hS (lv_sub hl [6, 7, 8, 9, 10, 11, 12, 13, 14, 0] rfl)
                · have nc_33 := z_nle rfl (zk (x := 0) 0 rfl) c_33
                  refine lv_iconst (v := 1) hx hb dX7_goOn_196 (by decide) ?_
                  refine lv_goto (tgt := 201) hx hb dX7_goOn_197 (by decide) ?_
                  refine lv_iadd hx hb dX7_goOn_201 ?_
                  refine lv_topi (fun x_43 ex_43 => ?_)
                  refine lv_iload hx hb dX7_goOn_202 (lv_at hl 11 rfl) ?_
                  refine lv_iload hx hb dX7_goOn_204 (lv_at hl 0 rfl) ?_
                  refine lv_iadd hx hb dX7_goOn_206 ?_
                  refine lv_topi (fun x_44 ex_44 => ?_)
                  refine lv_iload hx hb dX7_goOn_207 (lv_at hl 12 rfl) ?_
                  refine lv_iconst (v := 1) hx hb dX7_goOn_209 (by decide) ?_
                  refine lv_iadd hx hb dX7_goOn_210 ?_
                  refine lv_topi (fun x_45 ex_45 => ?_)
                  have hx_45 := z_add ex_45 rfl (zk (x := 1) 1 rfl) (by omega) (by omega)
                  have hFc := tw_free hF hS hA
                  refine va_callv (va_runV (As := [.int p0, .int x_31, .int r_25, .int x_32, .int x_43, .int x_44, .int x_45]) (rest := []) ⟨hx, hb, hml, hown, hts⟩ (c_goOn2 l dC dI ad av H.size a k τ ln y_28 g u p0 x_31 r_25 x_32 x_43 x_44 x_45 nP nH hI (by omega) (by omega) gn (by rw [hG.at (fx_41 hX) (by decide)]; exact gp) (by rw [hG.at (fx_42 hX) (by decide)]; exact gh) (by omega) (by omega) (by omega)) (cwV 7 hts (gi_4 (List.mem_cons_of_mem _ (List.mem_append_left _ (List.mem_of_getElem? (i := 36) rfl))) (List.mem_cons_of_mem _ (List.mem_append_left _ (List.mem_of_getElem? (i := 37) rfl))) (List.mem_cons_of_mem _ (List.mem_append_left _ (List.mem_of_getElem? (i := 38) rfl))) (List.mem_cons_of_mem _ (List.mem_append_left _ (List.mem_of_getElem? (i := 4) rfl))) (fun _ hh => (List.mem_cons_of_mem _ (List.mem_append_right _ (List.mem_append_right _ (List.mem_append_right _ (List.mem_append_right _ (List.mem_append_right _ (List.mem_append_right _ (List.mem_append_right _ (List.mem_append_right _ (List.mem_append_right _ (List.mem_append_right _ (List.mem_append_left _ hh))))))))))))) gd_c_goOn2) rfl rfl rfl (by decide +kernel) ⟨Nat.le_of_ble_eq_true rfl, Nat.le_of_ble_eq_true rfl⟩) ⟨pw_blind, tw_recv hK hT (fx_6 hX) (by decide) cl_e16 rfl, pw_use hT hK hFc hS hM⟩ rfl rfl hl.1 rfl (lv_room (Nat.le_of_ble_eq_true rfl)) dX7_goOn_211 ⟨Nat.le_of_ble_eq_true rfl, Nat.le_of_ble_eq_true rfl⟩) hS (fun q _ h => hFc q h) hFc (fun u0 t H locs ht hvm hw hB hz1 hk1 hS => ?_)
                  refine W.widen (k := 0) (n := 0) (Nat.le_of_ble_eq_true rfl) (Nat.le_of_ble_eq_true rfl) ?_
                  clear hvm hz1 hk1
                  obtain ⟨y_47, hgy_47, hf_48, hf_49, hf_50, hT⟩ := hB
                  rw [ht] at hT
                  have hG := hG.tr hgy_47 (by decide)
                  have hI := hI.ag hgy_47 (by decide)
                  obtain ⟨x_51, ex_51⟩ : ∃ y : Int32, y = i9 + Int32.ofInt 1 := ⟨_, rfl⟩
                  have hx_51 := z_add ex_51 rfl (zk (x := Int32.ofInt 1) 1 rfl) (by omega) (by omega)
                  refine lv_iinc (v := x_51) (lv' := [(9, .int x_51), (14, .int x_27), (13, .int r_25), (12, .int r_24), (11, .ref q_21), (10, .int (y_L62 (a 41) i9.toNatClampNeg)), (0, .ref (a 6)), (1, .int p0), (2, .int p1), (3, .int p2), (4, .int p3), (5, .int p4), (6, .int p5), (7, .int p6), (8, .int (y_9 (a 42) p0.toNatClampNeg))]) hx hb dX7_goOn_214 hl (k := 14) rfl ex_51.symm (by decide) rfl (fun ls hl => ?_)
                  refine lv_goto (tgt := 62) hx hb dX7_goOn_217 (by decide) ?_
                  exact ih_62  x_51 y_47 H _ ls (by omega) hG hI (by omega) (by omega) (by omega) (by omega) (by omega) hT hS (lv_sub hl [6, 7, 8, 9, 10, 11, 12, 13, 14, 0] rfl)
        have hp_52 : (0 : Int32).toInt = 0 := (zk (x := 0) 0 rfl)
        exact loop_62 _ (0 : Int32) y_9 H _ ls (Nat.lt_succ_self _) hG hI (by omega) (by omega) (by omega) (by omega) (by omega) hT hS (lv_sub hl [2, 3, 4, 5, 6, 7, 8, 9, 1, 0] rfl)
      · refine lq_top (v := 0) hre ?_
        rw [ht] at hT
        refine lv_if_ne (tgt := 27) hx hb dX7_goOn_23 (by decide) (fun c_53 => absurd c_53 (by decide)) (fun c_53 => ?_)
        exact W.vret hx hb hr (fun t ht hW9 => ⟨⟨(), rfl, trivial, ⟨y, hG, by omega, by omega, by omega, tw_at ht hT⟩⟩, hS.F ht⟩) hS.2.2 dX7_goOn_26
def wo_c_beginHand1 : List Cond := [.fieldLink RX7 78 "TypingPool$Planner" "handCount" "I", .fieldLink RX7 15 "TypingPool$Planner" "hands" "[I", .fieldLink RX7 31 "TypingPool$Planner" "floor" "LTypingPool$Floor;", .fieldLink RX7 92 "TypingPool$Floor" "now" "I", .fieldLink RX7 95 "TypingPool$Floor" "words" "[I", .fieldLink RX7 98 "TypingPool$Floor" "has" "[I", .fieldLink RX7 27 "TypingPool$Planner" "book" "LTypingPool$Book;", .methodLink RX7 67 yX1_hasPiece, .instanceMethod yX1_hasPiece, .selects RX1 yX1_hasPiece yX1_hasPiece, .initialized RX1, .fieldLink RX7 101 "TypingPool$Floor" "workLeft" "[I", .fieldLink RX7 104 "TypingPool$Floor" "rate" "[I", .initialized RX11, .static yX11_minutesFor, .methodLink RX7 111 yX1_minuteAfterWork, .instanceMethod yX1_minuteAfterWork, .selects RX1 yX1_minuteAfterWork yX1_minuteAfterWork, .fieldLink RX7 115 "TypingPool$Book" "pieces" "[LTypingPool$Piece;", .fieldLink RX7 118 "TypingPool$Piece" "words" "I", .methodLink RX7 122 yX7_goOn, .instanceMethod yX7_goOn, .selects RX7 yX7_goOn yX7_goOn, .initialized RX7, .methodLink RX7 88 yX7_keep, .instanceMethod yX7_keep, .selects RX7 yX7_keep yX7_keep]
def wm_c_beginHand1 : List Cond := .code yX7_beginHand cX7_beginHand 11 none :: (wo_c_beginHand1 ++ (wsX70 ++ (wsX30 ++ (wm_c_hasPiece ++ (wm_c_minutesFor ++ (wm_c_minuteAfterWork ++ (wsX10 ++ (wsX60 ++ (wm_c_goOn1 ++ (wm_c_keep ++ ([] : List Cond)))))))))))
theorem gd_c_beginHand1 : ∀ w ∈ wm_c_beginHand1, goodWord w = true := gd_c rfl (gd_a (by decide) (gd_a gd_wsX70 (gd_a gd_wsX30 (gd_a gd_c_hasPiece (gd_a gd_c_minutesFor (gd_a gd_c_minuteAfterWork (gd_a gd_wsX10 (gd_a gd_wsX60 (gd_a gd_c_goOn1 (gd_a gd_c_keep gd_nil))))))))))
set_option maxRecDepth 20000 in
theorem im_c_beginHand1 : ∀ w ∈ wm_c_beginHand1, w ∈ lw_tbl := im_c (in_r [.code yX7_beginHand cX7_beginHand 11 none] [1042] (by decide +kernel)) (in_app (in_r wo_c_beginHand1 [520, 519, 516, 430, 438, 432, 515, 1027, 841, 842, 71, 450, 435, 70, 845, 1053, 1054, 1055, 128, 687, 1057, 1059, 24, 85, 1043, 1045, 22] (by decide +kernel)) (in_app im_wsX70 (in_app im_wsX30 (in_app im_c_hasPiece (in_app im_c_minutesFor (in_app im_c_minuteAfterWork (in_app im_wsX10 (in_app im_wsX60 (in_app im_c_goOn1 (in_app im_c_keep im_nil))))))))))
set_option maxHeartbeats 4000000 in
set_option maxRecDepth 100000 in
theorem c_beginHand1 (l : Launch) (dC : Nat → ClassId) (dI : Nat → Nat → Nat) (ad av : Nat → Nat) (sz : Nat) (a : Nat → Nat) (k : Nat → ClassId) (τ ln : Nat → Nat) (y : Nat → Nat → Int32) (g : Nat → Nat → Option Nat) (u : Nat → Int) (p0 : Int32) (p1 : Int32) (p2 : Int32) (p3 : Int32) (p4 : Int32) (nP : Int) (nH : Int) (hI : IC a u τ ln y g) (g3 : (y (a 6) 3).toInt = nP) (g5 : (y (a 6) 5).toInt = nH) (gn : (0 ≤ nP ∧ nP ≤ 5) ∧ 0 ≤ nH ∧ nH ≤ 3) (gp : vl nP (u 2) (y (a 41))) (gh : vl nH (u 1) (y (a 42))) (g9 : 0 ≤ (y (a 6) 9).toInt ∧ (y (a 6) 9).toInt ≤ 8) (hp0 : 0 ≤ p0.toInt) (hlen : p4.toInt = 1) : Met l yX7_beginHand wm_c_beginHand1 ({ frames := 17, cells := 0, slots := 0, locals := 1020 }) (pw_ ad av (dC, dI) sz [.ref (a 6), .int p0, .int p1, .int p2, .int p3, .int p4] a k τ ln y g) (va_Qv (fun (_ : Unit) => True) (fun (_ : Unit) (t : State) => (∃ (y' : Nat → Nat → Int32), ag τ [16, 54, 55] y y' ∧ (y' (a 6) 3).toInt = (y (a 6) 3).toInt ∧ (y' (a 6) 5).toInt = (y (a 6) 5).toInt ∧ (0 ≤ (y' (a 6) 9).toInt ∧ (y' (a 6) 9).toInt ≤ 8) ∧ tw (dC, dI) a k τ ln y' g t.heap)) (fr τ sz)) 0 0 (fr τ sz) := by
  refine Met.ofW (cc := cX7_beginHand) (maxL := 11) (ret := none) (by decide) rfl ?_
  intro p e s m args below meth c s₁ B hml hv
  obtain ⟨rfl, hsz, hT, hK, hM⟩ := hv
  have hx := B.exec
  have hb := B.bytes
  have hr := B.returns
  have hts := atoms_spec (ws := wm_c_beginHand1) B.pre
  have hown : s.vm.findClass RX7 = some m.cls := findClass_of_methodNamed B.named
  have hlocks := B.notSynchronized
  subst hsz
  generalize hAe : fr τ s.heap.size = A at hM ⊢
  have hA : ∀ q : Nat, s.heap.size ≤ q → A q := fun q h => by rw [← hAe]; exact Or.inr h
  have hF : ∀ q, τ q ≠ 0 → A q := fun q h => by rw [← hAe]; exact Or.inl h
  have hS : va_S A s.heap s.heap [] := va_S.rf
  have hX := hI.1
  have hR := ic_r hI
  have hG : ag τ [16, 54, 55] y y := ag.rf
  have hl := lv_entry ([.ref (a 6), .int p0, .int p1, .int p2, .int p3, .int p4]) (n := 11) (Nat.le_of_ble_eq_true rfl)
  rw [lg_entry_eq]
  generalize (lg_sl ([.ref (a 6), .int p0, .int p1, .int p2, .int p3, .int p4]) ++ List.replicate (11 - (lg_sl ([.ref (a 6), .int p0, .int p1, .int p2, .int p3, .int p4])).length) Slot.unset).toArray = ls at hl ⊢
  have hl : lv_has ls 11 [(0, .ref (a 6)), (1, .int p0), (2, .int p1), (3, .int p2), (4, .int p3), (5, .int p4)] := hl
  refine lv_iload_n hx hb dX7_beginHand_0 rfl (lv_at hl 1 rfl) ?_
  refine lv_aload_n hx hb dX7_beginHand_1 rfl (lv_at hl 0 rfl) ?_
  refine tw_get (D := (dC, dI)) (v := .int (y (a 6) 5)) (C := RX7) (T := TX7) (N := 13) hx hb hts (fun _ hh => (List.mem_cons_of_mem _ (List.mem_append_right _ (List.mem_append_left _ hh)))) hown hK hT (fx_6 hX) (by decide) cl_e16 rfl 5 (by decide) (hts (.fieldLink RX7 78 "TypingPool$Planner" "handCount" "I") (List.mem_cons_of_mem _ (List.mem_append_left _ (List.mem_of_getElem? (i := 0) rfl)))) (fun _ h9 => h9) rfl dX7_beginHand_2 ?_
  refine lv_icmp_lt (tgt := 22) hx hb dX7_beginHand_5 (by decide) (fun c_1 => ?_) (fun c_1 => ?_)
  · have nc_1 := z_lt rfl rfl c_1
    refine lv_aload_n hx hb dX7_beginHand_22 rfl (lv_at hl 0 rfl) ?_
    refine tw_get (D := (dC, dI)) (v := .ref (a 42)) (C := RX7) (T := TX7) (N := 13) hx hb hts (fun _ hh => (List.mem_cons_of_mem _ (List.mem_append_right _ (List.mem_append_left _ hh)))) hown hK hT (fx_6 hX) (by decide) cl_e16 rfl 4 (by decide) (hts (.fieldLink RX7 15 "TypingPool$Planner" "hands" "[I") (List.mem_cons_of_mem _ (List.mem_append_left _ (List.mem_of_getElem? (i := 1) rfl)))) (fun _ h9 => h9) rfl dX7_beginHand_23 ?_
    refine lv_iload_n hx hb dX7_beginHand_26 rfl (lv_at hl 1 rfl) ?_
    refine tw_iald hx hb hK hT 0 (fx_42 hX) (by decide) cl_e52 rfl (z_in rfl (by omega) (by omega)) dX7_beginHand_27 ?_
    have hv0 : vl nH (u 1) (y (a 42)) := gh
    have hv_2 := vl_at hv0 (x := p0) rfl (by omega) (by omega)
    refine lv_istore (lv' := [(6, .int (y (a 42) p0.toNatClampNeg)), (0, .ref (a 6)), (1, .int p0), (2, .int p1), (3, .int p2), (4, .int p3), (5, .int p4)]) hx hb dX7_beginHand_28 hl (by decide) rfl (fun ls hl => ?_)
    refine lv_aload_n hx hb dX7_beginHand_30 rfl (lv_at hl 1 rfl) ?_
    refine tw_get (D := (dC, dI)) (v := .ref (a 3)) (C := RX7) (T := TX7) (N := 13) hx hb hts (fun _ hh => (List.mem_cons_of_mem _ (List.mem_append_right _ (List.mem_append_left _ hh)))) hown hK hT (fx_6 hX) (by decide) cl_e16 rfl 1 (by decide) (hts (.fieldLink RX7 31 "TypingPool$Planner" "floor" "LTypingPool$Floor;") (List.mem_cons_of_mem _ (List.mem_append_left _ (List.mem_of_getElem? (i := 2) rfl)))) (fun _ h9 => h9) rfl dX7_beginHand_31 ?_
    refine tw_get (D := (dC, dI)) (v := .int (y (a 3) 2)) (C := RX3) (T := TX3) (N := 12) hx hb hts (fun _ hh => (List.mem_cons_of_mem _ (List.mem_append_right _ (List.mem_append_right _ (List.mem_append_left _ hh))))) hown hK hT (fx_3 hX) (by decide) cl_e13 rfl 2 (by decide) (hts (.fieldLink RX7 92 "TypingPool$Floor" "now" "I") (List.mem_cons_of_mem _ (List.mem_append_left _ (List.mem_of_getElem? (i := 3) rfl)))) (fun _ h9 => h9) rfl dX7_beginHand_34 ?_
    refine lv_istore (lv' := [(7, .int (y (a 3) 2)), (6, .int (y (a 42) p0.toNatClampNeg)), (0, .ref (a 6)), (1, .int p0), (2, .int p1), (3, .int p2), (4, .int p3), (5, .int p4)]) hx hb dX7_beginHand_37 hl (by decide) rfl (fun ls hl => ?_)
    refine lv_aload_n hx hb dX7_beginHand_39 rfl (lv_at hl 2 rfl) ?_
    refine tw_get (D := (dC, dI)) (v := .ref (a 3)) (C := RX7) (T := TX7) (N := 13) hx hb hts (fun _ hh => (List.mem_cons_of_mem _ (List.mem_append_right _ (List.mem_append_left _ hh)))) hown hK hT (fx_6 hX) (by decide) cl_e16 rfl 1 (by decide) (hts (.fieldLink RX7 31 "TypingPool$Planner" "floor" "LTypingPool$Floor;") (List.mem_cons_of_mem _ (List.mem_append_left _ (List.mem_of_getElem? (i := 2) rfl)))) (fun _ h9 => h9) rfl dX7_beginHand_40 ?_
    refine tw_get (D := (dC, dI)) (v := .ref (a 22)) (C := RX3) (T := TX3) (N := 12) hx hb hts (fun _ hh => (List.mem_cons_of_mem _ (List.mem_append_right _ (List.mem_append_right _ (List.mem_append_left _ hh))))) hown hK hT (fx_3 hX) (by decide) cl_e13 rfl 5 (by decide) (hts (.fieldLink RX7 95 "TypingPool$Floor" "words" "[I") (List.mem_cons_of_mem _ (List.mem_append_left _ (List.mem_of_getElem? (i := 4) rfl)))) (fun _ h9 => h9) rfl dX7_beginHand_43 ?_
    refine lv_iload hx hb dX7_beginHand_46 (lv_at hl 1 rfl) ?_
    refine tw_iald hx hb hK hT 0 (fx_22 hX) (by decide) cl_e32 rfl (z_in rfl (by omega) (by omega)) dX7_beginHand_48 ?_
    refine lv_istore (lv' := [(8, .int (y (a 22) (y (a 42) p0.toNatClampNeg).toNatClampNeg)), (7, .int (y (a 3) 2)), (6, .int (y (a 42) p0.toNatClampNeg)), (0, .ref (a 6)), (1, .int p0), (2, .int p1), (3, .int p2), (4, .int p3), (5, .int p4)]) hx hb dX7_beginHand_49 hl (by decide) rfl (fun ls hl => ?_)
    refine lv_aload_n hx hb dX7_beginHand_51 rfl (lv_at hl 3 rfl) ?_
    refine tw_get (D := (dC, dI)) (v := .ref (a 3)) (C := RX7) (T := TX7) (N := 13) hx hb hts (fun _ hh => (List.mem_cons_of_mem _ (List.mem_append_right _ (List.mem_append_left _ hh)))) hown hK hT (fx_6 hX) (by decide) cl_e16 rfl 1 (by decide) (hts (.fieldLink RX7 31 "TypingPool$Planner" "floor" "LTypingPool$Floor;") (List.mem_cons_of_mem _ (List.mem_append_left _ (List.mem_of_getElem? (i := 2) rfl)))) (fun _ h9 => h9) rfl dX7_beginHand_52 ?_
    refine tw_get (D := (dC, dI)) (v := .ref (a 20)) (C := RX3) (T := TX3) (N := 12) hx hb hts (fun _ hh => (List.mem_cons_of_mem _ (List.mem_append_right _ (List.mem_append_right _ (List.mem_append_left _ hh))))) hown hK hT (fx_3 hX) (by decide) cl_e13 rfl 3 (by decide) (hts (.fieldLink RX7 98 "TypingPool$Floor" "has" "[I") (List.mem_cons_of_mem _ (List.mem_append_left _ (List.mem_of_getElem? (i := 5) rfl)))) (fun _ h9 => h9) rfl dX7_beginHand_55 ?_
    refine lv_iload hx hb dX7_beginHand_58 (lv_at hl 2 rfl) ?_
    refine tw_iald hx hb hK hT 0 (fx_20 hX) (by decide) cl_e30 rfl (z_in rfl (by omega) (by omega)) dX7_beginHand_60 ?_
    refine lv_istore (lv' := [(9, .int (y (a 20) (y (a 42) p0.toNatClampNeg).toNatClampNeg)), (8, .int (y (a 22) (y (a 42) p0.toNatClampNeg).toNatClampNeg)), (7, .int (y (a 3) 2)), (6, .int (y (a 42) p0.toNatClampNeg)), (0, .ref (a 6)), (1, .int p0), (2, .int p1), (3, .int p2), (4, .int p3), (5, .int p4)]) hx hb dX7_beginHand_61 hl (by decide) rfl (fun ls hl => ?_)
    refine lv_aload_n hx hb dX7_beginHand_63 rfl (lv_at hl 4 rfl) ?_
    refine tw_get (D := (dC, dI)) (v := .ref (a 1)) (C := RX7) (T := TX7) (N := 13) hx hb hts (fun _ hh => (List.mem_cons_of_mem _ (List.mem_append_right _ (List.mem_append_left _ hh)))) hown hK hT (fx_6 hX) (by decide) cl_e16 rfl 0 (by decide) (hts (.fieldLink RX7 27 "TypingPool$Planner" "book" "LTypingPool$Book;") (List.mem_cons_of_mem _ (List.mem_append_left _ (List.mem_of_getElem? (i := 6) rfl)))) (fun _ h9 => h9) rfl dX7_beginHand_64 ?_
    refine lv_iload hx hb dX7_beginHand_67 (lv_at hl 0 rfl) ?_
    have hFc := tw_free hF hS hA
    refine va_calli (va_runV (As := [.int (y (a 20) (y (a 42) p0.toNatClampNeg).toNatClampNeg)]) (rest := []) ⟨hx, hb, hml, hown, hts⟩ (c_hasPiece l dC dI ad av s.heap.size a k τ ln y g u (y (a 20) (y (a 42) p0.toNatClampNeg).toNatClampNeg) hI ) (cwV 1 hts (gi_4 (List.mem_cons_of_mem _ (List.mem_append_left _ (List.mem_of_getElem? (i := 7) rfl))) (List.mem_cons_of_mem _ (List.mem_append_left _ (List.mem_of_getElem? (i := 8) rfl))) (List.mem_cons_of_mem _ (List.mem_append_left _ (List.mem_of_getElem? (i := 9) rfl))) (List.mem_cons_of_mem _ (List.mem_append_left _ (List.mem_of_getElem? (i := 10) rfl))) (fun _ hh => (List.mem_cons_of_mem _ (List.mem_append_right _ (List.mem_append_right _ (List.mem_append_right _ (List.mem_append_left _ hh)))))) gd_c_hasPiece) rfl rfl rfl (by decide +kernel) ⟨Nat.le_of_ble_eq_true rfl, Nat.le_of_ble_eq_true rfl⟩) ⟨pw_blind, tw_recv hK hT (fx_1 hX) (by decide) cl_e11 rfl, pw_use hT hK hFc hS hM⟩ rfl rfl hl.1 rfl (lv_room (Nat.le_of_ble_eq_true rfl)) dX7_beginHand_69 ⟨Nat.le_of_ble_eq_true rfl, Nat.le_of_ble_eq_true rfl⟩) hS (fun q _ h => hFc q h) hFc (fun r0 r_3 t H locs ht hvm hw hB hz1 hk1 hS => ?_)
    refine W.widen (k := 0) (n := 0) (Nat.le_of_ble_eq_true rfl) (Nat.le_of_ble_eq_true rfl) ?_
    clear hvm hz1 hk1
    subst hw
    rcases hB with ⟨hre, hf_4, hf_5, hT⟩ | ⟨hre, hf_6, hT⟩
    · refine lq_top (v := 1) hre ?_
      rw [ht] at hT
      refine lv_if_eq (tgt := 133) hx hb dX7_beginHand_72 (by decide) (fun c_7 => absurd c_7 (by decide)) (fun c_7 => ?_)
      refine lv_aload_n hx hb dX7_beginHand_75 rfl (lv_at hl 4 rfl) ?_
      refine tw_get (D := (dC, dI)) (v := .ref (a 3)) (C := RX7) (T := TX7) (N := 13) hx hb hts (fun _ hh => (List.mem_cons_of_mem _ (List.mem_append_right _ (List.mem_append_left _ hh)))) hown hK hT (fx_6 hX) (by decide) cl_e16 rfl 1 (by decide) (hts (.fieldLink RX7 31 "TypingPool$Planner" "floor" "LTypingPool$Floor;") (List.mem_cons_of_mem _ (List.mem_append_left _ (List.mem_of_getElem? (i := 2) rfl)))) (fun _ h9 => h9) rfl dX7_beginHand_76 ?_
      refine tw_get (D := (dC, dI)) (v := .ref (a 27)) (C := RX3) (T := TX3) (N := 12) hx hb hts (fun _ hh => (List.mem_cons_of_mem _ (List.mem_append_right _ (List.mem_append_right _ (List.mem_append_left _ hh))))) hown hK hT (fx_3 hX) (by decide) cl_e13 rfl 10 (by decide) (hts (.fieldLink RX7 101 "TypingPool$Floor" "workLeft" "[I") (List.mem_cons_of_mem _ (List.mem_append_left _ (List.mem_of_getElem? (i := 11) rfl)))) (fun _ h9 => h9) rfl dX7_beginHand_79 ?_
      refine lv_iload hx hb dX7_beginHand_82 (lv_at hl 0 rfl) ?_
      refine tw_iald hx hb hK hT 0 (fx_27 hX) (by decide) cl_e37 rfl (z_in rfl (by omega) (by omega)) dX7_beginHand_84 ?_
      refine lv_aload_n hx hb dX7_beginHand_85 rfl (lv_at hl 4 rfl) ?_
      refine tw_get (D := (dC, dI)) (v := .ref (a 3)) (C := RX7) (T := TX7) (N := 13) hx hb hts (fun _ hh => (List.mem_cons_of_mem _ (List.mem_append_right _ (List.mem_append_left _ hh)))) hown hK hT (fx_6 hX) (by decide) cl_e16 rfl 1 (by decide) (hts (.fieldLink RX7 31 "TypingPool$Planner" "floor" "LTypingPool$Floor;") (List.mem_cons_of_mem _ (List.mem_append_left _ (List.mem_of_getElem? (i := 2) rfl)))) (fun _ h9 => h9) rfl dX7_beginHand_86 ?_
      refine tw_get (D := (dC, dI)) (v := .ref (a 21)) (C := RX3) (T := TX3) (N := 12) hx hb hts (fun _ hh => (List.mem_cons_of_mem _ (List.mem_append_right _ (List.mem_append_right _ (List.mem_append_left _ hh))))) hown hK hT (fx_3 hX) (by decide) cl_e13 rfl 4 (by decide) (hts (.fieldLink RX7 104 "TypingPool$Floor" "rate" "[I") (List.mem_cons_of_mem _ (List.mem_append_left _ (List.mem_of_getElem? (i := 12) rfl)))) (fun _ h9 => h9) rfl dX7_beginHand_89 ?_
      refine lv_iload hx hb dX7_beginHand_92 (lv_at hl 3 rfl) ?_
      refine tw_iald hx hb hK hT 0 (fx_21 hX) (by decide) cl_e31 rfl (z_in rfl (by omega) (by omega)) dX7_beginHand_94 ?_
      have hFc := tw_free hF hS hA
      refine va_calli (va_runSN (As := [.int (y (a 27) (y (a 20) (y (a 42) p0.toNatClampNeg).toNatClampNeg).toNatClampNeg), .int (y (a 21) (y (a 42) p0.toNatClampNeg).toNatClampNeg)]) (rest := []) ⟨hx, hb, hml, hown, hts⟩ (c_minutesFor l dC dI ad av H.size a k τ ln y g u (y (a 27) (y (a 20) (y (a 42) p0.toNatClampNeg).toNatClampNeg).toNatClampNeg) (y (a 21) (y (a 42) p0.toNatClampNeg).toNatClampNeg)  ) ⟨va_cnB 2 hts (gi_0  (fun _ hh => (List.mem_cons_of_mem _ (List.mem_append_right _ (List.mem_append_right _ (List.mem_append_right _ (List.mem_append_right _ (List.mem_append_left _ hh))))))) gd_c_minutesFor) rfl rfl rfl hM.1.2.2.2.1 (hts (.initialized RX11) (List.mem_cons_of_mem _ (List.mem_append_left _ (List.mem_of_getElem? (i := 13) rfl)))) (by decide +kernel) ⟨Nat.le_of_ble_eq_true rfl, Nat.le_of_ble_eq_true rfl⟩, (hts (.static yX11_minutesFor) (List.mem_cons_of_mem _ (List.mem_append_left _ (List.mem_of_getElem? (i := 14) rfl)))), trivial⟩ ⟨pw_blind, pw_use hT hK hFc hS hM⟩ rfl rfl hl.1 rfl (lv_room (Nat.le_of_ble_eq_true rfl)) dX7_beginHand_95 ⟨Nat.le_of_ble_eq_true rfl, Nat.le_of_ble_eq_true rfl⟩) hS (fun q _ h => hFc q h) hFc (fun r0 r_8 t H locs ht hvm hw hB hz1 hk1 hS => ?_)
      refine W.widen (k := 0) (n := 0) (Nat.le_of_ble_eq_true rfl) (Nat.le_of_ble_eq_true rfl) ?_
      clear hvm hz1 hk1
      subst hw
      have hT := hB
      rw [ht] at hT
      refine lv_istore (lv' := [(10, .int r_8), (9, .int (y (a 20) (y (a 42) p0.toNatClampNeg).toNatClampNeg)), (8, .int (y (a 22) (y (a 42) p0.toNatClampNeg).toNatClampNeg)), (7, .int (y (a 3) 2)), (6, .int (y (a 42) p0.toNatClampNeg)), (0, .ref (a 6)), (1, .int p0), (2, .int p1), (3, .int p2), (4, .int p3), (5, .int p4)]) hx hb dX7_beginHand_98 hl (by decide) rfl (fun ls hl => ?_)
      refine lv_aload_n hx hb dX7_beginHand_100 rfl (lv_at hl 5 rfl) ?_
      refine tw_get (D := (dC, dI)) (v := .ref (a 1)) (C := RX7) (T := TX7) (N := 13) hx hb hts (fun _ hh => (List.mem_cons_of_mem _ (List.mem_append_right _ (List.mem_append_left _ hh)))) hown hK hT (fx_6 hX) (by decide) cl_e16 rfl 0 (by decide) (hts (.fieldLink RX7 27 "TypingPool$Planner" "book" "LTypingPool$Book;") (List.mem_cons_of_mem _ (List.mem_append_left _ (List.mem_of_getElem? (i := 6) rfl)))) (fun _ h9 => h9) rfl dX7_beginHand_101 ?_
      refine lv_iload hx hb dX7_beginHand_104 (lv_at hl 4 rfl) ?_
      refine lv_iload hx hb dX7_beginHand_106 (lv_at hl 3 rfl) ?_
      refine lv_iload hx hb dX7_beginHand_108 (lv_at hl 0 rfl) ?_
      have hFc := tw_free hF hS hA
      refine va_calli (va_runV (As := [.int (y (a 42) p0.toNatClampNeg), .int (y (a 3) 2), .int r_8]) (rest := []) ⟨hx, hb, hml, hown, hts⟩ (c_minuteAfterWork l dC dI ad av H.size a k τ ln y g u (y (a 42) p0.toNatClampNeg) (y (a 3) 2) r_8 hI ) (cwV 3 hts (gi_4 (List.mem_cons_of_mem _ (List.mem_append_left _ (List.mem_of_getElem? (i := 15) rfl))) (List.mem_cons_of_mem _ (List.mem_append_left _ (List.mem_of_getElem? (i := 16) rfl))) (List.mem_cons_of_mem _ (List.mem_append_left _ (List.mem_of_getElem? (i := 17) rfl))) (List.mem_cons_of_mem _ (List.mem_append_left _ (List.mem_of_getElem? (i := 10) rfl))) (fun _ hh => (List.mem_cons_of_mem _ (List.mem_append_right _ (List.mem_append_right _ (List.mem_append_right _ (List.mem_append_right _ (List.mem_append_right _ (List.mem_append_left _ hh)))))))) gd_c_minuteAfterWork) rfl rfl rfl (by decide +kernel) ⟨Nat.le_of_ble_eq_true rfl, Nat.le_of_ble_eq_true rfl⟩) ⟨pw_blind, tw_recv hK hT (fx_1 hX) (by decide) cl_e11 rfl, pw_use hT hK hFc hS hM⟩ rfl rfl hl.1 rfl (lv_room (Nat.le_of_ble_eq_true rfl)) dX7_beginHand_110 ⟨Nat.le_of_ble_eq_true rfl, Nat.le_of_ble_eq_true rfl⟩) hS (fun q _ h => hFc q h) hFc (fun r0 r_9 t H locs ht hvm hw hB hz1 hk1 hS => ?_)
      refine W.widen (k := 0) (n := 0) (Nat.le_of_ble_eq_true rfl) (Nat.le_of_ble_eq_true rfl) ?_
      clear hvm hz1 hk1
      subst hw
      have hT := hB
      rw [ht] at hT
      refine lv_istore (lv' := [(7, .int r_9), (10, .int r_8), (9, .int (y (a 20) (y (a 42) p0.toNatClampNeg).toNatClampNeg)), (8, .int (y (a 22) (y (a 42) p0.toNatClampNeg).toNatClampNeg)), (6, .int (y (a 42) p0.toNatClampNeg)), (0, .ref (a 6)), (1, .int p0), (2, .int p1), (3, .int p2), (4, .int p3), (5, .int p4)]) hx hb dX7_beginHand_113 hl (by decide) rfl (fun ls hl => ?_)
      refine lv_iload hx hb dX7_beginHand_115 (lv_at hl 3 rfl) ?_
      refine lv_aload_n hx hb dX7_beginHand_117 rfl (lv_at hl 5 rfl) ?_
      refine tw_get (D := (dC, dI)) (v := .ref (a 1)) (C := RX7) (T := TX7) (N := 13) hx hb hts (fun _ hh => (List.mem_cons_of_mem _ (List.mem_append_right _ (List.mem_append_left _ hh)))) hown hK hT (fx_6 hX) (by decide) cl_e16 rfl 0 (by decide) (hts (.fieldLink RX7 27 "TypingPool$Planner" "book" "LTypingPool$Book;") (List.mem_cons_of_mem _ (List.mem_append_left _ (List.mem_of_getElem? (i := 6) rfl)))) (fun _ h9 => h9) rfl dX7_beginHand_118 ?_
      refine tw_get (D := (dC, dI)) (v := .ref (a 11)) (C := RX1) (T := TX1) (N := 8) hx hb hts (fun _ hh => (List.mem_cons_of_mem _ (List.mem_append_right _ (List.mem_append_right _ (List.mem_append_right _ (List.mem_append_right _ (List.mem_append_right _ (List.mem_append_right _ (List.mem_append_left _ hh))))))))) hown hK hT (fx_1 hX) (by decide) cl_e11 rfl 4 (by decide) (hts (.fieldLink RX7 115 "TypingPool$Book" "pieces" "[LTypingPool$Piece;") (List.mem_cons_of_mem _ (List.mem_append_left _ (List.mem_of_getElem? (i := 18) rfl)))) (fun _ h9 => h9) rfl dX7_beginHand_121 ?_
      refine lv_iload hx hb dX7_beginHand_124 (lv_at hl 2 rfl) ?_
      refine tw_aald hx hb hK hT 4 (fx_11 hX) (by decide) cl_e21 rfl (z_in rfl (by omega) (by omega)) dX7_beginHand_126 ?_
      obtain ⟨q_10, hgq_10, htq_10⟩ := ic_l11 hI (x := (y (a 20) (y (a 42) p0.toNatClampNeg).toNatClampNeg)) rfl (by omega) (by omega)
      refine lq_topr hgq_10 ?_
      refine tw_get (D := (dC, dI)) (v := .int (y q_10 7)) (C := RX6) (T := TX6) (N := 11) hx hb hts (fun _ hh => (List.mem_cons_of_mem _ (List.mem_append_right _ (List.mem_append_right _ (List.mem_append_right _ (List.mem_append_right _ (List.mem_append_right _ (List.mem_append_right _ (List.mem_append_right _ (List.mem_append_left _ hh)))))))))) hown hK hT htq_10 (by decide) cl_e2 rfl 7 (by decide) (hts (.fieldLink RX7 118 "TypingPool$Piece" "words" "I") (List.mem_cons_of_mem _ (List.mem_append_left _ (List.mem_of_getElem? (i := 19) rfl)))) (fun _ h9 => h9) rfl dX7_beginHand_127 ?_
      refine lv_ior hx hb dX7_beginHand_130 ?_
      refine lv_topi (fun x_11 ex_11 => ?_)
      refine lv_istore (lv' := [(8, .int x_11), (7, .int r_9), (10, .int r_8), (9, .int (y (a 20) (y (a 42) p0.toNatClampNeg).toNatClampNeg)), (6, .int (y (a 42) p0.toNatClampNeg)), (0, .ref (a 6)), (1, .int p0), (2, .int p1), (3, .int p2), (4, .int p3), (5, .int p4)]) hx hb dX7_beginHand_131 hl (by decide) rfl (fun ls hl => ?_)
      refine lv_aload_n hx hb dX7_beginHand_133 rfl (lv_at hl 5 rfl) ?_
      refine lv_iload_n hx hb dX7_beginHand_134 rfl (lv_at hl 6 rfl) ?_
      refine lv_iload_n hx hb dX7_beginHand_135 rfl (lv_at hl 7 rfl) ?_
      refine lv_iload hx hb dX7_beginHand_136 (lv_at hl 1 rfl) ?_
      refine lv_iload hx hb dX7_beginHand_138 (lv_at hl 0 rfl) ?_
      refine lv_iload_n hx hb dX7_beginHand_140 rfl (lv_at hl 8 rfl) ?_
      refine lv_iload hx hb dX7_beginHand_141 (lv_at hl 9 rfl) ?_
      refine lv_iload hx hb dX7_beginHand_143 (lv_at hl 10 rfl) ?_
      have hFc := tw_free hF hS hA
      refine va_callv (va_runV (As := [.int p0, .int p1, .int r_9, .int x_11, .int p2, .int p3, .int p4]) (rest := []) ⟨hx, hb, hml, hown, hts⟩ (c_goOn1 l dC dI ad av H.size a k τ ln y g u p0 p1 r_9 x_11 p2 p3 p4 nP nH hI (by omega) (by omega) gn gp gh (by omega) (by omega) (by omega)) (cwV 7 hts (gi_4 (List.mem_cons_of_mem _ (List.mem_append_left _ (List.mem_of_getElem? (i := 20) rfl))) (List.mem_cons_of_mem _ (List.mem_append_left _ (List.mem_of_getElem? (i := 21) rfl))) (List.mem_cons_of_mem _ (List.mem_append_left _ (List.mem_of_getElem? (i := 22) rfl))) (List.mem_cons_of_mem _ (List.mem_append_left _ (List.mem_of_getElem? (i := 23) rfl))) (fun _ hh => (List.mem_cons_of_mem _ (List.mem_append_right _ (List.mem_append_right _ (List.mem_append_right _ (List.mem_append_right _ (List.mem_append_right _ (List.mem_append_right _ (List.mem_append_right _ (List.mem_append_right _ (List.mem_append_left _ hh))))))))))) gd_c_goOn1) rfl rfl rfl (by decide +kernel) ⟨Nat.le_of_ble_eq_true rfl, Nat.le_of_ble_eq_true rfl⟩) ⟨pw_blind, tw_recv hK hT (fx_6 hX) (by decide) cl_e16 rfl, pw_use hT hK hFc hS hM⟩ rfl rfl hl.1 rfl (lv_room (Nat.le_of_ble_eq_true rfl)) dX7_beginHand_145 ⟨Nat.le_of_ble_eq_true rfl, Nat.le_of_ble_eq_true rfl⟩) hS (fun q _ h => hFc q h) hFc (fun u0 t H locs ht hvm hw hB hz1 hk1 hS => ?_)
      refine W.widen (k := 0) (n := 0) (Nat.le_of_ble_eq_true rfl) (Nat.le_of_ble_eq_true rfl) ?_
      clear hvm hz1 hk1
      obtain ⟨y_13, hgy_13, hf_14, hf_15, hf_16, hT⟩ := hB
      rw [ht] at hT
      have hG := hG.tr hgy_13 (by decide)
      have hI := hI.ag hgy_13 (by decide)
      exact W.vret hx hb hr (fun t ht hW9 => ⟨⟨(), rfl, trivial, ⟨y_13, hG, by omega, by omega, by omega, tw_at ht hT⟩⟩, hS.F ht⟩) hS.2.2 dX7_beginHand_148
    · refine lq_top (v := 0) hre ?_
      rw [ht] at hT
      refine lv_if_eq (tgt := 133) hx hb dX7_beginHand_72 (by decide) (fun c_17 => ?_) (fun c_17 => absurd c_17 (by decide))
      refine lv_aload_n hx hb dX7_beginHand_133 rfl (lv_at hl 4 rfl) ?_
      refine lv_iload_n hx hb dX7_beginHand_134 rfl (lv_at hl 5 rfl) ?_
      refine lv_iload_n hx hb dX7_beginHand_135 rfl (lv_at hl 6 rfl) ?_
      refine lv_iload hx hb dX7_beginHand_136 (lv_at hl 2 rfl) ?_
      refine lv_iload hx hb dX7_beginHand_138 (lv_at hl 1 rfl) ?_
      refine lv_iload_n hx hb dX7_beginHand_140 rfl (lv_at hl 7 rfl) ?_
      refine lv_iload hx hb dX7_beginHand_141 (lv_at hl 8 rfl) ?_
      refine lv_iload hx hb dX7_beginHand_143 (lv_at hl 9 rfl) ?_
      have hFc := tw_free hF hS hA
      refine va_callv (va_runV (As := [.int p0, .int p1, .int (y (a 3) 2), .int (y (a 22) (y (a 42) p0.toNatClampNeg).toNatClampNeg), .int p2, .int p3, .int p4]) (rest := []) ⟨hx, hb, hml, hown, hts⟩ (c_goOn1 l dC dI ad av H.size a k τ ln y g u p0 p1 (y (a 3) 2) (y (a 22) (y (a 42) p0.toNatClampNeg).toNatClampNeg) p2 p3 p4 nP nH hI (by omega) (by omega) gn gp gh (by omega) (by omega) (by omega)) (cwV 7 hts (gi_4 (List.mem_cons_of_mem _ (List.mem_append_left _ (List.mem_of_getElem? (i := 20) rfl))) (List.mem_cons_of_mem _ (List.mem_append_left _ (List.mem_of_getElem? (i := 21) rfl))) (List.mem_cons_of_mem _ (List.mem_append_left _ (List.mem_of_getElem? (i := 22) rfl))) (List.mem_cons_of_mem _ (List.mem_append_left _ (List.mem_of_getElem? (i := 23) rfl))) (fun _ hh => (List.mem_cons_of_mem _ (List.mem_append_right _ (List.mem_append_right _ (List.mem_append_right _ (List.mem_append_right _ (List.mem_append_right _ (List.mem_append_right _ (List.mem_append_right _ (List.mem_append_right _ (List.mem_append_left _ hh))))))))))) gd_c_goOn1) rfl rfl rfl (by decide +kernel) ⟨Nat.le_of_ble_eq_true rfl, Nat.le_of_ble_eq_true rfl⟩) ⟨pw_blind, tw_recv hK hT (fx_6 hX) (by decide) cl_e16 rfl, pw_use hT hK hFc hS hM⟩ rfl rfl hl.1 rfl (lv_room (Nat.le_of_ble_eq_true rfl)) dX7_beginHand_145 ⟨Nat.le_of_ble_eq_true rfl, Nat.le_of_ble_eq_true rfl⟩) hS (fun q _ h => hFc q h) hFc (fun u0 t H locs ht hvm hw hB hz1 hk1 hS => ?_)
      refine W.widen (k := 0) (n := 0) (Nat.le_of_ble_eq_true rfl) (Nat.le_of_ble_eq_true rfl) ?_
      clear hvm hz1 hk1
      obtain ⟨y_19, hgy_19, hf_20, hf_21, hf_22, hT⟩ := hB
      rw [ht] at hT
      have hG := hG.tr hgy_19 (by decide)
      have hI := hI.ag hgy_19 (by decide)
      exact W.vret hx hb hr (fun t ht hW9 => ⟨⟨(), rfl, trivial, ⟨y_19, hG, by omega, by omega, by omega, tw_at ht hT⟩⟩, hS.F ht⟩) hS.2.2 dX7_beginHand_148
  · have nc_1 := z_nlt rfl rfl c_1
    refine lv_iload_n hx hb dX7_beginHand_8 rfl (lv_at hl 2 rfl) ?_
    refine lv_if_ne (tgt := 21) hx hb dX7_beginHand_9 (by decide) (fun c_23 => ?_) (fun c_23 => ?_)
    · have nc_23 := z_ne rfl (zk (x := 0) 0 rfl) c_23
      exact W.vret hx hb hr (fun t ht hW9 => ⟨⟨(), rfl, trivial, ⟨y, hG, by omega, by omega, by omega, tw_at ht hT⟩⟩, hS.F ht⟩) hS.2.2 dX7_beginHand_21
    · have nc_23 := z_eq rfl (zk (x := 0) 0 rfl) c_23
      refine lv_aload_n hx hb dX7_beginHand_12 rfl (lv_at hl 0 rfl) ?_
      refine lv_iload_n hx hb dX7_beginHand_13 rfl (lv_at hl 3 rfl) ?_
      refine lv_iload hx hb dX7_beginHand_14 (lv_at hl 4 rfl) ?_
      refine lv_iload hx hb dX7_beginHand_16 (lv_at hl 5 rfl) ?_
      have hFc := tw_free hF hS hA
      refine va_callv (va_runV (As := [.int p2, .int p3, .int p4]) (rest := []) ⟨hx, hb, hml, hown, hts⟩ (c_keep l dC dI ad av s.heap.size a k τ ln y g u p2 p3 p4 hI (by omega) (by omega) (by omega)) (cwV 3 hts (gi_4 (List.mem_cons_of_mem _ (List.mem_append_left _ (List.mem_of_getElem? (i := 24) rfl))) (List.mem_cons_of_mem _ (List.mem_append_left _ (List.mem_of_getElem? (i := 25) rfl))) (List.mem_cons_of_mem _ (List.mem_append_left _ (List.mem_of_getElem? (i := 26) rfl))) (List.mem_cons_of_mem _ (List.mem_append_left _ (List.mem_of_getElem? (i := 23) rfl))) (fun _ hh => (List.mem_cons_of_mem _ (List.mem_append_right _ (List.mem_append_right _ (List.mem_append_right _ (List.mem_append_right _ (List.mem_append_right _ (List.mem_append_right _ (List.mem_append_right _ (List.mem_append_right _ (List.mem_append_right _ (List.mem_append_left _ hh)))))))))))) gd_c_keep) rfl rfl rfl (by decide +kernel) ⟨Nat.le_of_ble_eq_true rfl, Nat.le_of_ble_eq_true rfl⟩) ⟨pw_blind, tw_recv hK hT (fx_6 hX) (by decide) cl_e16 rfl, pw_use hT hK hFc hS hM⟩ rfl rfl hl.1 rfl (lv_room (Nat.le_of_ble_eq_true rfl)) dX7_beginHand_18 ⟨Nat.le_of_ble_eq_true rfl, Nat.le_of_ble_eq_true rfl⟩) hS (fun q _ h => hFc q h) hFc (fun u0 t H locs ht hvm hw hB hz1 hk1 hS => ?_)
      refine W.widen (k := 0) (n := 0) (Nat.le_of_ble_eq_true rfl) (Nat.le_of_ble_eq_true rfl) ?_
      clear hvm hz1 hk1
      obtain ⟨y_25, hgy_25, hf_26, hf_27, hf_28, hT⟩ := hB
      rw [ht] at hT
      have hG := hG.tr hgy_25 (by decide)
      have hI := hI.ag hgy_25 (by decide)
      exact W.vret hx hb hr (fun t ht hW9 => ⟨⟨(), rfl, trivial, ⟨y_25, hG, by omega, by omega, by omega, tw_at ht hT⟩⟩, hS.F ht⟩) hS.2.2 dX7_beginHand_21
def wo_c_goOn0 : List Cond := [.fieldLink RX7 78 "TypingPool$Planner" "handCount" "I", .methodLink RX7 126 yX7_isBetter, .instanceMethod yX7_isBetter, .selects RX7 yX7_isBetter yX7_isBetter, .initialized RX7, .fieldLink RX7 21 "TypingPool$Planner" "current" "[I", .methodLink RX7 63 yX7_beginHand, .instanceMethod yX7_beginHand, .selects RX7 yX7_beginHand yX7_beginHand, .fieldLink RX7 15 "TypingPool$Planner" "hands" "[I", .fieldLink RX7 42 "TypingPool$Planner" "pieceCount" "I", .fieldLink RX7 18 "TypingPool$Planner" "allowed" "[I", .fieldLink RX7 9 "TypingPool$Planner" "pieces" "[I", .fieldLink RX7 27 "TypingPool$Planner" "book" "LTypingPool$Book;", .fieldLink RX7 115 "TypingPool$Book" "pieces" "[LTypingPool$Piece;", .methodLink RX7 130 yX6_allWork, .instanceMethod yX6_allWork, .selects RX6 yX6_allWork yX6_allWork, .initialized RX6, .fieldLink RX7 31 "TypingPool$Planner" "floor" "LTypingPool$Floor;", .methodLink RX7 133 yX3_rateFor, .instanceMethod yX3_rateFor, .selects RX3 yX3_rateFor yX3_rateFor, .initialized RX3, .initialized RX11, .static yX11_minutesFor, .methodLink RX7 111 yX1_minuteAfterWork, .instanceMethod yX1_minuteAfterWork, .selects RX1 yX1_minuteAfterWork yX1_minuteAfterWork, .initialized RX1, .fieldLink RX7 136 "TypingPool$Piece" "due" "I", .methodLink RX7 139 Lib.Math.max.name, .static Lib.Math.max.name, .initialized "java/lang/Math", .code Lib.Math.max.name Lib.Math.max.code 2 (some .int), .fieldLink RX7 118 "TypingPool$Piece" "words" "I", .methodLink RX7 122 yX7_goOn, .instanceMethod yX7_goOn, .selects RX7 yX7_goOn yX7_goOn]
def wm_c_goOn0 : List Cond := .code yX7_goOn cX7_goOn 15 none :: (wo_c_goOn0 ++ (wsX70 ++ (wm_c_isBetter ++ (wm_c_beginHand1 ++ (wsX10 ++ (wm_c_allWork ++ (wm_c_rateFor ++ (wm_c_minutesFor ++ (wm_c_minuteAfterWork ++ (wsX60 ++ (wm_c_goOn1 ++ ([] : List Cond))))))))))))
theorem gd_c_goOn0 : ∀ w ∈ wm_c_goOn0, goodWord w = true := gd_c rfl (gd_a (by decide) (gd_a gd_wsX70 (gd_a gd_c_isBetter (gd_a gd_c_beginHand1 (gd_a gd_wsX10 (gd_a gd_c_allWork (gd_a gd_c_rateFor (gd_a gd_c_minutesFor (gd_a gd_c_minuteAfterWork (gd_a gd_wsX60 (gd_a gd_c_goOn1 gd_nil)))))))))))
set_option maxRecDepth 20000 in
theorem im_c_goOn0 : ∀ w ∈ wm_c_goOn0, w ∈ lw_tbl := im_c (in_r [.code yX7_goOn cX7_goOn 15 none] [1060] (by decide +kernel)) (in_app (in_r wo_c_goOn0 [520, 1047, 1049, 23, 85, 522, 1039, 1041, 21, 519, 518, 521, 517, 515, 128, 1061, 720, 721, 89, 516, 1062, 820, 821, 83, 70, 845, 1053, 1054, 1055, 71, 683, 1063, 289, 78, 290, 687, 1057, 1059, 24] (by decide +kernel)) (in_app im_wsX70 (in_app im_c_isBetter (in_app im_c_beginHand1 (in_app im_wsX10 (in_app im_c_allWork (in_app im_c_rateFor (in_app im_c_minutesFor (in_app im_c_minuteAfterWork (in_app im_wsX60 (in_app im_c_goOn1 im_nil)))))))))))
set_option maxHeartbeats 4000000 in
set_option maxRecDepth 100000 in
theorem c_goOn0 (l : Launch) (dC : Nat → ClassId) (dI : Nat → Nat → Nat) (ad av : Nat → Nat) (sz : Nat) (a : Nat → Nat) (k : Nat → ClassId) (τ ln : Nat → Nat) (y : Nat → Nat → Int32) (g : Nat → Nat → Option Nat) (u : Nat → Int) (p0 : Int32) (p1 : Int32) (p2 : Int32) (p3 : Int32) (p4 : Int32) (p5 : Int32) (p6 : Int32) (nP : Int) (nH : Int) (hI : IC a u τ ln y g) (g3 : (y (a 6) 3).toInt = nP) (g5 : (y (a 6) 5).toInt = nH) (gn : (0 ≤ nP ∧ nP ≤ 5) ∧ 0 ≤ nH ∧ nH ≤ 3) (gp : vl nP (u 2) (y (a 41))) (gh : vl nH (u 1) (y (a 42))) (g9 : 0 ≤ (y (a 6) 9).toInt ∧ (y (a 6) 9).toInt ≤ 8) (hp0 : 0 ≤ p0.toInt) (hlen : p6.toInt = 0) : Met l yX7_goOn wm_c_goOn0 ({ frames := 18, cells := 0, slots := 0, locals := 1080 }) (pw_ ad av (dC, dI) sz [.ref (a 6), .int p0, .int p1, .int p2, .int p3, .int p4, .int p5, .int p6] a k τ ln y g) (va_Qv (fun (_ : Unit) => True) (fun (_ : Unit) (t : State) => (∃ (y' : Nat → Nat → Int32), ag τ [16, 54, 55] y y' ∧ (y' (a 6) 3).toInt = (y (a 6) 3).toInt ∧ (y' (a 6) 5).toInt = (y (a 6) 5).toInt ∧ (0 ≤ (y' (a 6) 9).toInt ∧ (y' (a 6) 9).toInt ≤ 8) ∧ tw (dC, dI) a k τ ln y' g t.heap)) (fr τ sz)) 0 0 (fr τ sz) := by
  refine Met.ofW (cc := cX7_goOn) (maxL := 15) (ret := none) (by decide) rfl ?_
  intro p e s m args below meth c s₁ B hml hv
  obtain ⟨rfl, hsz, hT, hK, hM⟩ := hv
  have hx := B.exec
  have hb := B.bytes
  have hr := B.returns
  have hts := atoms_spec (ws := wm_c_goOn0) B.pre
  have hown : s.vm.findClass RX7 = some m.cls := findClass_of_methodNamed B.named
  have hlocks := B.notSynchronized
  subst hsz
  generalize hAe : fr τ s.heap.size = A at hM ⊢
  have hA : ∀ q : Nat, s.heap.size ≤ q → A q := fun q h => by rw [← hAe]; exact Or.inr h
  have hF : ∀ q, τ q ≠ 0 → A q := fun q h => by rw [← hAe]; exact Or.inl h
  have hS : va_S A s.heap s.heap [] := va_S.rf
  have hX := hI.1
  have hR := ic_r hI
  have hG : ag τ [16, 54, 55] y y := ag.rf
  have hl := lv_entry ([.ref (a 6), .int p0, .int p1, .int p2, .int p3, .int p4, .int p5, .int p6]) (n := 15) (Nat.le_of_ble_eq_true rfl)
  rw [lg_entry_eq]
  generalize (lg_sl ([.ref (a 6), .int p0, .int p1, .int p2, .int p3, .int p4, .int p5, .int p6]) ++ List.replicate (15 - (lg_sl ([.ref (a 6), .int p0, .int p1, .int p2, .int p3, .int p4, .int p5, .int p6])).length) Slot.unset).toArray = ls at hl ⊢
  have hl : lv_has ls 15 [(0, .ref (a 6)), (1, .int p0), (2, .int p1), (3, .int p2), (4, .int p3), (5, .int p4), (6, .int p5), (7, .int p6)] := hl
  refine lv_iload hx hb dX7_goOn_0 (lv_at hl 7 rfl) ?_
  refine lv_bipush (v := 8) hx hb dX7_goOn_2 (by decide) ?_
  refine lv_icmp_ge (tgt := 26) hx hb dX7_goOn_4 (by decide) (fun c_1 => ?_) (fun c_1 => ?_)
  · have nc_1 := z_le (zk (x := 8) 8 rfl) rfl c_1
    exact W.vret hx hb hr (fun t ht hW9 => ⟨⟨(), rfl, trivial, ⟨y, hG, by omega, by omega, by omega, tw_at ht hT⟩⟩, hS.F ht⟩) hS.2.2 dX7_goOn_26
  · have nc_1 := z_nle (zk (x := 8) 8 rfl) rfl c_1
    refine lv_iload_n hx hb dX7_goOn_7 rfl (lv_at hl 1 rfl) ?_
    refine lv_aload_n hx hb dX7_goOn_8 rfl (lv_at hl 0 rfl) ?_
    refine tw_get (D := (dC, dI)) (v := .int (y (a 6) 5)) (C := RX7) (T := TX7) (N := 13) hx hb hts (fun _ hh => (List.mem_cons_of_mem _ (List.mem_append_right _ (List.mem_append_left _ hh)))) hown hK hT (fx_6 hX) (by decide) cl_e16 rfl 5 (by decide) (hts (.fieldLink RX7 78 "TypingPool$Planner" "handCount" "I") (List.mem_cons_of_mem _ (List.mem_append_left _ (List.mem_of_getElem? (i := 0) rfl)))) (fun _ h9 => h9) rfl dX7_goOn_9 ?_
    refine lv_icmp_ge (tgt := 26) hx hb dX7_goOn_12 (by decide) (fun c_2 => ?_) (fun c_2 => ?_)
    · have nc_2 := z_le rfl rfl c_2
      exact W.vret hx hb hr (fun t ht hW9 => ⟨⟨(), rfl, trivial, ⟨y, hG, by omega, by omega, by omega, tw_at ht hT⟩⟩, hS.F ht⟩) hS.2.2 dX7_goOn_26
    · have nc_2 := z_nle rfl rfl c_2
      refine lv_aload_n hx hb dX7_goOn_15 rfl (lv_at hl 0 rfl) ?_
      refine lv_iload hx hb dX7_goOn_16 (lv_at hl 5 rfl) ?_
      refine lv_iload hx hb dX7_goOn_18 (lv_at hl 6 rfl) ?_
      have hFc := tw_free hF hS hA
      refine va_calli (va_runV (As := [.int p4, .int p5]) (rest := []) ⟨hx, hb, hml, hown, hts⟩ (c_isBetter l dC dI ad av s.heap.size a k τ ln y g u p4 p5 hI ) (cwV 2 hts (gi_4 (List.mem_cons_of_mem _ (List.mem_append_left _ (List.mem_of_getElem? (i := 1) rfl))) (List.mem_cons_of_mem _ (List.mem_append_left _ (List.mem_of_getElem? (i := 2) rfl))) (List.mem_cons_of_mem _ (List.mem_append_left _ (List.mem_of_getElem? (i := 3) rfl))) (List.mem_cons_of_mem _ (List.mem_append_left _ (List.mem_of_getElem? (i := 4) rfl))) (fun _ hh => (List.mem_cons_of_mem _ (List.mem_append_right _ (List.mem_append_right _ (List.mem_append_left _ hh))))) gd_c_isBetter) rfl rfl rfl (by decide +kernel) ⟨Nat.le_of_ble_eq_true rfl, Nat.le_of_ble_eq_true rfl⟩) ⟨pw_blind, tw_recv hK hT (fx_6 hX) (by decide) cl_e16 rfl, pw_use hT hK hFc hS hM⟩ rfl rfl hl.1 rfl (lv_room (Nat.le_of_ble_eq_true rfl)) dX7_goOn_20 ⟨Nat.le_of_ble_eq_true rfl, Nat.le_of_ble_eq_true rfl⟩) hS (fun q _ h => hFc q h) hFc (fun r0 r_3 t H locs ht hvm hw hB hz1 hk1 hS => ?_)
      refine W.widen (k := 0) (n := 0) (Nat.le_of_ble_eq_true rfl) (Nat.le_of_ble_eq_true rfl) ?_
      clear hvm hz1 hk1
      subst hw
      rcases hB with ⟨hre, hT⟩ | ⟨hre, hT⟩
      · refine lq_top (v := 1) hre ?_
        rw [ht] at hT
        refine lv_if_ne (tgt := 27) hx hb dX7_goOn_23 (by decide) (fun c_4 => ?_) (fun c_4 => absurd c_4 (by decide))
        refine lv_aload_n hx hb dX7_goOn_27 rfl (lv_at hl 0 rfl) ?_
        refine tw_get (D := (dC, dI)) (v := .ref (a 44)) (C := RX7) (T := TX7) (N := 13) hx hb hts (fun _ hh => (List.mem_cons_of_mem _ (List.mem_append_right _ (List.mem_append_left _ hh)))) hown hK hT (fx_6 hX) (by decide) cl_e16 rfl 7 (by decide) (hts (.fieldLink RX7 21 "TypingPool$Planner" "current" "[I") (List.mem_cons_of_mem _ (List.mem_append_left _ (List.mem_of_getElem? (i := 5) rfl)))) (fun _ h9 => h9) rfl dX7_goOn_28 ?_
        refine lv_iload hx hb dX7_goOn_31 (lv_at hl 7 rfl) ?_
        refine lv_iconst (v := (-1)) hx hb dX7_goOn_33 (by decide) ?_
        refine tw_iast hx hb hK hT hF hS 0 (fx_44 hX) (by decide) (fun _ => cl_e54) rfl (z_in rfl (by omega) (by omega)) dX7_goOn_34 (fun H locs hT hS => ?_)
        obtain ⟨y_5, hy_5, hT⟩ : ∃ z : Nat → Nat → Int32, z = up2 y (a 44) p6.toNatClampNeg (-1 : Int32) ∧ tw (dC, dI) a k τ ln z g H := ⟨_, rfl, hT⟩
        have hG : ag τ [16, 54, 55] y y_5 := by rw [hy_5]; exact hG.up (fx_44 hX) (by decide)
        have : (y_5 (a 6) 3).toInt = (y (a 6) 3).toInt := by rw [hy_5, up2_o (kd_ne (fx_6 hX) (fx_44 hX) (by decide))]
        have : (y_5 (a 6) 5).toInt = (y (a 6) 5).toInt := by rw [hy_5, up2_o (kd_ne (fx_6 hX) (fx_44 hX) (by decide))]
        have : (y_5 (a 6) 9).toInt = (y (a 6) 9).toInt := by rw [hy_5, up2_o (kd_ne (fx_6 hX) (fx_44 hX) (by decide))]
        have hI := hI.ag (S := [54]) (y' := y_5) (by rw [hy_5]; exact ag.one (fx_44 hX)) (by decide)
        refine lv_aload_n hx hb dX7_goOn_35 rfl (lv_at hl 0 rfl) ?_
        refine lv_iload_n hx hb dX7_goOn_36 rfl (lv_at hl 1 rfl) ?_
        refine lv_iconst (v := 1) hx hb dX7_goOn_37 (by decide) ?_
        refine lv_iadd hx hb dX7_goOn_38 ?_
        refine lv_topi (fun x_6 ex_6 => ?_)
        have hx_6 := z_add ex_6 rfl (zk (x := 1) 1 rfl) (by omega) (by omega)
        refine lv_iload_n hx hb dX7_goOn_39 rfl (lv_at hl 2 rfl) ?_
        refine lv_iload hx hb dX7_goOn_40 (lv_at hl 5 rfl) ?_
        refine lv_iload hx hb dX7_goOn_42 (lv_at hl 6 rfl) ?_
        refine lv_iload hx hb dX7_goOn_44 (lv_at hl 7 rfl) ?_
        refine lv_iconst (v := 1) hx hb dX7_goOn_46 (by decide) ?_
        refine lv_iadd hx hb dX7_goOn_47 ?_
        refine lv_topi (fun x_7 ex_7 => ?_)
        have hx_7 := z_add ex_7 rfl (zk (x := 1) 1 rfl) (by omega) (by omega)
        have hFc := tw_free hF hS hA
        refine va_callv (va_runV (As := [.int x_6, .int p1, .int p4, .int p5, .int x_7]) (rest := []) ⟨hx, hb, hml, hown, hts⟩ (c_beginHand1 l dC dI ad av H.size a k τ ln y_5 g u x_6 p1 p4 p5 x_7 nP nH hI (by omega) (by omega) gn (by rw [hG.at (fx_41 hX) (by decide)]; exact gp) (by rw [hG.at (fx_42 hX) (by decide)]; exact gh) (by omega) (by omega) (by omega)) (cwV 5 hts (gi_4 (List.mem_cons_of_mem _ (List.mem_append_left _ (List.mem_of_getElem? (i := 6) rfl))) (List.mem_cons_of_mem _ (List.mem_append_left _ (List.mem_of_getElem? (i := 7) rfl))) (List.mem_cons_of_mem _ (List.mem_append_left _ (List.mem_of_getElem? (i := 8) rfl))) (List.mem_cons_of_mem _ (List.mem_append_left _ (List.mem_of_getElem? (i := 4) rfl))) (fun _ hh => (List.mem_cons_of_mem _ (List.mem_append_right _ (List.mem_append_right _ (List.mem_append_right _ (List.mem_append_left _ hh)))))) gd_c_beginHand1) rfl rfl rfl (by decide +kernel) ⟨Nat.le_of_ble_eq_true rfl, Nat.le_of_ble_eq_true rfl⟩) ⟨pw_blind, tw_recv hK hT (fx_6 hX) (by decide) cl_e16 rfl, pw_use hT hK hFc hS hM⟩ rfl rfl hl.1 rfl (lv_room (Nat.le_of_ble_eq_true rfl)) dX7_goOn_48 ⟨Nat.le_of_ble_eq_true rfl, Nat.le_of_ble_eq_true rfl⟩) hS (fun q _ h => hFc q h) hFc (fun u0 t H locs ht hvm hw hB hz1 hk1 hS => ?_)
        refine W.widen (k := 0) (n := 0) (Nat.le_of_ble_eq_true rfl) (Nat.le_of_ble_eq_true rfl) ?_
        clear hvm hz1 hk1
        obtain ⟨y_9, hgy_9, hf_10, hf_11, hf_12, hT⟩ := hB
        rw [ht] at hT
        have hG := hG.tr hgy_9 (by decide)
        have hI := hI.ag hgy_9 (by decide)
        refine lv_aload_n hx hb dX7_goOn_51 rfl (lv_at hl 0 rfl) ?_
        refine tw_get (D := (dC, dI)) (v := .ref (a 42)) (C := RX7) (T := TX7) (N := 13) hx hb hts (fun _ hh => (List.mem_cons_of_mem _ (List.mem_append_right _ (List.mem_append_left _ hh)))) hown hK hT (fx_6 hX) (by decide) cl_e16 rfl 4 (by decide) (hts (.fieldLink RX7 15 "TypingPool$Planner" "hands" "[I") (List.mem_cons_of_mem _ (List.mem_append_left _ (List.mem_of_getElem? (i := 9) rfl)))) (fun _ h9 => h9) rfl dX7_goOn_52 ?_
        refine lv_iload_n hx hb dX7_goOn_55 rfl (lv_at hl 1 rfl) ?_
        refine tw_iald hx hb hK hT 0 (fx_42 hX) (by decide) cl_e52 rfl (z_in rfl (by omega) (by omega)) dX7_goOn_56 ?_
        have hv0 : vl nH (u 1) (y_9 (a 42)) := (by rw [hG.at (fx_42 hX) (by decide)]; exact gh)
        have hv_13 := vl_at hv0 (x := p0) rfl (by omega) (by omega)
        refine lv_istore (lv' := [(8, .int (y_9 (a 42) p0.toNatClampNeg)), (0, .ref (a 6)), (1, .int p0), (2, .int p1), (3, .int p2), (4, .int p3), (5, .int p4), (6, .int p5), (7, .int p6)]) hx hb dX7_goOn_57 hl (by decide) rfl (fun ls hl => ?_)
        refine lv_iconst (v := 0) hx hb dX7_goOn_59 (by decide) ?_
        refine lv_istore (lv' := [(9, .int 0), (8, .int (y_9 (a 42) p0.toNatClampNeg)), (0, .ref (a 6)), (1, .int p0), (2, .int p1), (3, .int p2), (4, .int p3), (5, .int p4), (6, .int p5), (7, .int p6)]) hx hb dX7_goOn_60 hl (by decide) rfl (fun ls hl => ?_)
        have loop_62 : ∀ (n : Nat) (i9 : Int32) (y_L62 : Nat → Nat → Int32) (H : Heap) (locs : List Loc) (ls : Array Slot), (nP - i9.toInt).toNat < n → ag τ [16, 54, 55] y y_L62 → IC a u τ ln y_L62 g → 0 ≤ i9.toInt → i9.toInt ≤ nP → (y_L62 (a 6) 3).toInt = nP → (y_L62 (a 6) 5).toInt = nH → 0 ≤ (y_L62 (a 6) 9).toInt ∧ (y_L62 (a 6) 9).toInt ≤ 8 → tw (dC, dI) a k τ ln y_L62 g H → va_S A s.heap H locs → lv_has ls 15 [(0, .ref (a 6)), (1, .int p0), (2, .int p1), (3, .int p2), (4, .int p3), (5, .int p4), (6, .int p5), (7, .int p6), (8, .int (y_9 (a 42) p0.toNatClampNeg)), (9, .int i9)] → W p l e (headSpec wm_c_goOn0 ({ frames := 18, cells := 0, slots := 0, locals := 1080 })).room s m ([.ref (a 6), .int p0, .int p1, .int p2, .int p3, .int p4, .int p5, .int p6] : List Value).toArray below meth c H locs 0 0 (MQ below (va_Qv (fun (_ : Unit) => True) (fun (_ : Unit) (t : State) => (∃ (y' : Nat → Nat → Int32), ag τ [16, 54, 55] y y' ∧ (y' (a 6) 3).toInt = (y (a 6) 3).toInt ∧ (y' (a 6) 5).toInt = (y (a 6) 5).toInt ∧ (0 ≤ (y' (a 6) 9).toInt ∧ (y' (a 6) 9).toInt ≤ 8) ∧ tw (dC, dI) a k τ ln y' g t.heap)) A) ([.ref (a 6), .int p0, .int p1, .int p2, .int p3, .int p4, .int p5, .int p6] : List Value).toArray s 0 0 A) (F0 m 62 ls []) := by
          intro n
          induction n with
          | zero => intro i9 y_L62 H locs ls hlt; exact absurd hlt (Nat.not_lt_zero _)
          | succ n ih_62 =>
            intro i9 y_L62 H locs ls hlt hG hI hi62_0 hi62_1 hi62_2 hi62_3 hi62_4 hT hS hl
            refine lv_iload hx hb dX7_goOn_62 (lv_at hl 9 rfl) ?_
            refine lv_aload_n hx hb dX7_goOn_64 rfl (lv_at hl 0 rfl) ?_
            refine tw_get (D := (dC, dI)) (v := .int (y_L62 (a 6) 3)) (C := RX7) (T := TX7) (N := 13) hx hb hts (fun _ hh => (List.mem_cons_of_mem _ (List.mem_append_right _ (List.mem_append_left _ hh)))) hown hK hT (fx_6 hX) (by decide) cl_e16 rfl 3 (by decide) (hts (.fieldLink RX7 42 "TypingPool$Planner" "pieceCount" "I") (List.mem_cons_of_mem _ (List.mem_append_left _ (List.mem_of_getElem? (i := 10) rfl)))) (fun _ h9 => h9) rfl dX7_goOn_65 ?_
            refine lv_icmp_ge (tgt := 220) hx hb dX7_goOn_68 (by decide) (fun c_14 => ?_) (fun c_14 => ?_)
            · have nc_14 := z_le rfl rfl c_14
              exact W.vret hx hb hr (fun t ht hW9 => ⟨⟨(), rfl, trivial, ⟨y_L62, hG, by omega, by omega, by omega, tw_at ht hT⟩⟩, hS.F ht⟩) hS.2.2 dX7_goOn_220
            · have nc_14 := z_nle rfl rfl c_14
              refine lv_iload_n hx hb dX7_goOn_71 rfl (lv_at hl 2 rfl) ?_
              refine lv_aload_n hx hb dX7_goOn_72 rfl (lv_at hl 0 rfl) ?_
              refine tw_get (D := (dC, dI)) (v := .ref (a 43)) (C := RX7) (T := TX7) (N := 13) hx hb hts (fun _ hh => (List.mem_cons_of_mem _ (List.mem_append_right _ (List.mem_append_left _ hh)))) hown hK hT (fx_6 hX) (by decide) cl_e16 rfl 6 (by decide) (hts (.fieldLink RX7 18 "TypingPool$Planner" "allowed" "[I") (List.mem_cons_of_mem _ (List.mem_append_left _ (List.mem_of_getElem? (i := 11) rfl)))) (fun _ h9 => h9) rfl dX7_goOn_73 ?_
              refine lv_iload_n hx hb dX7_goOn_76 rfl (lv_at hl 1 rfl) ?_
              refine tw_iald hx hb hK hT 0 (fx_43 hX) (by decide) cl_e53 rfl (z_in rfl (by omega) (by omega)) dX7_goOn_77 ?_
              refine lv_iand hx hb dX7_goOn_78 ?_
              refine lv_topi (fun x_15 ex_15 => ?_)
              refine lv_iload hx hb dX7_goOn_79 (lv_at hl 9 rfl) ?_
              refine lv_ishr hx hb dX7_goOn_81 ?_
              refine lv_topi (fun x_16 ex_16 => ?_)
              refine lv_iconst (v := 1) hx hb dX7_goOn_82 (by decide) ?_
              refine lv_iand hx hb dX7_goOn_83 ?_
              refine lv_topi (fun x_17 ex_17 => ?_)
              have hx_17 := z_and (x := x_16) (zk (x := 1) 1 rfl) (by omega)
              rw [← ex_17] at hx_17
              refine lv_iconst (v := 1) hx hb dX7_goOn_84 (by decide) ?_
              refine lv_icmp_ne (tgt := 214) hx hb dX7_goOn_85 (by decide) (fun c_18 => ?_) (fun c_18 => ?_)
              · have nc_18 := z_ne rfl (zk (x := 1) 1 rfl) c_18
                obtain ⟨x_19, ex_19⟩ : ∃ y : Int32, y = i9 + Int32.ofInt 1 := ⟨_, rfl⟩
                have hx_19 := z_add ex_19 rfl (zk (x := Int32.ofInt 1) 1 rfl) (by omega) (by omega)
                refine lv_iinc (v := x_19) (lv' := [(9, .int x_19), (0, .ref (a 6)), (1, .int p0), (2, .int p1), (3, .int p2), (4, .int p3), (5, .int p4), (6, .int p5), (7, .int p6), (8, .int (y_9 (a 42) p0.toNatClampNeg))]) hx hb dX7_goOn_214 hl (k := 9) rfl ex_19.symm (by decide) rfl (fun ls hl => ?_)
                refine lv_goto (tgt := 62) hx hb dX7_goOn_217 (by decide) ?_
                exact ih_62  x_19 y_L62 H _ ls (by omega) hG hI (by omega) (by omega) (by omega) (by omega) (by omega) hT hS (lv_sub hl [1, 2, 3, 4, 5, 6, 7, 8, 9, 0] rfl)
              · have nc_18 := z_eq rfl (zk (x := 1) 1 rfl) c_18
                refine lv_aload_n hx hb dX7_goOn_88 rfl (lv_at hl 0 rfl) ?_
                refine tw_get (D := (dC, dI)) (v := .ref (a 41)) (C := RX7) (T := TX7) (N := 13) hx hb hts (fun _ hh => (List.mem_cons_of_mem _ (List.mem_append_right _ (List.mem_append_left _ hh)))) hown hK hT (fx_6 hX) (by decide) cl_e16 rfl 2 (by decide) (hts (.fieldLink RX7 9 "TypingPool$Planner" "pieces" "[I") (List.mem_cons_of_mem _ (List.mem_append_left _ (List.mem_of_getElem? (i := 12) rfl)))) (fun _ h9 => h9) rfl dX7_goOn_89 ?_
                refine lv_iload hx hb dX7_goOn_92 (lv_at hl 9 rfl) ?_
                refine tw_iald hx hb hK hT 0 (fx_41 hX) (by decide) cl_e51 rfl (z_in rfl (by omega) (by omega)) dX7_goOn_94 ?_
                have hv0 : vl nP (u 2) (y_L62 (a 41)) := (by rw [hG.at (fx_41 hX) (by decide)]; exact gp)
                have hv_20 := vl_at hv0 (x := i9) rfl (by omega) (by omega)
                refine lv_istore (lv' := [(10, .int (y_L62 (a 41) i9.toNatClampNeg)), (0, .ref (a 6)), (1, .int p0), (2, .int p1), (3, .int p2), (4, .int p3), (5, .int p4), (6, .int p5), (7, .int p6), (8, .int (y_9 (a 42) p0.toNatClampNeg)), (9, .int i9)]) hx hb dX7_goOn_95 hl (by decide) rfl (fun ls hl => ?_)
                refine lv_aload_n hx hb dX7_goOn_97 rfl (lv_at hl 1 rfl) ?_
                refine tw_get (D := (dC, dI)) (v := .ref (a 1)) (C := RX7) (T := TX7) (N := 13) hx hb hts (fun _ hh => (List.mem_cons_of_mem _ (List.mem_append_right _ (List.mem_append_left _ hh)))) hown hK hT (fx_6 hX) (by decide) cl_e16 rfl 0 (by decide) (hts (.fieldLink RX7 27 "TypingPool$Planner" "book" "LTypingPool$Book;") (List.mem_cons_of_mem _ (List.mem_append_left _ (List.mem_of_getElem? (i := 13) rfl)))) (fun _ h9 => h9) rfl dX7_goOn_98 ?_
                refine tw_get (D := (dC, dI)) (v := .ref (a 11)) (C := RX1) (T := TX1) (N := 8) hx hb hts (fun _ hh => (List.mem_cons_of_mem _ (List.mem_append_right _ (List.mem_append_right _ (List.mem_append_right _ (List.mem_append_right _ (List.mem_append_left _ hh))))))) hown hK hT (fx_1 hX) (by decide) cl_e11 rfl 4 (by decide) (hts (.fieldLink RX7 115 "TypingPool$Book" "pieces" "[LTypingPool$Piece;") (List.mem_cons_of_mem _ (List.mem_append_left _ (List.mem_of_getElem? (i := 14) rfl)))) (fun _ h9 => h9) rfl dX7_goOn_101 ?_
                refine lv_iload hx hb dX7_goOn_104 (lv_at hl 0 rfl) ?_
                refine tw_aald hx hb hK hT 4 (fx_11 hX) (by decide) cl_e21 rfl (z_in rfl (by omega) (by omega)) dX7_goOn_106 ?_
                obtain ⟨q_21, hgq_21, htq_21⟩ := ic_l11 hI (x := (y_L62 (a 41) i9.toNatClampNeg)) rfl (by omega) (by omega)
                refine lq_topr hgq_21 ?_
                refine lv_astore (lv' := [(11, .ref q_21), (10, .int (y_L62 (a 41) i9.toNatClampNeg)), (0, .ref (a 6)), (1, .int p0), (2, .int p1), (3, .int p2), (4, .int p3), (5, .int p4), (6, .int p5), (7, .int p6), (8, .int (y_9 (a 42) p0.toNatClampNeg)), (9, .int i9)]) hx hb dX7_goOn_107 hl (by decide) rfl (fun ls hl => ?_)
                refine lv_aload hx hb dX7_goOn_109 (lv_at hl 0 rfl) ?_
                have hFc := tw_free hF hS hA
                refine va_calli (va_runV (As := []) (rest := []) ⟨hx, hb, hml, hown, hts⟩ (c_allWork l dC dI ad av H.size a k τ ln y_L62 g u q_21 hI htq_21) (cwV 0 hts (gi_4 (List.mem_cons_of_mem _ (List.mem_append_left _ (List.mem_of_getElem? (i := 15) rfl))) (List.mem_cons_of_mem _ (List.mem_append_left _ (List.mem_of_getElem? (i := 16) rfl))) (List.mem_cons_of_mem _ (List.mem_append_left _ (List.mem_of_getElem? (i := 17) rfl))) (List.mem_cons_of_mem _ (List.mem_append_left _ (List.mem_of_getElem? (i := 18) rfl))) (fun _ hh => (List.mem_cons_of_mem _ (List.mem_append_right _ (List.mem_append_right _ (List.mem_append_right _ (List.mem_append_right _ (List.mem_append_right _ (List.mem_append_left _ hh)))))))) gd_c_allWork) rfl rfl rfl (by decide +kernel) ⟨Nat.le_of_ble_eq_true rfl, Nat.le_of_ble_eq_true rfl⟩) ⟨pw_blind, tw_recv hK hT htq_21 (by decide) cl_e2 rfl, pw_use hT hK hFc hS hM⟩ rfl rfl hl.1 rfl (lv_room (Nat.le_of_ble_eq_true rfl)) dX7_goOn_111 ⟨Nat.le_of_ble_eq_true rfl, Nat.le_of_ble_eq_true rfl⟩) hS (fun q _ h => hFc q h) hFc (fun r0 r_22 t H locs ht hvm hw hB hz1 hk1 hS => ?_)
                refine W.widen (k := 0) (n := 0) (Nat.le_of_ble_eq_true rfl) (Nat.le_of_ble_eq_true rfl) ?_
                clear hvm hz1 hk1
                subst hw
                have hT := hB
                rw [ht] at hT
                refine lv_aload_n hx hb dX7_goOn_114 rfl (lv_at hl 2 rfl) ?_
                refine tw_get (D := (dC, dI)) (v := .ref (a 3)) (C := RX7) (T := TX7) (N := 13) hx hb hts (fun _ hh => (List.mem_cons_of_mem _ (List.mem_append_right _ (List.mem_append_left _ hh)))) hown hK hT (fx_6 hX) (by decide) cl_e16 rfl 1 (by decide) (hts (.fieldLink RX7 31 "TypingPool$Planner" "floor" "LTypingPool$Floor;") (List.mem_cons_of_mem _ (List.mem_append_left _ (List.mem_of_getElem? (i := 19) rfl)))) (fun _ h9 => h9) rfl dX7_goOn_115 ?_
                refine lv_iload hx hb dX7_goOn_118 (lv_at hl 10 rfl) ?_
                refine lv_iload hx hb dX7_goOn_120 (lv_at hl 1 rfl) ?_
                refine lv_iload hx hb dX7_goOn_122 (lv_at hl 6 rfl) ?_
                have hFc := tw_free hF hS hA
                refine va_calli (va_runV (As := [.int (y_9 (a 42) p0.toNatClampNeg), .int (y_L62 (a 41) i9.toNatClampNeg), .int p3]) (rest := [.int r_22]) ⟨hx, hb, hml, hown, hts⟩ (c_rateFor l dC dI ad av H.size a k τ ln y_L62 g u (y_9 (a 42) p0.toNatClampNeg) (y_L62 (a 41) i9.toNatClampNeg) p3 hI (by omega) (by omega) (by omega) (by omega)) (cwV 3 hts (gi_4 (List.mem_cons_of_mem _ (List.mem_append_left _ (List.mem_of_getElem? (i := 20) rfl))) (List.mem_cons_of_mem _ (List.mem_append_left _ (List.mem_of_getElem? (i := 21) rfl))) (List.mem_cons_of_mem _ (List.mem_append_left _ (List.mem_of_getElem? (i := 22) rfl))) (List.mem_cons_of_mem _ (List.mem_append_left _ (List.mem_of_getElem? (i := 23) rfl))) (fun _ hh => (List.mem_cons_of_mem _ (List.mem_append_right _ (List.mem_append_right _ (List.mem_append_right _ (List.mem_append_right _ (List.mem_append_right _ (List.mem_append_right _ (List.mem_append_left _ hh))))))))) gd_c_rateFor) rfl rfl rfl (by decide +kernel) ⟨Nat.le_of_ble_eq_true rfl, Nat.le_of_ble_eq_true rfl⟩) ⟨pw_blind, tw_recv hK hT (fx_3 hX) (by decide) cl_e13 rfl, pw_use hT hK hFc hS hM⟩ rfl rfl hl.1 rfl (lv_room (Nat.le_of_ble_eq_true rfl)) dX7_goOn_124 ⟨Nat.le_of_ble_eq_true rfl, Nat.le_of_ble_eq_true rfl⟩) hS (fun q _ h => hFc q h) hFc (fun r0 r_23 t H locs ht hvm hw hB hz1 hk1 hS => ?_)
                refine W.widen (k := 0) (n := 0) (Nat.le_of_ble_eq_true rfl) (Nat.le_of_ble_eq_true rfl) ?_
                clear hvm hz1 hk1
                subst hw
                have hT := hB
                rw [ht] at hT
                have hFc := tw_free hF hS hA
                refine va_calli (va_runSN (As := [.int r_22, .int r_23]) (rest := []) ⟨hx, hb, hml, hown, hts⟩ (c_minutesFor l dC dI ad av H.size a k τ ln y_L62 g u r_22 r_23  ) ⟨va_cnB 2 hts (gi_0  (fun _ hh => (List.mem_cons_of_mem _ (List.mem_append_right _ (List.mem_append_right _ (List.mem_append_right _ (List.mem_append_right _ (List.mem_append_right _ (List.mem_append_right _ (List.mem_append_right _ (List.mem_append_left _ hh)))))))))) gd_c_minutesFor) rfl rfl rfl hM.1.2.2.2.1 (hts (.initialized RX11) (List.mem_cons_of_mem _ (List.mem_append_left _ (List.mem_of_getElem? (i := 24) rfl)))) (by decide +kernel) ⟨Nat.le_of_ble_eq_true rfl, Nat.le_of_ble_eq_true rfl⟩, (hts (.static yX11_minutesFor) (List.mem_cons_of_mem _ (List.mem_append_left _ (List.mem_of_getElem? (i := 25) rfl)))), trivial⟩ ⟨pw_blind, pw_use hT hK hFc hS hM⟩ rfl rfl hl.1 rfl (lv_room (Nat.le_of_ble_eq_true rfl)) dX7_goOn_127 ⟨Nat.le_of_ble_eq_true rfl, Nat.le_of_ble_eq_true rfl⟩) hS (fun q _ h => hFc q h) hFc (fun r0 r_24 t H locs ht hvm hw hB hz1 hk1 hS => ?_)
                refine W.widen (k := 0) (n := 0) (Nat.le_of_ble_eq_true rfl) (Nat.le_of_ble_eq_true rfl) ?_
                clear hvm hz1 hk1
                subst hw
                have hT := hB
                rw [ht] at hT
                refine lv_istore (lv' := [(12, .int r_24), (11, .ref q_21), (10, .int (y_L62 (a 41) i9.toNatClampNeg)), (0, .ref (a 6)), (1, .int p0), (2, .int p1), (3, .int p2), (4, .int p3), (5, .int p4), (6, .int p5), (7, .int p6), (8, .int (y_9 (a 42) p0.toNatClampNeg)), (9, .int i9)]) hx hb dX7_goOn_130 hl (by decide) rfl (fun ls hl => ?_)
                refine lv_aload_n hx hb dX7_goOn_132 rfl (lv_at hl 3 rfl) ?_
                refine tw_get (D := (dC, dI)) (v := .ref (a 1)) (C := RX7) (T := TX7) (N := 13) hx hb hts (fun _ hh => (List.mem_cons_of_mem _ (List.mem_append_right _ (List.mem_append_left _ hh)))) hown hK hT (fx_6 hX) (by decide) cl_e16 rfl 0 (by decide) (hts (.fieldLink RX7 27 "TypingPool$Planner" "book" "LTypingPool$Book;") (List.mem_cons_of_mem _ (List.mem_append_left _ (List.mem_of_getElem? (i := 13) rfl)))) (fun _ h9 => h9) rfl dX7_goOn_133 ?_
                refine lv_iload hx hb dX7_goOn_136 (lv_at hl 11 rfl) ?_
                refine lv_iload_n hx hb dX7_goOn_138 rfl (lv_at hl 6 rfl) ?_
                refine lv_iload hx hb dX7_goOn_139 (lv_at hl 0 rfl) ?_
                have hFc := tw_free hF hS hA
                refine va_calli (va_runV (As := [.int (y_9 (a 42) p0.toNatClampNeg), .int p2, .int r_24]) (rest := []) ⟨hx, hb, hml, hown, hts⟩ (c_minuteAfterWork l dC dI ad av H.size a k τ ln y_L62 g u (y_9 (a 42) p0.toNatClampNeg) p2 r_24 hI ) (cwV 3 hts (gi_4 (List.mem_cons_of_mem _ (List.mem_append_left _ (List.mem_of_getElem? (i := 26) rfl))) (List.mem_cons_of_mem _ (List.mem_append_left _ (List.mem_of_getElem? (i := 27) rfl))) (List.mem_cons_of_mem _ (List.mem_append_left _ (List.mem_of_getElem? (i := 28) rfl))) (List.mem_cons_of_mem _ (List.mem_append_left _ (List.mem_of_getElem? (i := 29) rfl))) (fun _ hh => (List.mem_cons_of_mem _ (List.mem_append_right _ (List.mem_append_right _ (List.mem_append_right _ (List.mem_append_right _ (List.mem_append_right _ (List.mem_append_right _ (List.mem_append_right _ (List.mem_append_right _ (List.mem_append_left _ hh))))))))))) gd_c_minuteAfterWork) rfl rfl rfl (by decide +kernel) ⟨Nat.le_of_ble_eq_true rfl, Nat.le_of_ble_eq_true rfl⟩) ⟨pw_blind, tw_recv hK hT (fx_1 hX) (by decide) cl_e11 rfl, pw_use hT hK hFc hS hM⟩ rfl rfl hl.1 rfl (lv_room (Nat.le_of_ble_eq_true rfl)) dX7_goOn_141 ⟨Nat.le_of_ble_eq_true rfl, Nat.le_of_ble_eq_true rfl⟩) hS (fun q _ h => hFc q h) hFc (fun r0 r_25 t H locs ht hvm hw hB hz1 hk1 hS => ?_)
                refine W.widen (k := 0) (n := 0) (Nat.le_of_ble_eq_true rfl) (Nat.le_of_ble_eq_true rfl) ?_
                clear hvm hz1 hk1
                subst hw
                have hT := hB
                rw [ht] at hT
                refine lv_istore (lv' := [(13, .int r_25), (12, .int r_24), (11, .ref q_21), (10, .int (y_L62 (a 41) i9.toNatClampNeg)), (0, .ref (a 6)), (1, .int p0), (2, .int p1), (3, .int p2), (4, .int p3), (5, .int p4), (6, .int p5), (7, .int p6), (8, .int (y_9 (a 42) p0.toNatClampNeg)), (9, .int i9)]) hx hb dX7_goOn_144 hl (by decide) rfl (fun ls hl => ?_)
                refine lv_iconst (v := 0) hx hb dX7_goOn_146 (by decide) ?_
                refine lv_iload hx hb dX7_goOn_147 (lv_at hl 0 rfl) ?_
                refine lv_aload hx hb dX7_goOn_149 (lv_at hl 2 rfl) ?_
                refine tw_get (D := (dC, dI)) (v := .int (y_L62 q_21 6)) (C := RX6) (T := TX6) (N := 11) hx hb hts (fun _ hh => (List.mem_cons_of_mem _ (List.mem_append_right _ (List.mem_append_right _ (List.mem_append_right _ (List.mem_append_right _ (List.mem_append_right _ (List.mem_append_right _ (List.mem_append_right _ (List.mem_append_right _ (List.mem_append_right _ (List.mem_append_left _ hh)))))))))))) hown hK hT htq_21 (by decide) cl_e2 rfl 6 (by decide) (hts (.fieldLink RX7 136 "TypingPool$Piece" "due" "I") (List.mem_cons_of_mem _ (List.mem_append_left _ (List.mem_of_getElem? (i := 30) rfl)))) (fun _ h9 => h9) rfl dX7_goOn_151 ?_
                refine lv_isub hx hb dX7_goOn_154 ?_
                refine lv_topi (fun x_26 ex_26 => ?_)
                refine va_mmax hx hb (by rw [hml]; exact hl.1.symm) hown (hts (.methodLink RX7 139 Lib.Math.max.name) (List.mem_cons_of_mem _ (List.mem_append_left _ (List.mem_of_getElem? (i := 31) rfl)))) (hts (.static Lib.Math.max.name) (List.mem_cons_of_mem _ (List.mem_append_left _ (List.mem_of_getElem? (i := 32) rfl)))) (hts (.initialized "java/lang/Math") (List.mem_cons_of_mem _ (List.mem_append_left _ (List.mem_of_getElem? (i := 33) rfl)))) (hts (.code Lib.Math.max.name Lib.Math.max.code 2 (some .int)) (List.mem_cons_of_mem _ (List.mem_append_left _ (List.mem_of_getElem? (i := 34) rfl)))) (Nat.le_of_ble_eq_true rfl) (Nat.le_of_ble_eq_true rfl) (Nat.le_of_ble_eq_true rfl) (Nat.le_of_ble_eq_true rfl) dX7_goOn_155 ?_
                refine lv_topi (fun x_27 ex_27 => ?_)
                have hx_27 := z_max ex_27 (zk (x := 0) 0 rfl) rfl
                refine lv_istore (lv' := [(14, .int x_27), (13, .int r_25), (12, .int r_24), (11, .ref q_21), (10, .int (y_L62 (a 41) i9.toNatClampNeg)), (0, .ref (a 6)), (1, .int p0), (2, .int p1), (3, .int p2), (4, .int p3), (5, .int p4), (6, .int p5), (7, .int p6), (8, .int (y_9 (a 42) p0.toNatClampNeg)), (9, .int i9)]) hx hb dX7_goOn_158 hl (by decide) rfl (fun ls hl => ?_)
                refine lv_aload_n hx hb dX7_goOn_160 rfl (lv_at hl 5 rfl) ?_
                refine tw_get (D := (dC, dI)) (v := .ref (a 44)) (C := RX7) (T := TX7) (N := 13) hx hb hts (fun _ hh => (List.mem_cons_of_mem _ (List.mem_append_right _ (List.mem_append_left _ hh)))) hown hK hT (fx_6 hX) (by decide) cl_e16 rfl 7 (by decide) (hts (.fieldLink RX7 21 "TypingPool$Planner" "current" "[I") (List.mem_cons_of_mem _ (List.mem_append_left _ (List.mem_of_getElem? (i := 5) rfl)))) (fun _ h9 => h9) rfl dX7_goOn_161 ?_
                refine lv_iload hx hb dX7_goOn_164 (lv_at hl 12 rfl) ?_
                refine lv_iload hx hb dX7_goOn_166 (lv_at hl 4 rfl) ?_
                refine tw_iast hx hb hK hT hF hS 0 (fx_44 hX) (by decide) (fun _ => cl_e54) rfl (z_in rfl (by omega) (by omega)) dX7_goOn_168 (fun H locs hT hS => ?_)
                obtain ⟨y_28, hy_28, hT⟩ : ∃ z : Nat → Nat → Int32, z = up2 y_L62 (a 44) p6.toNatClampNeg (y_L62 (a 41) i9.toNatClampNeg) ∧ tw (dC, dI) a k τ ln z g H := ⟨_, rfl, hT⟩
                have hG : ag τ [16, 54, 55] y y_28 := by rw [hy_28]; exact hG.up (fx_44 hX) (by decide)
                have : (y_28 (a 6) 3).toInt = (y_L62 (a 6) 3).toInt := by rw [hy_28, up2_o (kd_ne (fx_6 hX) (fx_44 hX) (by decide))]
                have : (y_28 (a 6) 5).toInt = (y_L62 (a 6) 5).toInt := by rw [hy_28, up2_o (kd_ne (fx_6 hX) (fx_44 hX) (by decide))]
                have : (y_28 (a 6) 9).toInt = (y_L62 (a 6) 9).toInt := by rw [hy_28, up2_o (kd_ne (fx_6 hX) (fx_44 hX) (by decide))]
                have hI := hI.ag (S := [54]) (y' := y_28) (by rw [hy_28]; exact ag.one (fx_44 hX)) (by decide)
                refine lv_aload_n hx hb dX7_goOn_169 rfl (lv_at hl 5 rfl) ?_
                refine lv_iload_n hx hb dX7_goOn_170 rfl (lv_at hl 6 rfl) ?_
                refine lv_iload_n hx hb dX7_goOn_171 rfl (lv_at hl 7 rfl) ?_
                refine lv_iconst (v := 1) hx hb dX7_goOn_172 (by decide) ?_
                refine lv_iload hx hb dX7_goOn_173 (lv_at hl 14 rfl) ?_
                refine lv_ishl hx hb dX7_goOn_175 ?_
                refine lv_topi (fun x_29 ex_29 => ?_)
                refine lv_iconst (v := (-1)) hx hb dX7_goOn_176 (by decide) ?_
                refine lv_ixor hx hb dX7_goOn_177 ?_
                refine lv_topi (fun x_30 ex_30 => ?_)
                refine lv_iand hx hb dX7_goOn_178 ?_
                refine lv_topi (fun x_31 ex_31 => ?_)
                refine lv_iload hx hb dX7_goOn_179 (lv_at hl 1 rfl) ?_
                refine lv_iload hx hb dX7_goOn_181 (lv_at hl 9 rfl) ?_
                refine lv_aload hx hb dX7_goOn_183 (lv_at hl 3 rfl) ?_
                refine tw_get (D := (dC, dI)) (v := .int (y_28 q_21 7)) (C := RX6) (T := TX6) (N := 11) hx hb hts (fun _ hh => (List.mem_cons_of_mem _ (List.mem_append_right _ (List.mem_append_right _ (List.mem_append_right _ (List.mem_append_right _ (List.mem_append_right _ (List.mem_append_right _ (List.mem_append_right _ (List.mem_append_right _ (List.mem_append_right _ (List.mem_append_left _ hh)))))))))))) hown hK hT htq_21 (by decide) cl_e2 rfl 7 (by decide) (hts (.fieldLink RX7 118 "TypingPool$Piece" "words" "I") (List.mem_cons_of_mem _ (List.mem_append_left _ (List.mem_of_getElem? (i := 35) rfl)))) (fun _ h9 => h9) rfl dX7_goOn_185 ?_
                refine lv_ior hx hb dX7_goOn_188 ?_
                refine lv_topi (fun x_32 ex_32 => ?_)
                refine lv_iload hx hb dX7_goOn_189 (lv_at hl 10 rfl) ?_
                refine lv_iload hx hb dX7_goOn_191 (lv_at hl 0 rfl) ?_
                refine lv_if_le (tgt := 200) hx hb dX7_goOn_193 (by decide) (fun c_33 => ?_) (fun c_33 => ?_)
                · have nc_33 := z_le rfl (zk (x := 0) 0 rfl) c_33
                  refine lv_iconst (v := 0) hx hb dX7_goOn_200 (by decide) ?_
                  refine lv_iadd hx hb dX7_goOn_201 ?_
                  refine lv_topi (fun x_34 ex_34 => ?_)
                  refine lv_iload hx hb dX7_goOn_202 (lv_at hl 11 rfl) ?_
                  refine lv_iload hx hb dX7_goOn_204 (lv_at hl 0 rfl) ?_
                  refine lv_iadd hx hb dX7_goOn_206 ?_
                  refine lv_topi (fun x_35 ex_35 => ?_)
                  refine lv_iload hx hb dX7_goOn_207 (lv_at hl 12 rfl) ?_
                  refine lv_iconst (v := 1) hx hb dX7_goOn_209 (by decide) ?_
                  refine lv_iadd hx hb dX7_goOn_210 ?_
                  refine lv_topi (fun x_36 ex_36 => ?_)
                  have hx_36 := z_add ex_36 rfl (zk (x := 1) 1 rfl) (by omega) (by omega)
                  have hFc := tw_free hF hS hA
                  refine va_callv (va_runV (As := [.int p0, .int x_31, .int r_25, .int x_32, .int x_34, .int x_35, .int x_36]) (rest := []) ⟨hx, hb, hml, hown, hts⟩ (c_goOn1 l dC dI ad av H.size a k τ ln y_28 g u p0 x_31 r_25 x_32 x_34 x_35 x_36 nP nH hI (by omega) (by omega) gn (by rw [hG.at (fx_41 hX) (by decide)]; exact gp) (by rw [hG.at (fx_42 hX) (by decide)]; exact gh) (by omega) (by omega) (by omega)) (cwV 7 hts (gi_4 (List.mem_cons_of_mem _ (List.mem_append_left _ (List.mem_of_getElem? (i := 36) rfl))) (List.mem_cons_of_mem _ (List.mem_append_left _ (List.mem_of_getElem? (i := 37) rfl))) (List.mem_cons_of_mem _ (List.mem_append_left _ (List.mem_of_getElem? (i := 38) rfl))) (List.mem_cons_of_mem _ (List.mem_append_left _ (List.mem_of_getElem? (i := 4) rfl))) (fun _ hh => (List.mem_cons_of_mem _ (List.mem_append_right _ (List.mem_append_right _ (List.mem_append_right _ (List.mem_append_right _ (List.mem_append_right _ (List.mem_append_right _ (List.mem_append_right _ (List.mem_append_right _ (List.mem_append_right _ (List.mem_append_right _ (List.mem_append_left _ hh))))))))))))) gd_c_goOn1) rfl rfl rfl (by decide +kernel) ⟨Nat.le_of_ble_eq_true rfl, Nat.le_of_ble_eq_true rfl⟩) ⟨pw_blind, tw_recv hK hT (fx_6 hX) (by decide) cl_e16 rfl, pw_use hT hK hFc hS hM⟩ rfl rfl hl.1 rfl (lv_room (Nat.le_of_ble_eq_true rfl)) dX7_goOn_211 ⟨Nat.le_of_ble_eq_true rfl, Nat.le_of_ble_eq_true rfl⟩) hS (fun q _ h => hFc q h) hFc (fun u0 t H locs ht hvm hw hB hz1 hk1 hS => ?_)
                  refine W.widen (k := 0) (n := 0) (Nat.le_of_ble_eq_true rfl) (Nat.le_of_ble_eq_true rfl) ?_
                  clear hvm hz1 hk1
                  obtain ⟨y_38, hgy_38, hf_39, hf_40, hf_41, hT⟩ := hB
                  rw [ht] at hT
                  have hG := hG.tr hgy_38 (by decide)
                  have hI := hI.ag hgy_38 (by decide)
                  obtain ⟨x_42, ex_42⟩ : ∃ y : Int32, y = i9 + Int32.ofInt 1 := ⟨_, rfl⟩
                  have hx_42 := z_add ex_42 rfl (zk (x := Int32.ofInt 1) 1 rfl) (by omega) (by omega)
                  refine lv_iinc (v := x_42) (lv' := [(9, .int x_42), (14, .int x_27), (13, .int r_25), (12, .int r_24), (11, .ref q_21), (10, .int (y_L62 (a 41) i9.toNatClampNeg)), (0, .ref (a 6)), (1, .int p0), (2, .int p1), (3, .int p2), (4, .int p3), (5, .int p4), (6, .int p5), (7, .int p6), (8, .int (y_9 (a 42) p0.toNatClampNeg))]) hx hb dX7_goOn_214 hl (k := 14) rfl ex_42.symm (by decide) rfl (fun ls hl => ?_)
                  refine lv_goto (tgt := 62) hx hb dX7_goOn_217 (by decide) ?_
                  exact ih_62  x_42 y_38 H _ ls (by omega) hG hI (by omega) (by omega) (by omega) (by omega) (by omega) hT hS (lv_sub hl [6, 7, 8, 9, 10, 11, 12, 13, 14, 0] rfl)
                · have nc_33 := z_nle rfl (zk (x := 0) 0 rfl) c_33
                  refine lv_iconst (v := 1) hx hb dX7_goOn_196 (by decide) ?_
                  refine lv_goto (tgt := 201) hx hb dX7_goOn_197 (by decide) ?_
                  refine lv_iadd hx hb dX7_goOn_201 ?_
                  refine lv_topi (fun x_43 ex_43 => ?_)
                  refine lv_iload hx hb dX7_goOn_202 (lv_at hl 11 rfl) ?_
                  refine lv_iload hx hb dX7_goOn_204 (lv_at hl 0 rfl) ?_
                  refine lv_iadd hx hb dX7_goOn_206 ?_
                  refine lv_topi (fun x_44 ex_44 => ?_)
                  refine lv_iload hx hb dX7_goOn_207 (lv_at hl 12 rfl) ?_
                  refine lv_iconst (v := 1) hx hb dX7_goOn_209 (by decide) ?_
                  refine lv_iadd hx hb dX7_goOn_210 ?_
                  refine lv_topi (fun x_45 ex_45 => ?_)
                  have hx_45 := z_add ex_45 rfl (zk (x := 1) 1 rfl) (by omega) (by omega)
                  have hFc := tw_free hF hS hA
                  refine va_callv (va_runV (As := [.int p0, .int x_31, .int r_25, .int x_32, .int x_43, .int x_44, .int x_45]) (rest := []) ⟨hx, hb, hml, hown, hts⟩ (c_goOn1 l dC dI ad av H.size a k τ ln y_28 g u p0 x_31 r_25 x_32 x_43 x_44 x_45 nP nH hI (by omega) (by omega) gn (by rw [hG.at (fx_41 hX) (by decide)]; exact gp) (by rw [hG.at (fx_42 hX) (by decide)]; exact gh) (by omega) (by omega) (by omega)) (cwV 7 hts (gi_4 (List.mem_cons_of_mem _ (List.mem_append_left _ (List.mem_of_getElem? (i := 36) rfl))) (List.mem_cons_of_mem _ (List.mem_append_left _ (List.mem_of_getElem? (i := 37) rfl))) (List.mem_cons_of_mem _ (List.mem_append_left _ (List.mem_of_getElem? (i := 38) rfl))) (List.mem_cons_of_mem _ (List.mem_append_left _ (List.mem_of_getElem? (i := 4) rfl))) (fun _ hh => (List.mem_cons_of_mem _ (List.mem_append_right _ (List.mem_append_right _ (List.mem_append_right _ (List.mem_append_right _ (List.mem_append_right _ (List.mem_append_right _ (List.mem_append_right _ (List.mem_append_right _ (List.mem_append_right _ (List.mem_append_right _ (List.mem_append_left _ hh))))))))))))) gd_c_goOn1) rfl rfl rfl (by decide +kernel) ⟨Nat.le_of_ble_eq_true rfl, Nat.le_of_ble_eq_true rfl⟩) ⟨pw_blind, tw_recv hK hT (fx_6 hX) (by decide) cl_e16 rfl, pw_use hT hK hFc hS hM⟩ rfl rfl hl.1 rfl (lv_room (Nat.le_of_ble_eq_true rfl)) dX7_goOn_211 ⟨Nat.le_of_ble_eq_true rfl, Nat.le_of_ble_eq_true rfl⟩) hS (fun q _ h => hFc q h) hFc (fun u0 t H locs ht hvm hw hB hz1 hk1 hS => ?_)
                  refine W.widen (k := 0) (n := 0) (Nat.le_of_ble_eq_true rfl) (Nat.le_of_ble_eq_true rfl) ?_
                  clear hvm hz1 hk1
                  obtain ⟨y_47, hgy_47, hf_48, hf_49, hf_50, hT⟩ := hB
                  rw [ht] at hT
                  have hG := hG.tr hgy_47 (by decide)
                  have hI := hI.ag hgy_47 (by decide)
                  obtain ⟨x_51, ex_51⟩ : ∃ y : Int32, y = i9 + Int32.ofInt 1 := ⟨_, rfl⟩
                  have hx_51 := z_add ex_51 rfl (zk (x := Int32.ofInt 1) 1 rfl) (by omega) (by omega)
                  refine lv_iinc (v := x_51) (lv' := [(9, .int x_51), (14, .int x_27), (13, .int r_25), (12, .int r_24), (11, .ref q_21), (10, .int (y_L62 (a 41) i9.toNatClampNeg)), (0, .ref (a 6)), (1, .int p0), (2, .int p1), (3, .int p2), (4, .int p3), (5, .int p4), (6, .int p5), (7, .int p6), (8, .int (y_9 (a 42) p0.toNatClampNeg))]) hx hb dX7_goOn_214 hl (k := 14) rfl ex_51.symm (by decide) rfl (fun ls hl => ?_)
                  refine lv_goto (tgt := 62) hx hb dX7_goOn_217 (by decide) ?_
                  exact ih_62  x_51 y_47 H _ ls (by omega) hG hI (by omega) (by omega) (by omega) (by omega) (by omega) hT hS (lv_sub hl [6, 7, 8, 9, 10, 11, 12, 13, 14, 0] rfl)
        have hp_52 : (0 : Int32).toInt = 0 := (zk (x := 0) 0 rfl)
        exact loop_62 _ (0 : Int32) y_9 H _ ls (Nat.lt_succ_self _) hG hI (by omega) (by omega) (by omega) (by omega) (by omega) hT hS (lv_sub hl [2, 3, 4, 5, 6, 7, 8, 9, 1, 0] rfl)
      · refine lq_top (v := 0) hre ?_
        rw [ht] at hT
        refine lv_if_ne (tgt := 27) hx hb dX7_goOn_23 (by decide) (fun c_53 => absurd c_53 (by decide)) (fun c_53 => ?_)
        exact W.vret hx hb hr (fun t ht hW9 => ⟨⟨(), rfl, trivial, ⟨y, hG, by omega, by omega, by omega, tw_at ht hT⟩⟩, hS.F ht⟩) hS.2.2 dX7_goOn_26
def wo_c_beginHand0 : List Cond := [.fieldLink RX7 78 "TypingPool$Planner" "handCount" "I", .fieldLink RX7 15 "TypingPool$Planner" "hands" "[I", .fieldLink RX7 31 "TypingPool$Planner" "floor" "LTypingPool$Floor;", .fieldLink RX7 92 "TypingPool$Floor" "now" "I", .fieldLink RX7 95 "TypingPool$Floor" "words" "[I", .fieldLink RX7 98 "TypingPool$Floor" "has" "[I", .fieldLink RX7 27 "TypingPool$Planner" "book" "LTypingPool$Book;", .methodLink RX7 67 yX1_hasPiece, .instanceMethod yX1_hasPiece, .selects RX1 yX1_hasPiece yX1_hasPiece, .initialized RX1, .fieldLink RX7 101 "TypingPool$Floor" "workLeft" "[I", .fieldLink RX7 104 "TypingPool$Floor" "rate" "[I", .initialized RX11, .static yX11_minutesFor, .methodLink RX7 111 yX1_minuteAfterWork, .instanceMethod yX1_minuteAfterWork, .selects RX1 yX1_minuteAfterWork yX1_minuteAfterWork, .fieldLink RX7 115 "TypingPool$Book" "pieces" "[LTypingPool$Piece;", .fieldLink RX7 118 "TypingPool$Piece" "words" "I", .methodLink RX7 122 yX7_goOn, .instanceMethod yX7_goOn, .selects RX7 yX7_goOn yX7_goOn, .initialized RX7, .methodLink RX7 88 yX7_keep, .instanceMethod yX7_keep, .selects RX7 yX7_keep yX7_keep]
def wm_c_beginHand0 : List Cond := .code yX7_beginHand cX7_beginHand 11 none :: (wo_c_beginHand0 ++ (wsX70 ++ (wsX30 ++ (wm_c_hasPiece ++ (wm_c_minutesFor ++ (wm_c_minuteAfterWork ++ (wsX10 ++ (wsX60 ++ (wm_c_goOn0 ++ (wm_c_keep ++ ([] : List Cond)))))))))))
theorem gd_c_beginHand0 : ∀ w ∈ wm_c_beginHand0, goodWord w = true := gd_c rfl (gd_a (by decide) (gd_a gd_wsX70 (gd_a gd_wsX30 (gd_a gd_c_hasPiece (gd_a gd_c_minutesFor (gd_a gd_c_minuteAfterWork (gd_a gd_wsX10 (gd_a gd_wsX60 (gd_a gd_c_goOn0 (gd_a gd_c_keep gd_nil))))))))))
set_option maxRecDepth 20000 in
theorem im_c_beginHand0 : ∀ w ∈ wm_c_beginHand0, w ∈ lw_tbl := im_c (in_r [.code yX7_beginHand cX7_beginHand 11 none] [1042] (by decide +kernel)) (in_app (in_r wo_c_beginHand0 [520, 519, 516, 430, 438, 432, 515, 1027, 841, 842, 71, 450, 435, 70, 845, 1053, 1054, 1055, 128, 687, 1057, 1059, 24, 85, 1043, 1045, 22] (by decide +kernel)) (in_app im_wsX70 (in_app im_wsX30 (in_app im_c_hasPiece (in_app im_c_minutesFor (in_app im_c_minuteAfterWork (in_app im_wsX10 (in_app im_wsX60 (in_app im_c_goOn0 (in_app im_c_keep im_nil))))))))))
set_option maxHeartbeats 4000000 in
set_option maxRecDepth 100000 in
theorem c_beginHand0 (l : Launch) (dC : Nat → ClassId) (dI : Nat → Nat → Nat) (ad av : Nat → Nat) (sz : Nat) (a : Nat → Nat) (k : Nat → ClassId) (τ ln : Nat → Nat) (y : Nat → Nat → Int32) (g : Nat → Nat → Option Nat) (u : Nat → Int) (p0 : Int32) (p1 : Int32) (p2 : Int32) (p3 : Int32) (p4 : Int32) (nP : Int) (nH : Int) (hI : IC a u τ ln y g) (g3 : (y (a 6) 3).toInt = nP) (g5 : (y (a 6) 5).toInt = nH) (gn : (0 ≤ nP ∧ nP ≤ 5) ∧ 0 ≤ nH ∧ nH ≤ 3) (gp : vl nP (u 2) (y (a 41))) (gh : vl nH (u 1) (y (a 42))) (g9 : 0 ≤ (y (a 6) 9).toInt ∧ (y (a 6) 9).toInt ≤ 8) (hp0 : 0 ≤ p0.toInt) (hlen : p4.toInt = 0) : Met l yX7_beginHand wm_c_beginHand0 ({ frames := 19, cells := 0, slots := 0, locals := 1140 }) (pw_ ad av (dC, dI) sz [.ref (a 6), .int p0, .int p1, .int p2, .int p3, .int p4] a k τ ln y g) (va_Qv (fun (_ : Unit) => True) (fun (_ : Unit) (t : State) => (∃ (y' : Nat → Nat → Int32), ag τ [16, 54, 55] y y' ∧ (y' (a 6) 3).toInt = (y (a 6) 3).toInt ∧ (y' (a 6) 5).toInt = (y (a 6) 5).toInt ∧ (0 ≤ (y' (a 6) 9).toInt ∧ (y' (a 6) 9).toInt ≤ 8) ∧ tw (dC, dI) a k τ ln y' g t.heap)) (fr τ sz)) 0 0 (fr τ sz) := by
  refine Met.ofW (cc := cX7_beginHand) (maxL := 11) (ret := none) (by decide) rfl ?_
  intro p e s m args below meth c s₁ B hml hv
  obtain ⟨rfl, hsz, hT, hK, hM⟩ := hv
  have hx := B.exec
  have hb := B.bytes
  have hr := B.returns
  have hts := atoms_spec (ws := wm_c_beginHand0) B.pre
  have hown : s.vm.findClass RX7 = some m.cls := findClass_of_methodNamed B.named
  have hlocks := B.notSynchronized
  subst hsz
  generalize hAe : fr τ s.heap.size = A at hM ⊢
  have hA : ∀ q : Nat, s.heap.size ≤ q → A q := fun q h => by rw [← hAe]; exact Or.inr h
  have hF : ∀ q, τ q ≠ 0 → A q := fun q h => by rw [← hAe]; exact Or.inl h
  have hS : va_S A s.heap s.heap [] := va_S.rf
  have hX := hI.1
  have hR := ic_r hI
  have hG : ag τ [16, 54, 55] y y := ag.rf
  have hl := lv_entry ([.ref (a 6), .int p0, .int p1, .int p2, .int p3, .int p4]) (n := 11) (Nat.le_of_ble_eq_true rfl)
  rw [lg_entry_eq]
  generalize (lg_sl ([.ref (a 6), .int p0, .int p1, .int p2, .int p3, .int p4]) ++ List.replicate (11 - (lg_sl ([.ref (a 6), .int p0, .int p1, .int p2, .int p3, .int p4])).length) Slot.unset).toArray = ls at hl ⊢
  have hl : lv_has ls 11 [(0, .ref (a 6)), (1, .int p0), (2, .int p1), (3, .int p2), (4, .int p3), (5, .int p4)] := hl
  refine lv_iload_n hx hb dX7_beginHand_0 rfl (lv_at hl 1 rfl) ?_
  refine lv_aload_n hx hb dX7_beginHand_1 rfl (lv_at hl 0 rfl) ?_
  refine tw_get (D := (dC, dI)) (v := .int (y (a 6) 5)) (C := RX7) (T := TX7) (N := 13) hx hb hts (fun _ hh => (List.mem_cons_of_mem _ (List.mem_append_right _ (List.mem_append_left _ hh)))) hown hK hT (fx_6 hX) (by decide) cl_e16 rfl 5 (by decide) (hts (.fieldLink RX7 78 "TypingPool$Planner" "handCount" "I") (List.mem_cons_of_mem _ (List.mem_append_left _ (List.mem_of_getElem? (i := 0) rfl)))) (fun _ h9 => h9) rfl dX7_beginHand_2 ?_
  refine lv_icmp_lt (tgt := 22) hx hb dX7_beginHand_5 (by decide) (fun c_1 => ?_) (fun c_1 => ?_)
  · have nc_1 := z_lt rfl rfl c_1
    refine lv_aload_n hx hb dX7_beginHand_22 rfl (lv_at hl 0 rfl) ?_
    refine tw_get (D := (dC, dI)) (v := .ref (a 42)) (C := RX7) (T := TX7) (N := 13) hx hb hts (fun _ hh => (List.mem_cons_of_mem _ (List.mem_append_right _ (List.mem_append_left _ hh)))) hown hK hT (fx_6 hX) (by decide) cl_e16 rfl 4 (by decide) (hts (.fieldLink RX7 15 "TypingPool$Planner" "hands" "[I") (List.mem_cons_of_mem _ (List.mem_append_left _ (List.mem_of_getElem? (i := 1) rfl)))) (fun _ h9 => h9) rfl dX7_beginHand_23 ?_
    refine lv_iload_n hx hb dX7_beginHand_26 rfl (lv_at hl 1 rfl) ?_
    refine tw_iald hx hb hK hT 0 (fx_42 hX) (by decide) cl_e52 rfl (z_in rfl (by omega) (by omega)) dX7_beginHand_27 ?_
    have hv0 : vl nH (u 1) (y (a 42)) := gh
    have hv_2 := vl_at hv0 (x := p0) rfl (by omega) (by omega)
    refine lv_istore (lv' := [(6, .int (y (a 42) p0.toNatClampNeg)), (0, .ref (a 6)), (1, .int p0), (2, .int p1), (3, .int p2), (4, .int p3), (5, .int p4)]) hx hb dX7_beginHand_28 hl (by decide) rfl (fun ls hl => ?_)
    refine lv_aload_n hx hb dX7_beginHand_30 rfl (lv_at hl 1 rfl) ?_
    refine tw_get (D := (dC, dI)) (v := .ref (a 3)) (C := RX7) (T := TX7) (N := 13) hx hb hts (fun _ hh => (List.mem_cons_of_mem _ (List.mem_append_right _ (List.mem_append_left _ hh)))) hown hK hT (fx_6 hX) (by decide) cl_e16 rfl 1 (by decide) (hts (.fieldLink RX7 31 "TypingPool$Planner" "floor" "LTypingPool$Floor;") (List.mem_cons_of_mem _ (List.mem_append_left _ (List.mem_of_getElem? (i := 2) rfl)))) (fun _ h9 => h9) rfl dX7_beginHand_31 ?_
    refine tw_get (D := (dC, dI)) (v := .int (y (a 3) 2)) (C := RX3) (T := TX3) (N := 12) hx hb hts (fun _ hh => (List.mem_cons_of_mem _ (List.mem_append_right _ (List.mem_append_right _ (List.mem_append_left _ hh))))) hown hK hT (fx_3 hX) (by decide) cl_e13 rfl 2 (by decide) (hts (.fieldLink RX7 92 "TypingPool$Floor" "now" "I") (List.mem_cons_of_mem _ (List.mem_append_left _ (List.mem_of_getElem? (i := 3) rfl)))) (fun _ h9 => h9) rfl dX7_beginHand_34 ?_
    refine lv_istore (lv' := [(7, .int (y (a 3) 2)), (6, .int (y (a 42) p0.toNatClampNeg)), (0, .ref (a 6)), (1, .int p0), (2, .int p1), (3, .int p2), (4, .int p3), (5, .int p4)]) hx hb dX7_beginHand_37 hl (by decide) rfl (fun ls hl => ?_)
    refine lv_aload_n hx hb dX7_beginHand_39 rfl (lv_at hl 2 rfl) ?_
    refine tw_get (D := (dC, dI)) (v := .ref (a 3)) (C := RX7) (T := TX7) (N := 13) hx hb hts (fun _ hh => (List.mem_cons_of_mem _ (List.mem_append_right _ (List.mem_append_left _ hh)))) hown hK hT (fx_6 hX) (by decide) cl_e16 rfl 1 (by decide) (hts (.fieldLink RX7 31 "TypingPool$Planner" "floor" "LTypingPool$Floor;") (List.mem_cons_of_mem _ (List.mem_append_left _ (List.mem_of_getElem? (i := 2) rfl)))) (fun _ h9 => h9) rfl dX7_beginHand_40 ?_
    refine tw_get (D := (dC, dI)) (v := .ref (a 22)) (C := RX3) (T := TX3) (N := 12) hx hb hts (fun _ hh => (List.mem_cons_of_mem _ (List.mem_append_right _ (List.mem_append_right _ (List.mem_append_left _ hh))))) hown hK hT (fx_3 hX) (by decide) cl_e13 rfl 5 (by decide) (hts (.fieldLink RX7 95 "TypingPool$Floor" "words" "[I") (List.mem_cons_of_mem _ (List.mem_append_left _ (List.mem_of_getElem? (i := 4) rfl)))) (fun _ h9 => h9) rfl dX7_beginHand_43 ?_
    refine lv_iload hx hb dX7_beginHand_46 (lv_at hl 1 rfl) ?_
    refine tw_iald hx hb hK hT 0 (fx_22 hX) (by decide) cl_e32 rfl (z_in rfl (by omega) (by omega)) dX7_beginHand_48 ?_
    refine lv_istore (lv' := [(8, .int (y (a 22) (y (a 42) p0.toNatClampNeg).toNatClampNeg)), (7, .int (y (a 3) 2)), (6, .int (y (a 42) p0.toNatClampNeg)), (0, .ref (a 6)), (1, .int p0), (2, .int p1), (3, .int p2), (4, .int p3), (5, .int p4)]) hx hb dX7_beginHand_49 hl (by decide) rfl (fun ls hl => ?_)
    refine lv_aload_n hx hb dX7_beginHand_51 rfl (lv_at hl 3 rfl) ?_
    refine tw_get (D := (dC, dI)) (v := .ref (a 3)) (C := RX7) (T := TX7) (N := 13) hx hb hts (fun _ hh => (List.mem_cons_of_mem _ (List.mem_append_right _ (List.mem_append_left _ hh)))) hown hK hT (fx_6 hX) (by decide) cl_e16 rfl 1 (by decide) (hts (.fieldLink RX7 31 "TypingPool$Planner" "floor" "LTypingPool$Floor;") (List.mem_cons_of_mem _ (List.mem_append_left _ (List.mem_of_getElem? (i := 2) rfl)))) (fun _ h9 => h9) rfl dX7_beginHand_52 ?_
    refine tw_get (D := (dC, dI)) (v := .ref (a 20)) (C := RX3) (T := TX3) (N := 12) hx hb hts (fun _ hh => (List.mem_cons_of_mem _ (List.mem_append_right _ (List.mem_append_right _ (List.mem_append_left _ hh))))) hown hK hT (fx_3 hX) (by decide) cl_e13 rfl 3 (by decide) (hts (.fieldLink RX7 98 "TypingPool$Floor" "has" "[I") (List.mem_cons_of_mem _ (List.mem_append_left _ (List.mem_of_getElem? (i := 5) rfl)))) (fun _ h9 => h9) rfl dX7_beginHand_55 ?_
    refine lv_iload hx hb dX7_beginHand_58 (lv_at hl 2 rfl) ?_
    refine tw_iald hx hb hK hT 0 (fx_20 hX) (by decide) cl_e30 rfl (z_in rfl (by omega) (by omega)) dX7_beginHand_60 ?_
    refine lv_istore (lv' := [(9, .int (y (a 20) (y (a 42) p0.toNatClampNeg).toNatClampNeg)), (8, .int (y (a 22) (y (a 42) p0.toNatClampNeg).toNatClampNeg)), (7, .int (y (a 3) 2)), (6, .int (y (a 42) p0.toNatClampNeg)), (0, .ref (a 6)), (1, .int p0), (2, .int p1), (3, .int p2), (4, .int p3), (5, .int p4)]) hx hb dX7_beginHand_61 hl (by decide) rfl (fun ls hl => ?_)
    refine lv_aload_n hx hb dX7_beginHand_63 rfl (lv_at hl 4 rfl) ?_
    refine tw_get (D := (dC, dI)) (v := .ref (a 1)) (C := RX7) (T := TX7) (N := 13) hx hb hts (fun _ hh => (List.mem_cons_of_mem _ (List.mem_append_right _ (List.mem_append_left _ hh)))) hown hK hT (fx_6 hX) (by decide) cl_e16 rfl 0 (by decide) (hts (.fieldLink RX7 27 "TypingPool$Planner" "book" "LTypingPool$Book;") (List.mem_cons_of_mem _ (List.mem_append_left _ (List.mem_of_getElem? (i := 6) rfl)))) (fun _ h9 => h9) rfl dX7_beginHand_64 ?_
    refine lv_iload hx hb dX7_beginHand_67 (lv_at hl 0 rfl) ?_
    have hFc := tw_free hF hS hA
    refine va_calli (va_runV (As := [.int (y (a 20) (y (a 42) p0.toNatClampNeg).toNatClampNeg)]) (rest := []) ⟨hx, hb, hml, hown, hts⟩ (c_hasPiece l dC dI ad av s.heap.size a k τ ln y g u (y (a 20) (y (a 42) p0.toNatClampNeg).toNatClampNeg) hI ) (cwV 1 hts (gi_4 (List.mem_cons_of_mem _ (List.mem_append_left _ (List.mem_of_getElem? (i := 7) rfl))) (List.mem_cons_of_mem _ (List.mem_append_left _ (List.mem_of_getElem? (i := 8) rfl))) (List.mem_cons_of_mem _ (List.mem_append_left _ (List.mem_of_getElem? (i := 9) rfl))) (List.mem_cons_of_mem _ (List.mem_append_left _ (List.mem_of_getElem? (i := 10) rfl))) (fun _ hh => (List.mem_cons_of_mem _ (List.mem_append_right _ (List.mem_append_right _ (List.mem_append_right _ (List.mem_append_left _ hh)))))) gd_c_hasPiece) rfl rfl rfl (by decide +kernel) ⟨Nat.le_of_ble_eq_true rfl, Nat.le_of_ble_eq_true rfl⟩) ⟨pw_blind, tw_recv hK hT (fx_1 hX) (by decide) cl_e11 rfl, pw_use hT hK hFc hS hM⟩ rfl rfl hl.1 rfl (lv_room (Nat.le_of_ble_eq_true rfl)) dX7_beginHand_69 ⟨Nat.le_of_ble_eq_true rfl, Nat.le_of_ble_eq_true rfl⟩) hS (fun q _ h => hFc q h) hFc (fun r0 r_3 t H locs ht hvm hw hB hz1 hk1 hS => ?_)
    refine W.widen (k := 0) (n := 0) (Nat.le_of_ble_eq_true rfl) (Nat.le_of_ble_eq_true rfl) ?_
    clear hvm hz1 hk1
    subst hw
    rcases hB with ⟨hre, hf_4, hf_5, hT⟩ | ⟨hre, hf_6, hT⟩
    · refine lq_top (v := 1) hre ?_
      rw [ht] at hT
      refine lv_if_eq (tgt := 133) hx hb dX7_beginHand_72 (by decide) (fun c_7 => absurd c_7 (by decide)) (fun c_7 => ?_)
      refine lv_aload_n hx hb dX7_beginHand_75 rfl (lv_at hl 4 rfl) ?_
      refine tw_get (D := (dC, dI)) (v := .ref (a 3)) (C := RX7) (T := TX7) (N := 13) hx hb hts (fun _ hh => (List.mem_cons_of_mem _ (List.mem_append_right _ (List.mem_append_left _ hh)))) hown hK hT (fx_6 hX) (by decide) cl_e16 rfl 1 (by decide) (hts (.fieldLink RX7 31 "TypingPool$Planner" "floor" "LTypingPool$Floor;") (List.mem_cons_of_mem _ (List.mem_append_left _ (List.mem_of_getElem? (i := 2) rfl)))) (fun _ h9 => h9) rfl dX7_beginHand_76 ?_
      refine tw_get (D := (dC, dI)) (v := .ref (a 27)) (C := RX3) (T := TX3) (N := 12) hx hb hts (fun _ hh => (List.mem_cons_of_mem _ (List.mem_append_right _ (List.mem_append_right _ (List.mem_append_left _ hh))))) hown hK hT (fx_3 hX) (by decide) cl_e13 rfl 10 (by decide) (hts (.fieldLink RX7 101 "TypingPool$Floor" "workLeft" "[I") (List.mem_cons_of_mem _ (List.mem_append_left _ (List.mem_of_getElem? (i := 11) rfl)))) (fun _ h9 => h9) rfl dX7_beginHand_79 ?_
      refine lv_iload hx hb dX7_beginHand_82 (lv_at hl 0 rfl) ?_
      refine tw_iald hx hb hK hT 0 (fx_27 hX) (by decide) cl_e37 rfl (z_in rfl (by omega) (by omega)) dX7_beginHand_84 ?_
      refine lv_aload_n hx hb dX7_beginHand_85 rfl (lv_at hl 4 rfl) ?_
      refine tw_get (D := (dC, dI)) (v := .ref (a 3)) (C := RX7) (T := TX7) (N := 13) hx hb hts (fun _ hh => (List.mem_cons_of_mem _ (List.mem_append_right _ (List.mem_append_left _ hh)))) hown hK hT (fx_6 hX) (by decide) cl_e16 rfl 1 (by decide) (hts (.fieldLink RX7 31 "TypingPool$Planner" "floor" "LTypingPool$Floor;") (List.mem_cons_of_mem _ (List.mem_append_left _ (List.mem_of_getElem? (i := 2) rfl)))) (fun _ h9 => h9) rfl dX7_beginHand_86 ?_
      refine tw_get (D := (dC, dI)) (v := .ref (a 21)) (C := RX3) (T := TX3) (N := 12) hx hb hts (fun _ hh => (List.mem_cons_of_mem _ (List.mem_append_right _ (List.mem_append_right _ (List.mem_append_left _ hh))))) hown hK hT (fx_3 hX) (by decide) cl_e13 rfl 4 (by decide) (hts (.fieldLink RX7 104 "TypingPool$Floor" "rate" "[I") (List.mem_cons_of_mem _ (List.mem_append_left _ (List.mem_of_getElem? (i := 12) rfl)))) (fun _ h9 => h9) rfl dX7_beginHand_89 ?_
      refine lv_iload hx hb dX7_beginHand_92 (lv_at hl 3 rfl) ?_
      refine tw_iald hx hb hK hT 0 (fx_21 hX) (by decide) cl_e31 rfl (z_in rfl (by omega) (by omega)) dX7_beginHand_94 ?_
      have hFc := tw_free hF hS hA
      refine va_calli (va_runSN (As := [.int (y (a 27) (y (a 20) (y (a 42) p0.toNatClampNeg).toNatClampNeg).toNatClampNeg), .int (y (a 21) (y (a 42) p0.toNatClampNeg).toNatClampNeg)]) (rest := []) ⟨hx, hb, hml, hown, hts⟩ (c_minutesFor l dC dI ad av H.size a k τ ln y g u (y (a 27) (y (a 20) (y (a 42) p0.toNatClampNeg).toNatClampNeg).toNatClampNeg) (y (a 21) (y (a 42) p0.toNatClampNeg).toNatClampNeg)  ) ⟨va_cnB 2 hts (gi_0  (fun _ hh => (List.mem_cons_of_mem _ (List.mem_append_right _ (List.mem_append_right _ (List.mem_append_right _ (List.mem_append_right _ (List.mem_append_left _ hh))))))) gd_c_minutesFor) rfl rfl rfl hM.1.2.2.2.1 (hts (.initialized RX11) (List.mem_cons_of_mem _ (List.mem_append_left _ (List.mem_of_getElem? (i := 13) rfl)))) (by decide +kernel) ⟨Nat.le_of_ble_eq_true rfl, Nat.le_of_ble_eq_true rfl⟩, (hts (.static yX11_minutesFor) (List.mem_cons_of_mem _ (List.mem_append_left _ (List.mem_of_getElem? (i := 14) rfl)))), trivial⟩ ⟨pw_blind, pw_use hT hK hFc hS hM⟩ rfl rfl hl.1 rfl (lv_room (Nat.le_of_ble_eq_true rfl)) dX7_beginHand_95 ⟨Nat.le_of_ble_eq_true rfl, Nat.le_of_ble_eq_true rfl⟩) hS (fun q _ h => hFc q h) hFc (fun r0 r_8 t H locs ht hvm hw hB hz1 hk1 hS => ?_)
      refine W.widen (k := 0) (n := 0) (Nat.le_of_ble_eq_true rfl) (Nat.le_of_ble_eq_true rfl) ?_
      clear hvm hz1 hk1
      subst hw
      have hT := hB
      rw [ht] at hT
      refine lv_istore (lv' := [(10, .int r_8), (9, .int (y (a 20) (y (a 42) p0.toNatClampNeg).toNatClampNeg)), (8, .int (y (a 22) (y (a 42) p0.toNatClampNeg).toNatClampNeg)), (7, .int (y (a 3) 2)), (6, .int (y (a 42) p0.toNatClampNeg)), (0, .ref (a 6)), (1, .int p0), (2, .int p1), (3, .int p2), (4, .int p3), (5, .int p4)]) hx hb dX7_beginHand_98 hl (by decide) rfl (fun ls hl => ?_)
      refine lv_aload_n hx hb dX7_beginHand_100 rfl (lv_at hl 5 rfl) ?_
      refine tw_get (D := (dC, dI)) (v := .ref (a 1)) (C := RX7) (T := TX7) (N := 13) hx hb hts (fun _ hh => (List.mem_cons_of_mem _ (List.mem_append_right _ (List.mem_append_left _ hh)))) hown hK hT (fx_6 hX) (by decide) cl_e16 rfl 0 (by decide) (hts (.fieldLink RX7 27 "TypingPool$Planner" "book" "LTypingPool$Book;") (List.mem_cons_of_mem _ (List.mem_append_left _ (List.mem_of_getElem? (i := 6) rfl)))) (fun _ h9 => h9) rfl dX7_beginHand_101 ?_
      refine lv_iload hx hb dX7_beginHand_104 (lv_at hl 4 rfl) ?_
      refine lv_iload hx hb dX7_beginHand_106 (lv_at hl 3 rfl) ?_
      refine lv_iload hx hb dX7_beginHand_108 (lv_at hl 0 rfl) ?_
      have hFc := tw_free hF hS hA
      refine va_calli (va_runV (As := [.int (y (a 42) p0.toNatClampNeg), .int (y (a 3) 2), .int r_8]) (rest := []) ⟨hx, hb, hml, hown, hts⟩ (c_minuteAfterWork l dC dI ad av H.size a k τ ln y g u (y (a 42) p0.toNatClampNeg) (y (a 3) 2) r_8 hI ) (cwV 3 hts (gi_4 (List.mem_cons_of_mem _ (List.mem_append_left _ (List.mem_of_getElem? (i := 15) rfl))) (List.mem_cons_of_mem _ (List.mem_append_left _ (List.mem_of_getElem? (i := 16) rfl))) (List.mem_cons_of_mem _ (List.mem_append_left _ (List.mem_of_getElem? (i := 17) rfl))) (List.mem_cons_of_mem _ (List.mem_append_left _ (List.mem_of_getElem? (i := 10) rfl))) (fun _ hh => (List.mem_cons_of_mem _ (List.mem_append_right _ (List.mem_append_right _ (List.mem_append_right _ (List.mem_append_right _ (List.mem_append_right _ (List.mem_append_left _ hh)))))))) gd_c_minuteAfterWork) rfl rfl rfl (by decide +kernel) ⟨Nat.le_of_ble_eq_true rfl, Nat.le_of_ble_eq_true rfl⟩) ⟨pw_blind, tw_recv hK hT (fx_1 hX) (by decide) cl_e11 rfl, pw_use hT hK hFc hS hM⟩ rfl rfl hl.1 rfl (lv_room (Nat.le_of_ble_eq_true rfl)) dX7_beginHand_110 ⟨Nat.le_of_ble_eq_true rfl, Nat.le_of_ble_eq_true rfl⟩) hS (fun q _ h => hFc q h) hFc (fun r0 r_9 t H locs ht hvm hw hB hz1 hk1 hS => ?_)
      refine W.widen (k := 0) (n := 0) (Nat.le_of_ble_eq_true rfl) (Nat.le_of_ble_eq_true rfl) ?_
      clear hvm hz1 hk1
      subst hw
      have hT := hB
      rw [ht] at hT
      refine lv_istore (lv' := [(7, .int r_9), (10, .int r_8), (9, .int (y (a 20) (y (a 42) p0.toNatClampNeg).toNatClampNeg)), (8, .int (y (a 22) (y (a 42) p0.toNatClampNeg).toNatClampNeg)), (6, .int (y (a 42) p0.toNatClampNeg)), (0, .ref (a 6)), (1, .int p0), (2, .int p1), (3, .int p2), (4, .int p3), (5, .int p4)]) hx hb dX7_beginHand_113 hl (by decide) rfl (fun ls hl => ?_)
      refine lv_iload hx hb dX7_beginHand_115 (lv_at hl 3 rfl) ?_
      refine lv_aload_n hx hb dX7_beginHand_117 rfl (lv_at hl 5 rfl) ?_
      refine tw_get (D := (dC, dI)) (v := .ref (a 1)) (C := RX7) (T := TX7) (N := 13) hx hb hts (fun _ hh => (List.mem_cons_of_mem _ (List.mem_append_right _ (List.mem_append_left _ hh)))) hown hK hT (fx_6 hX) (by decide) cl_e16 rfl 0 (by decide) (hts (.fieldLink RX7 27 "TypingPool$Planner" "book" "LTypingPool$Book;") (List.mem_cons_of_mem _ (List.mem_append_left _ (List.mem_of_getElem? (i := 6) rfl)))) (fun _ h9 => h9) rfl dX7_beginHand_118 ?_
      refine tw_get (D := (dC, dI)) (v := .ref (a 11)) (C := RX1) (T := TX1) (N := 8) hx hb hts (fun _ hh => (List.mem_cons_of_mem _ (List.mem_append_right _ (List.mem_append_right _ (List.mem_append_right _ (List.mem_append_right _ (List.mem_append_right _ (List.mem_append_right _ (List.mem_append_left _ hh))))))))) hown hK hT (fx_1 hX) (by decide) cl_e11 rfl 4 (by decide) (hts (.fieldLink RX7 115 "TypingPool$Book" "pieces" "[LTypingPool$Piece;") (List.mem_cons_of_mem _ (List.mem_append_left _ (List.mem_of_getElem? (i := 18) rfl)))) (fun _ h9 => h9) rfl dX7_beginHand_121 ?_
      refine lv_iload hx hb dX7_beginHand_124 (lv_at hl 2 rfl) ?_
      refine tw_aald hx hb hK hT 4 (fx_11 hX) (by decide) cl_e21 rfl (z_in rfl (by omega) (by omega)) dX7_beginHand_126 ?_
      obtain ⟨q_10, hgq_10, htq_10⟩ := ic_l11 hI (x := (y (a 20) (y (a 42) p0.toNatClampNeg).toNatClampNeg)) rfl (by omega) (by omega)
      refine lq_topr hgq_10 ?_
      refine tw_get (D := (dC, dI)) (v := .int (y q_10 7)) (C := RX6) (T := TX6) (N := 11) hx hb hts (fun _ hh => (List.mem_cons_of_mem _ (List.mem_append_right _ (List.mem_append_right _ (List.mem_append_right _ (List.mem_append_right _ (List.mem_append_right _ (List.mem_append_right _ (List.mem_append_right _ (List.mem_append_left _ hh)))))))))) hown hK hT htq_10 (by decide) cl_e2 rfl 7 (by decide) (hts (.fieldLink RX7 118 "TypingPool$Piece" "words" "I") (List.mem_cons_of_mem _ (List.mem_append_left _ (List.mem_of_getElem? (i := 19) rfl)))) (fun _ h9 => h9) rfl dX7_beginHand_127 ?_
      refine lv_ior hx hb dX7_beginHand_130 ?_
      refine lv_topi (fun x_11 ex_11 => ?_)
      refine lv_istore (lv' := [(8, .int x_11), (7, .int r_9), (10, .int r_8), (9, .int (y (a 20) (y (a 42) p0.toNatClampNeg).toNatClampNeg)), (6, .int (y (a 42) p0.toNatClampNeg)), (0, .ref (a 6)), (1, .int p0), (2, .int p1), (3, .int p2), (4, .int p3), (5, .int p4)]) hx hb dX7_beginHand_131 hl (by decide) rfl (fun ls hl => ?_)
      refine lv_aload_n hx hb dX7_beginHand_133 rfl (lv_at hl 5 rfl) ?_
      refine lv_iload_n hx hb dX7_beginHand_134 rfl (lv_at hl 6 rfl) ?_
      refine lv_iload_n hx hb dX7_beginHand_135 rfl (lv_at hl 7 rfl) ?_
      refine lv_iload hx hb dX7_beginHand_136 (lv_at hl 1 rfl) ?_
      refine lv_iload hx hb dX7_beginHand_138 (lv_at hl 0 rfl) ?_
      refine lv_iload_n hx hb dX7_beginHand_140 rfl (lv_at hl 8 rfl) ?_
      refine lv_iload hx hb dX7_beginHand_141 (lv_at hl 9 rfl) ?_
      refine lv_iload hx hb dX7_beginHand_143 (lv_at hl 10 rfl) ?_
      have hFc := tw_free hF hS hA
      refine va_callv (va_runV (As := [.int p0, .int p1, .int r_9, .int x_11, .int p2, .int p3, .int p4]) (rest := []) ⟨hx, hb, hml, hown, hts⟩ (c_goOn0 l dC dI ad av H.size a k τ ln y g u p0 p1 r_9 x_11 p2 p3 p4 nP nH hI (by omega) (by omega) gn gp gh (by omega) (by omega) (by omega)) (cwV 7 hts (gi_4 (List.mem_cons_of_mem _ (List.mem_append_left _ (List.mem_of_getElem? (i := 20) rfl))) (List.mem_cons_of_mem _ (List.mem_append_left _ (List.mem_of_getElem? (i := 21) rfl))) (List.mem_cons_of_mem _ (List.mem_append_left _ (List.mem_of_getElem? (i := 22) rfl))) (List.mem_cons_of_mem _ (List.mem_append_left _ (List.mem_of_getElem? (i := 23) rfl))) (fun _ hh => (List.mem_cons_of_mem _ (List.mem_append_right _ (List.mem_append_right _ (List.mem_append_right _ (List.mem_append_right _ (List.mem_append_right _ (List.mem_append_right _ (List.mem_append_right _ (List.mem_append_right _ (List.mem_append_left _ hh))))))))))) gd_c_goOn0) rfl rfl rfl (by decide +kernel) ⟨Nat.le_of_ble_eq_true rfl, Nat.le_of_ble_eq_true rfl⟩) ⟨pw_blind, tw_recv hK hT (fx_6 hX) (by decide) cl_e16 rfl, pw_use hT hK hFc hS hM⟩ rfl rfl hl.1 rfl (lv_room (Nat.le_of_ble_eq_true rfl)) dX7_beginHand_145 ⟨Nat.le_of_ble_eq_true rfl, Nat.le_of_ble_eq_true rfl⟩) hS (fun q _ h => hFc q h) hFc (fun u0 t H locs ht hvm hw hB hz1 hk1 hS => ?_)
      refine W.widen (k := 0) (n := 0) (Nat.le_of_ble_eq_true rfl) (Nat.le_of_ble_eq_true rfl) ?_
      clear hvm hz1 hk1
      obtain ⟨y_13, hgy_13, hf_14, hf_15, hf_16, hT⟩ := hB
      rw [ht] at hT
      have hG := hG.tr hgy_13 (by decide)
      have hI := hI.ag hgy_13 (by decide)
      exact W.vret hx hb hr (fun t ht hW9 => ⟨⟨(), rfl, trivial, ⟨y_13, hG, by omega, by omega, by omega, tw_at ht hT⟩⟩, hS.F ht⟩) hS.2.2 dX7_beginHand_148
    · refine lq_top (v := 0) hre ?_
      rw [ht] at hT
      refine lv_if_eq (tgt := 133) hx hb dX7_beginHand_72 (by decide) (fun c_17 => ?_) (fun c_17 => absurd c_17 (by decide))
      refine lv_aload_n hx hb dX7_beginHand_133 rfl (lv_at hl 4 rfl) ?_
      refine lv_iload_n hx hb dX7_beginHand_134 rfl (lv_at hl 5 rfl) ?_
      refine lv_iload_n hx hb dX7_beginHand_135 rfl (lv_at hl 6 rfl) ?_
      refine lv_iload hx hb dX7_beginHand_136 (lv_at hl 2 rfl) ?_
      refine lv_iload hx hb dX7_beginHand_138 (lv_at hl 1 rfl) ?_
      refine lv_iload_n hx hb dX7_beginHand_140 rfl (lv_at hl 7 rfl) ?_
      refine lv_iload hx hb dX7_beginHand_141 (lv_at hl 8 rfl) ?_
      refine lv_iload hx hb dX7_beginHand_143 (lv_at hl 9 rfl) ?_
      have hFc := tw_free hF hS hA
      refine va_callv (va_runV (As := [.int p0, .int p1, .int (y (a 3) 2), .int (y (a 22) (y (a 42) p0.toNatClampNeg).toNatClampNeg), .int p2, .int p3, .int p4]) (rest := []) ⟨hx, hb, hml, hown, hts⟩ (c_goOn0 l dC dI ad av H.size a k τ ln y g u p0 p1 (y (a 3) 2) (y (a 22) (y (a 42) p0.toNatClampNeg).toNatClampNeg) p2 p3 p4 nP nH hI (by omega) (by omega) gn gp gh (by omega) (by omega) (by omega)) (cwV 7 hts (gi_4 (List.mem_cons_of_mem _ (List.mem_append_left _ (List.mem_of_getElem? (i := 20) rfl))) (List.mem_cons_of_mem _ (List.mem_append_left _ (List.mem_of_getElem? (i := 21) rfl))) (List.mem_cons_of_mem _ (List.mem_append_left _ (List.mem_of_getElem? (i := 22) rfl))) (List.mem_cons_of_mem _ (List.mem_append_left _ (List.mem_of_getElem? (i := 23) rfl))) (fun _ hh => (List.mem_cons_of_mem _ (List.mem_append_right _ (List.mem_append_right _ (List.mem_append_right _ (List.mem_append_right _ (List.mem_append_right _ (List.mem_append_right _ (List.mem_append_right _ (List.mem_append_right _ (List.mem_append_left _ hh))))))))))) gd_c_goOn0) rfl rfl rfl (by decide +kernel) ⟨Nat.le_of_ble_eq_true rfl, Nat.le_of_ble_eq_true rfl⟩) ⟨pw_blind, tw_recv hK hT (fx_6 hX) (by decide) cl_e16 rfl, pw_use hT hK hFc hS hM⟩ rfl rfl hl.1 rfl (lv_room (Nat.le_of_ble_eq_true rfl)) dX7_beginHand_145 ⟨Nat.le_of_ble_eq_true rfl, Nat.le_of_ble_eq_true rfl⟩) hS (fun q _ h => hFc q h) hFc (fun u0 t H locs ht hvm hw hB hz1 hk1 hS => ?_)
      refine W.widen (k := 0) (n := 0) (Nat.le_of_ble_eq_true rfl) (Nat.le_of_ble_eq_true rfl) ?_
      clear hvm hz1 hk1
      obtain ⟨y_19, hgy_19, hf_20, hf_21, hf_22, hT⟩ := hB
      rw [ht] at hT
      have hG := hG.tr hgy_19 (by decide)
      have hI := hI.ag hgy_19 (by decide)
      exact W.vret hx hb hr (fun t ht hW9 => ⟨⟨(), rfl, trivial, ⟨y_19, hG, by omega, by omega, by omega, tw_at ht hT⟩⟩, hS.F ht⟩) hS.2.2 dX7_beginHand_148
  · have nc_1 := z_nlt rfl rfl c_1
    refine lv_iload_n hx hb dX7_beginHand_8 rfl (lv_at hl 2 rfl) ?_
    refine lv_if_ne (tgt := 21) hx hb dX7_beginHand_9 (by decide) (fun c_23 => ?_) (fun c_23 => ?_)
    · have nc_23 := z_ne rfl (zk (x := 0) 0 rfl) c_23
      exact W.vret hx hb hr (fun t ht hW9 => ⟨⟨(), rfl, trivial, ⟨y, hG, by omega, by omega, by omega, tw_at ht hT⟩⟩, hS.F ht⟩) hS.2.2 dX7_beginHand_21
    · have nc_23 := z_eq rfl (zk (x := 0) 0 rfl) c_23
      refine lv_aload_n hx hb dX7_beginHand_12 rfl (lv_at hl 0 rfl) ?_
      refine lv_iload_n hx hb dX7_beginHand_13 rfl (lv_at hl 3 rfl) ?_
      refine lv_iload hx hb dX7_beginHand_14 (lv_at hl 4 rfl) ?_
      refine lv_iload hx hb dX7_beginHand_16 (lv_at hl 5 rfl) ?_
      have hFc := tw_free hF hS hA
      refine va_callv (va_runV (As := [.int p2, .int p3, .int p4]) (rest := []) ⟨hx, hb, hml, hown, hts⟩ (c_keep l dC dI ad av s.heap.size a k τ ln y g u p2 p3 p4 hI (by omega) (by omega) (by omega)) (cwV 3 hts (gi_4 (List.mem_cons_of_mem _ (List.mem_append_left _ (List.mem_of_getElem? (i := 24) rfl))) (List.mem_cons_of_mem _ (List.mem_append_left _ (List.mem_of_getElem? (i := 25) rfl))) (List.mem_cons_of_mem _ (List.mem_append_left _ (List.mem_of_getElem? (i := 26) rfl))) (List.mem_cons_of_mem _ (List.mem_append_left _ (List.mem_of_getElem? (i := 23) rfl))) (fun _ hh => (List.mem_cons_of_mem _ (List.mem_append_right _ (List.mem_append_right _ (List.mem_append_right _ (List.mem_append_right _ (List.mem_append_right _ (List.mem_append_right _ (List.mem_append_right _ (List.mem_append_right _ (List.mem_append_right _ (List.mem_append_left _ hh)))))))))))) gd_c_keep) rfl rfl rfl (by decide +kernel) ⟨Nat.le_of_ble_eq_true rfl, Nat.le_of_ble_eq_true rfl⟩) ⟨pw_blind, tw_recv hK hT (fx_6 hX) (by decide) cl_e16 rfl, pw_use hT hK hFc hS hM⟩ rfl rfl hl.1 rfl (lv_room (Nat.le_of_ble_eq_true rfl)) dX7_beginHand_18 ⟨Nat.le_of_ble_eq_true rfl, Nat.le_of_ble_eq_true rfl⟩) hS (fun q _ h => hFc q h) hFc (fun u0 t H locs ht hvm hw hB hz1 hk1 hS => ?_)
      refine W.widen (k := 0) (n := 0) (Nat.le_of_ble_eq_true rfl) (Nat.le_of_ble_eq_true rfl) ?_
      clear hvm hz1 hk1
      obtain ⟨y_25, hgy_25, hf_26, hf_27, hf_28, hT⟩ := hB
      rw [ht] at hT
      have hG := hG.tr hgy_25 (by decide)
      have hI := hI.ag hgy_25 (by decide)
      exact W.vret hx hb hr (fun t ht hW9 => ⟨⟨(), rfl, trivial, ⟨y_25, hG, by omega, by omega, by omega, tw_at ht hT⟩⟩, hS.F ht⟩) hS.2.2 dX7_beginHand_21
def wo_c_copyOf : List Cond := [.arrayClass .int, .methodLink RJ7 304 Lib.Math.min.name, .static Lib.Math.min.name, .initialized "java/lang/Math", .code Lib.Math.min.name Lib.Math.min.code 2 (some .int), .methodLink RJ7 150 arraycopyName, .native arraycopyName, .static arraycopyName, .initialized "java/lang/System", .methodLink RJ7 316 ⟨"[I", "clone", "()Ljava/lang/Object;"⟩, .sameMethod "[I" "java/lang/Object" "clone" "()Ljava/lang/Object;", .native ⟨"java/lang/Object", "clone", "()Ljava/lang/Object;"⟩, .instanceMethod ⟨"java/lang/Object", "clone", "()Ljava/lang/Object;"⟩, .selects "[I" ⟨"[I", "clone", "()Ljava/lang/Object;"⟩ ⟨"java/lang/Object", "clone", "()Ljava/lang/Object;"⟩, .classLink RJ7 317 "[I"]
def wm_c_copyOf : List Cond := .code yJ7_copyOf_59c91 cJ7_copyOf_59c91 3 (some (.array .int)) :: (wo_c_copyOf ++ ([] : List Cond))
theorem gd_c_copyOf : ∀ w ∈ wm_c_copyOf, goodWord w = true := gd_c rfl (gd_a (by decide) gd_nil)
set_option maxRecDepth 20000 in
theorem im_c_copyOf : ∀ w ∈ wm_c_copyOf, w ∈ lw_tbl := im_c (in_r [.code yJ7_copyOf_59c91 cJ7_copyOf_59c91 3 (some (.array .int))] [367] (by decide +kernel)) (in_app (in_r wo_c_copyOf [155, 375, 260, 78, 261, 376, 378, 377, 82, 368, 369, 370, 371, 372, 374] (by decide +kernel)) im_nil)
set_option maxHeartbeats 4000000 in
set_option maxRecDepth 100000 in
theorem c_copyOf (l : Launch) (dC : Nat → ClassId) (dI : Nat → Nat → Nat) (ad av : Nat → Nat) (sz : Nat) (a : Nat → Nat) (k : Nat → ClassId) (τ ln : Nat → Nat) (y : Nat → Nat → Int32) (g : Nat → Nat → Option Nat) (u : Nat → Int) (p0 : Int32) (hI : IC a u τ ln y g) (h0p : 0 ≤ p0.toInt) (h1p : p0.toInt ≤ 60) : Met l yJ7_copyOf_59c91 wm_c_copyOf ({ frames := 2, cells := 1, slots := 60, locals := 120 }) (pw_ ad av (dC, dI) sz [.ref (a 18), .int p0] a k τ ln y g) (va_Qr (fun (_ : Unit) => True) (fun (_ : Unit) (r : Nat) (t : State) => (∃ (n : Nat) (f : Nat → Int32), τ r = 0 ∧ fr τ sz r ∧ n ≤ 60 ∧ tw (dC, dI) a k (nwt τ r 6) (upn ln r n) (nwy y r f) g t.heap)) (fr τ sz)) 1 60 (fr τ sz) := by
  refine Met.ofW (cc := cJ7_copyOf_59c91) (maxL := 3) (ret := (some (.array .int))) (by decide) rfl ?_
  intro p e s m args below meth c s₁ B hml hv
  obtain ⟨rfl, hsz, hT, hK, hM⟩ := hv
  have hx := B.exec
  have hb := B.bytes
  have hr := B.returns
  have hts := atoms_spec (ws := wm_c_copyOf) B.pre
  have hown : s.vm.findClass RJ7 = some m.cls := findClass_of_methodNamed B.named
  have hlocks := B.notSynchronized
  subst hsz
  generalize hAe : fr τ s.heap.size = A at hM ⊢
  have hA : ∀ q : Nat, s.heap.size ≤ q → A q := fun q h => by rw [← hAe]; exact Or.inr h
  have hF : ∀ q, τ q ≠ 0 → A q := fun q h => by rw [← hAe]; exact Or.inl h
  have hS : va_S A s.heap s.heap [] := va_S.rf
  have hX := hI.1
  have hR := ic_r hI
  have hl := lv_entry ([.ref (a 18), .int p0]) (n := 3) (Nat.le_of_ble_eq_true rfl)
  rw [lg_entry_eq]
  generalize (lg_sl ([.ref (a 18), .int p0]) ++ List.replicate (3 - (lg_sl ([.ref (a 18), .int p0])).length) Slot.unset).toArray = ls at hl ⊢
  have hl : lv_has ls 3 [(0, .ref (a 18)), (1, .int p0)] := hl
  refine lv_iload_n hx hb dJ7_copyOf_59c91_0 rfl (lv_at hl 1 rfl) ?_
  refine lv_aload_n hx hb dJ7_copyOf_59c91_1 rfl (lv_at hl 0 rfl) ?_
  refine tw_alen (v := 60) hx hb hK hT 0 (fx_18 hX) (by decide) cl_e28 rfl rfl dJ7_copyOf_59c91_2 ?_
  refine lv_icmp_ne (tgt := 14) hx hb dJ7_copyOf_59c91_3 (by decide) (fun c_1 => ?_) (fun c_1 => ?_)
  · have nc_1 := z_ne rfl (zk (x := 60) 60 rfl) c_1
    refine lv_iload_n hx hb dJ7_copyOf_59c91_14 rfl (lv_at hl 1 rfl) ?_
    obtain ⟨nn, hnn⟩ : ∃ z : Nat, p0.toNatClampNeg = z := ⟨_, rfl⟩
    have hnz := z_nat (x := p0) rfl
    rw [hnn] at hnz
    refine tw_newi hx hb (hts (.arrayClass .int) (List.mem_cons_of_mem _ (List.mem_append_left _ (List.mem_of_getElem? (i := 0) rfl)))) hK hT hF hS hA (cp_n0 rfl (by omega)) hnn (by show nn * 4 ≤ 536870912; omega) (Nat.le_of_ble_eq_true rfl) (by show 0 + nn ≤ 60; omega) dJ7_copyOf_59c91_15 (fun q_2 H hq0 hAq hT hS => ?_)
    refine W.widen (k := 1) (n := 60) (Nat.le_of_ble_eq_true rfl) (by omega) ?_
    have hsrc : (nwt τ q_2 6) (a 18) = 28 := by rw [nwt_o (kd_ne (fx_18 hX) hq0 (by decide))]; exact fx_18 hX
    have hFn : ∀ q, (nwt τ q_2 6) q ≠ 0 → A q := fun x hx => by
      by_cases ee : x = q_2
      · rw [ee]; exact hAq
      · rw [nwt_o ee] at hx; exact hF x hx
    refine lv_astore_n (lv' := [(2, .ref q_2), (0, .ref (a 18)), (1, .int p0)]) hx hb dJ7_copyOf_59c91_17 rfl hl (by decide) rfl (fun ls hl => ?_)
    refine lv_aload_n hx hb dJ7_copyOf_59c91_18 rfl (lv_at hl 1 rfl) ?_
    refine lv_iconst (v := 0) hx hb dJ7_copyOf_59c91_19 (by decide) ?_
    refine lv_aload_n hx hb dJ7_copyOf_59c91_20 rfl (lv_at hl 0 rfl) ?_
    refine lv_iconst (v := 0) hx hb dJ7_copyOf_59c91_21 (by decide) ?_
    refine lv_aload_n hx hb dJ7_copyOf_59c91_22 rfl (lv_at hl 1 rfl) ?_
    refine tw_alen (v := 60) hx hb hK hT 0 hsrc (by decide) cl_e28 rfl rfl dJ7_copyOf_59c91_23 ?_
    refine lv_iload_n hx hb dJ7_copyOf_59c91_24 rfl (lv_at hl 2 rfl) ?_
    refine va_mmin hx hb (by rw [hml]; exact hl.1.symm) hown (hts (.methodLink RJ7 304 Lib.Math.min.name) (List.mem_cons_of_mem _ (List.mem_append_left _ (List.mem_of_getElem? (i := 1) rfl)))) (hts (.static Lib.Math.min.name) (List.mem_cons_of_mem _ (List.mem_append_left _ (List.mem_of_getElem? (i := 2) rfl)))) (hts (.initialized "java/lang/Math") (List.mem_cons_of_mem _ (List.mem_append_left _ (List.mem_of_getElem? (i := 3) rfl)))) (hts (.code Lib.Math.min.name Lib.Math.min.code 2 (some .int)) (List.mem_cons_of_mem _ (List.mem_append_left _ (List.mem_of_getElem? (i := 4) rfl)))) (Nat.le_of_ble_eq_true rfl) (Nat.le_of_ble_eq_true rfl) (Nat.le_of_ble_eq_true rfl) (Nat.le_of_ble_eq_true rfl) dJ7_copyOf_59c91_25 ?_
    refine lv_topi (fun x_3 ex_3 => ?_)
    have hx_3 := z_min ex_3 (zk (x := 60) 60 rfl) rfl
    refine tw_copy (n := x_3) (n1 := nn) hx hb (by rw [hml]; exact hl.1.symm) hown (hts (.methodLink RJ7 150 arraycopyName) (List.mem_cons_of_mem _ (List.mem_append_left _ (List.mem_of_getElem? (i := 5) rfl)))) (hts (.native arraycopyName) (List.mem_cons_of_mem _ (List.mem_append_left _ (List.mem_of_getElem? (i := 6) rfl)))) (hts (.static arraycopyName) (List.mem_cons_of_mem _ (List.mem_append_left _ (List.mem_of_getElem? (i := 7) rfl)))) (hts (.initialized "java/lang/System") (List.mem_cons_of_mem _ (List.mem_append_left _ (List.mem_of_getElem? (i := 8) rfl)))) hK hT hFn hS hsrc (by decide) cl_e28 nwt_i (by decide) (fun _ => by rw [upn_i]; exact cl_e6) (by decide) (by decide) (cp_n0 rfl (by omega)) (cp_le rfl (by omega) (by omega)) (cp_le rfl (by omega) (by omega)) (Nat.le_of_ble_eq_true rfl) (Nat.le_of_ble_eq_true rfl) dJ7_copyOf_59c91_28 (fun H locs hT hS => ?_)
    rw [nwy_2] at hT
    refine lv_aload_n hx hb dJ7_copyOf_59c91_31 rfl (lv_at hl 0 rfl) ?_
    exact W.aret (v := .ref q_2) hx hb hr (by first | exact Or.inl ⟨_, rfl⟩ | exact Or.inr ⟨_, rfl⟩) (Or.inr ⟨_, rfl⟩) (fun t ht hW9 => ⟨⟨(), q_2, rfl, trivial, ⟨nn, _, hq0, hAq, (by omega), tw_at ht hT⟩⟩, hS.F ht⟩) hS.2.2 dJ7_copyOf_59c91_32
  · have nc_1 := z_eq rfl (zk (x := 60) 60 rfl) c_1
    refine lv_aload_n hx hb dJ7_copyOf_59c91_6 rfl (lv_at hl 0 rfl) ?_
    refine tw_clone hx hb (by rw [hml]; exact hl.1.symm) hown (hts (.methodLink RJ7 316 ⟨"[I", "clone", "()Ljava/lang/Object;"⟩) (List.mem_cons_of_mem _ (List.mem_append_left _ (List.mem_of_getElem? (i := 9) rfl)))) (hts (.sameMethod "[I" "java/lang/Object" "clone" "()Ljava/lang/Object;") (List.mem_cons_of_mem _ (List.mem_append_left _ (List.mem_of_getElem? (i := 10) rfl)))) (hts (.native ⟨"java/lang/Object", "clone", "()Ljava/lang/Object;"⟩) (List.mem_cons_of_mem _ (List.mem_append_left _ (List.mem_of_getElem? (i := 11) rfl)))) (hts (.instanceMethod ⟨"java/lang/Object", "clone", "()Ljava/lang/Object;"⟩) (List.mem_cons_of_mem _ (List.mem_append_left _ (List.mem_of_getElem? (i := 12) rfl)))) (hts (.selects "[I" ⟨"[I", "clone", "()Ljava/lang/Object;"⟩ ⟨"java/lang/Object", "clone", "()Ljava/lang/Object;"⟩) (List.mem_cons_of_mem _ (List.mem_append_left _ (List.mem_of_getElem? (i := 13) rfl)))) hM.2.2.2.2.2.2.2.1 hK hT hF hS hA (fx_18 hX) (by decide) cl_e28 (va_nm_int (hK.2 0 _ rfl).2) (Nat.le_of_ble_eq_true rfl) (Nat.le_of_ble_eq_true rfl) (Nat.le_of_ble_eq_true rfl) (Nat.le_of_ble_eq_true rfl) dJ7_copyOf_59c91_7 (fun q_4 H hq0 hAq hT hS => ?_)
    refine W.widen (k := 1) (n := 60) (Nat.le_of_ble_eq_true rfl) (Nat.le_of_ble_eq_true rfl) ?_
    refine tw_castA (t := 6) (x := (60, .inl _)) hx hb hown (hts (.classLink RJ7 317 "[I") (List.mem_cons_of_mem _ (List.mem_append_left _ (List.mem_of_getElem? (i := 14) rfl)))) hT nwt_i (by decide) (by rw [upn_i]; exact cl_e6) (va_nm_int (hK.2 0 _ rfl).2) dJ7_copyOf_59c91_10 ?_
    exact W.aret (v := .ref q_4) hx hb hr (by first | exact Or.inl ⟨_, rfl⟩ | exact Or.inr ⟨_, rfl⟩) (Or.inr ⟨_, rfl⟩) (fun t ht hW9 => ⟨⟨(), q_4, rfl, trivial, ⟨60, _, hq0, hAq, (by decide), tw_at ht hT⟩⟩, hS.F ht⟩) hS.2.2 dJ7_copyOf_59c91_13
def wo_c_codeRead : List Cond := [.fieldLink RX8 11 "TypingPool$Reader" "code" "[I", .fieldLink RX8 19 "TypingPool$Reader" "codeLength" "I", .methodLink RX8 57 yJ7_copyOf_59c91, .static yJ7_copyOf_59c91, .initialized RJ7]
def wm_c_codeRead : List Cond := .code yX8_codeRead cX8_codeRead 1 (some (.array .int)) :: (wo_c_codeRead ++ (wsX80 ++ (wm_c_copyOf ++ ([] : List Cond))))
theorem gd_c_codeRead : ∀ w ∈ wm_c_codeRead, goodWord w = true := gd_c rfl (gd_a (by decide) (gd_a gd_wsX80 (gd_a gd_c_copyOf gd_nil)))
set_option maxRecDepth 20000 in
theorem im_c_codeRead : ∀ w ∈ wm_c_codeRead, w ∈ lw_tbl := im_c (in_r [.code yX8_codeRead cX8_codeRead 1 (some (.array .int))] [364] (by decide +kernel)) (in_app (in_r wo_c_codeRead [170, 171, 365, 366, 81] (by decide +kernel)) (in_app im_wsX80 (in_app im_c_copyOf im_nil)))
set_option maxHeartbeats 4000000 in
set_option maxRecDepth 100000 in
theorem c_codeRead (l : Launch) (dC : Nat → ClassId) (dI : Nat → Nat → Nat) (ad av : Nat → Nat) (sz : Nat) (a : Nat → Nat) (k : Nat → ClassId) (τ ln : Nat → Nat) (y : Nat → Nat → Int32) (g : Nat → Nat → Option Nat) (u : Nat → Int) (hI : IC a u τ ln y g) (hq1 : 0 ≤ (y (a 16) 1).toInt ∧ (y (a 16) 1).toInt ≤ 60) : Met l yX8_codeRead wm_c_codeRead ({ frames := 3, cells := 1, slots := 60, locals := 180 }) (pw_ ad av (dC, dI) sz [.ref (a 16)] a k τ ln y g) (va_Qr (fun (_ : Unit) => True) (fun (_ : Unit) (r : Nat) (t : State) => (∃ (n : Nat) (f : Nat → Int32), τ r = 0 ∧ fr τ sz r ∧ n ≤ 60 ∧ tw (dC, dI) a k (nwt τ r 6) (upn ln r n) (nwy y r f) g t.heap)) (fr τ sz)) 1 60 (fr τ sz) := by
  refine Met.ofW (cc := cX8_codeRead) (maxL := 1) (ret := (some (.array .int))) (by decide) rfl ?_
  intro p e s m args below meth c s₁ B hml hv
  obtain ⟨rfl, hsz, hT, hK, hM⟩ := hv
  have hx := B.exec
  have hb := B.bytes
  have hr := B.returns
  have hts := atoms_spec (ws := wm_c_codeRead) B.pre
  have hown : s.vm.findClass RX8 = some m.cls := findClass_of_methodNamed B.named
  have hlocks := B.notSynchronized
  subst hsz
  generalize hAe : fr τ s.heap.size = A at hM ⊢
  have hA : ∀ q : Nat, s.heap.size ≤ q → A q := fun q h => by rw [← hAe]; exact Or.inr h
  have hF : ∀ q, τ q ≠ 0 → A q := fun q h => by rw [← hAe]; exact Or.inl h
  have hS : va_S A s.heap s.heap [] := va_S.rf
  have hX := hI.1
  have hR := ic_r hI
  have hl := lv_entry ([.ref (a 16)]) (n := 1) (Nat.le_of_ble_eq_true rfl)
  rw [lg_entry_eq]
  generalize (lg_sl ([.ref (a 16)]) ++ List.replicate (1 - (lg_sl ([.ref (a 16)])).length) Slot.unset).toArray = ls at hl ⊢
  have hl : lv_has ls 1 [(0, .ref (a 16))] := hl
  refine lv_aload_n hx hb dX8_codeRead_0 rfl (lv_at hl 0 rfl) ?_
  refine tw_get (D := (dC, dI)) (v := .ref (a 18)) (C := RX8) (T := TX8) (N := 8) hx hb hts (fun _ hh => (List.mem_cons_of_mem _ (List.mem_append_right _ (List.mem_append_left _ hh)))) hown hK hT (fx_16 hX) (by decide) cl_e26 rfl 0 (by decide) (hts (.fieldLink RX8 11 "TypingPool$Reader" "code" "[I") (List.mem_cons_of_mem _ (List.mem_append_left _ (List.mem_of_getElem? (i := 0) rfl)))) (fun _ h9 => h9) rfl dX8_codeRead_1 ?_
  refine lv_aload_n hx hb dX8_codeRead_4 rfl (lv_at hl 0 rfl) ?_
  refine tw_get (D := (dC, dI)) (v := .int (y (a 16) 1)) (C := RX8) (T := TX8) (N := 8) hx hb hts (fun _ hh => (List.mem_cons_of_mem _ (List.mem_append_right _ (List.mem_append_left _ hh)))) hown hK hT (fx_16 hX) (by decide) cl_e26 rfl 1 (by decide) (hts (.fieldLink RX8 19 "TypingPool$Reader" "codeLength" "I") (List.mem_cons_of_mem _ (List.mem_append_left _ (List.mem_of_getElem? (i := 1) rfl)))) (fun _ h9 => h9) rfl dX8_codeRead_5 ?_
  have hFc := tw_free hF hS hA
  refine va_callr (va_runS (As := [.ref (a 18), .int (y (a 16) 1)]) (rest := []) ⟨hx, hb, hml, hown, hts⟩ (c_copyOf l dC dI ad av s.heap.size a k τ ln y g u (y (a 16) 1) hI (by omega) (by omega)) (va_cwS 2 hts (gi_3 (List.mem_cons_of_mem _ (List.mem_append_left _ (List.mem_of_getElem? (i := 2) rfl))) (List.mem_cons_of_mem _ (List.mem_append_left _ (List.mem_of_getElem? (i := 3) rfl))) (List.mem_cons_of_mem _ (List.mem_append_left _ (List.mem_of_getElem? (i := 4) rfl))) (fun _ hh => (List.mem_cons_of_mem _ (List.mem_append_right _ (List.mem_append_right _ (List.mem_append_left _ hh))))) gd_c_copyOf) rfl rfl rfl (by decide +kernel) ⟨Nat.le_of_ble_eq_true rfl, Nat.le_of_ble_eq_true rfl⟩) ⟨pw_blind, pw_use hT hK hFc hS hM⟩ rfl rfl hl.1 rfl (lv_room (Nat.le_of_ble_eq_true rfl)) dX8_codeRead_8 ⟨Nat.le_of_ble_eq_true rfl, Nat.le_of_ble_eq_true rfl⟩) hS (fun q _ h => hFc q h) hFc (fun u0 r_1 t H locs ht hvm hw hB hz1 hk1 hS => ?_)
  refine W.widen (k := 1) (n := 60) (Nat.le_of_ble_eq_true rfl) (Nat.le_of_ble_eq_true rfl) ?_
  clear hvm hz1 hk1
  obtain ⟨n_2, fn_2, h0n_2, hfrn_2, hlen_2, hT⟩ := hB
  rw [ht] at hT
  exact W.aret (v := .ref r_1) hx hb hr (by first | exact Or.inl ⟨_, rfl⟩ | exact Or.inr ⟨_, rfl⟩) (Or.inr ⟨_, rfl⟩) (fun t ht hW9 => ⟨⟨(), r_1, rfl, trivial, ⟨n_2, fn_2, h0n_2, hFc _ hfrn_2, hlen_2, tw_at ht hT⟩⟩, hS.F ht⟩) hS.2.2 dX8_codeRead_11
def wo_c_lettersOf : List Cond := []
def wm_c_lettersOf : List Cond := .code yX10_lettersOf cX10_lettersOf 1 (some (.object "java/lang/String")) :: (wo_c_lettersOf ++ ([] : List Cond))
theorem gd_c_lettersOf : ∀ w ∈ wm_c_lettersOf, goodWord w = true := gd_c rfl (gd_a (by decide) gd_nil)
set_option maxRecDepth 20000 in
theorem im_c_lettersOf : ∀ w ∈ wm_c_lettersOf, w ∈ lw_tbl := im_c (in_r [.code yX10_lettersOf cX10_lettersOf 1 (some (.object "java/lang/String"))] [250] (by decide +kernel)) (in_app (in_r wo_c_lettersOf [] (by decide +kernel)) im_nil)
set_option maxHeartbeats 4000000 in
set_option maxRecDepth 100000 in
theorem c_lettersOf (l : Launch) (dC : Nat → ClassId) (dI : Nat → Nat → Nat) (ad av : Nat → Nat) (sz : Nat) (a : Nat → Nat) (k : Nat → ClassId) (τ ln : Nat → Nat) (y : Nat → Nat → Int32) (g : Nat → Nat → Option Nat) (u : Nat → Int) (p0 : Int32) : Met l yX10_lettersOf wm_c_lettersOf ({ frames := 0, cells := 0, slots := 0, locals := 0 }) (pw_ ad av (dC, dI) sz [.int p0] a k τ ln y g) (va_Qr (fun (_ : Unit) => True) (fun (_ : Unit) (r : Nat) (t : State) => (r = (ad 4) ∧ tw (dC, dI) a k τ ln y g t.heap) ∨ (r = (ad 5) ∧ tw (dC, dI) a k τ ln y g t.heap) ∨ (r = (ad 6) ∧ tw (dC, dI) a k τ ln y g t.heap) ∨ (r = (ad 7) ∧ tw (dC, dI) a k τ ln y g t.heap)) (fr τ sz)) 0 0 (fr τ sz) := by
  refine Met.ofW (cc := cX10_lettersOf) (maxL := 1) (ret := (some (.object "java/lang/String"))) (by decide) rfl ?_
  intro p e s m args below meth c s₁ B hml hv
  obtain ⟨rfl, hsz, hT, hK, hM⟩ := hv
  have hx := B.exec
  have hb := B.bytes
  have hr := B.returns
  have hts := atoms_spec (ws := wm_c_lettersOf) B.pre
  have hown : s.vm.findClass RX10 = some m.cls := findClass_of_methodNamed B.named
  have hlocks := B.notSynchronized
  subst hsz
  generalize hAe : fr τ s.heap.size = A at hM ⊢
  have hA : ∀ q : Nat, s.heap.size ≤ q → A q := fun q h => by rw [← hAe]; exact Or.inr h
  have hF : ∀ q, τ q ≠ 0 → A q := fun q h => by rw [← hAe]; exact Or.inl h
  have hS : va_S A s.heap s.heap [] := va_S.rf
  have hl := lv_entry ([.int p0]) (n := 1) (Nat.le_of_ble_eq_true rfl)
  rw [lg_entry_eq]
  generalize (lg_sl ([.int p0]) ++ List.replicate (1 - (lg_sl ([.int p0])).length) Slot.unset).toArray = ls at hl ⊢
  have hl : lv_has ls 1 [(0, .int p0)] := hl
  refine lv_iload_n hx hb dX10_lettersOf_0 rfl (lv_at hl 0 rfl) ?_
  rcases tb_0_2 p0 with t_1 | t_1 | t_1 | t_1
  · refine lq_top (v := 0) t_1 ?_
    have nt_1 := z_eq rfl (zk (x := 0) 0 rfl) t_1
    refine lv_tableIn (tgt := 28) hx hb dX10_lettersOf_1 (by decide) (by decide) (off := 27) (by decide) (by decide) ?_
    refine va_ldcS hx hb hown (hM.2.2.1 4 _ rfl).1 dX10_lettersOf_28 ?_
    exact W.aret (v := .ref (ad 4)) hx hb hr (by first | exact Or.inl ⟨_, rfl⟩ | exact Or.inr ⟨_, rfl⟩) (Or.inr ⟨_, rfl⟩) (fun t ht hW9 => ⟨⟨(), (ad 4), rfl, trivial, Or.inl ⟨rfl, tw_at ht hT⟩⟩, hS.F ht⟩) hS.2.2 dX10_lettersOf_30
  · refine lq_top (v := 1) t_1 ?_
    have nt_1 := z_eq rfl (zk (x := 1) 1 rfl) t_1
    refine lv_tableIn (tgt := 31) hx hb dX10_lettersOf_1 (by decide) (by decide) (off := 30) (by decide) (by decide) ?_
    refine va_ldcS hx hb hown (hM.2.2.1 5 _ rfl).1 dX10_lettersOf_31 ?_
    exact W.aret (v := .ref (ad 5)) hx hb hr (by first | exact Or.inl ⟨_, rfl⟩ | exact Or.inr ⟨_, rfl⟩) (Or.inr ⟨_, rfl⟩) (fun t ht hW9 => ⟨⟨(), (ad 5), rfl, trivial, Or.inr (Or.inl ⟨rfl, tw_at ht hT⟩)⟩, hS.F ht⟩) hS.2.2 dX10_lettersOf_33
  · refine lq_top (v := 2) t_1 ?_
    have nt_1 := z_eq rfl (zk (x := 2) 2 rfl) t_1
    refine lv_tableIn (tgt := 34) hx hb dX10_lettersOf_1 (by decide) (by decide) (off := 33) (by decide) (by decide) ?_
    refine va_ldcS hx hb hown (hM.2.2.1 6 _ rfl).1 dX10_lettersOf_34 ?_
    exact W.aret (v := .ref (ad 6)) hx hb hr (by first | exact Or.inl ⟨_, rfl⟩ | exact Or.inr ⟨_, rfl⟩) (Or.inr ⟨_, rfl⟩) (fun t ht hW9 => ⟨⟨(), (ad 6), rfl, trivial, Or.inr (Or.inr (Or.inl ⟨rfl, tw_at ht hT⟩))⟩, hS.F ht⟩) hS.2.2 dX10_lettersOf_36
  · refine lv_tableOut (tgt := 37) hx hb dX10_lettersOf_1 t_1 (by decide) ?_
    refine va_ldcS hx hb hown (hM.2.2.1 7 _ rfl).1 dX10_lettersOf_37 ?_
    exact W.aret (v := .ref (ad 7)) hx hb hr (by first | exact Or.inl ⟨_, rfl⟩ | exact Or.inr ⟨_, rfl⟩) (Or.inr ⟨_, rfl⟩) (fun t ht hW9 => ⟨⟨(), (ad 7), rfl, trivial, Or.inr (Or.inr (Or.inr (⟨rfl, tw_at ht hT⟩)))⟩, hS.F ht⟩) hS.2.2 dX10_lettersOf_39
def wo_c_Hand_init : List Cond := [.methodLink RX4 1 objectInit, .instanceMethod objectInit, .code objectInit ⟨#[0xb1]⟩ 1 none, .fieldLink RX4 7 "TypingPool$Hand" "speed" "I", .fieldLink RX4 13 "TypingPool$Hand" "styles" "I", .fieldLink RX4 16 "TypingPool$Hand" "leave" "I"]
def wm_c_Hand_init : List Cond := .code yX4_init cX4_init 4 none :: (wo_c_Hand_init ++ (wsX40 ++ ([] : List Cond)))
theorem gd_c_Hand_init : ∀ w ∈ wm_c_Hand_init, goodWord w = true := gd_c rfl (gd_a (by decide) (gd_a gd_wsX40 gd_nil))
set_option maxRecDepth 20000 in
theorem im_c_Hand_init : ∀ w ∈ wm_c_Hand_init, w ∈ lw_tbl := im_c (in_r [.code yX4_init cX4_init 4 none] [606] (by decide +kernel)) (in_app (in_r wo_c_Hand_init [607, 102, 103, 608, 610, 612] (by decide +kernel)) (in_app im_wsX40 im_nil))
set_option maxHeartbeats 4000000 in
set_option maxRecDepth 100000 in
theorem c_Hand_init (l : Launch) (dC : Nat → ClassId) (dI : Nat → Nat → Nat) (ad av : Nat → Nat) (sz : Nat) (a : Nat → Nat) (k : Nat → ClassId) (τ ln : Nat → Nat) (y : Nat → Nat → Int32) (g : Nat → Nat → Option Nat) (u : Nat → Int) (b0 : Nat) (p0 : Int32) (p1 : Int32) (p2 : Int32) (hI : IC a u τ ln y g) (h_b0 : τ b0 = 1) : Met l yX4_init wm_c_Hand_init ({ frames := 2, cells := 0, slots := 0, locals := 80 }) (pw_ ad av (dC, dI) sz [.ref b0, .int p0, .int p1, .int p2] a k τ ln y g) (va_Qv (fun (_ : Unit) => True) (fun (_ : Unit) (t : State) => (∃ (y' : Nat → Nat → Int32), ag τ [1] y y' ∧ tw (dC, dI) a k τ ln y' g t.heap)) (fr τ sz)) 0 0 (fr τ sz) := by
  refine Met.ofW (cc := cX4_init) (maxL := 4) (ret := none) (by decide) rfl ?_
  intro p e s m args below meth c s₁ B hml hv
  obtain ⟨rfl, hsz, hT, hK, hM⟩ := hv
  have hx := B.exec
  have hb := B.bytes
  have hr := B.returns
  have hts := atoms_spec (ws := wm_c_Hand_init) B.pre
  have hown : s.vm.findClass RX4 = some m.cls := findClass_of_methodNamed B.named
  have hlocks := B.notSynchronized
  have hin : meth.name = "<init>" := (name_of_methodNamed B.named B.method).1
  subst hsz
  generalize hAe : fr τ s.heap.size = A at hM ⊢
  have hA : ∀ q : Nat, s.heap.size ≤ q → A q := fun q h => by rw [← hAe]; exact Or.inr h
  have hF : ∀ q, τ q ≠ 0 → A q := fun q h => by rw [← hAe]; exact Or.inl h
  have hS : va_S A s.heap s.heap [] := va_S.rf
  have hX := hI.1
  have hR := ic_r hI
  have hG : ag τ [1] y y := ag.rf
  have hl := lv_entry ([.ref b0, .int p0, .int p1, .int p2]) (n := 4) (Nat.le_of_ble_eq_true rfl)
  rw [lg_entry_eq]
  generalize (lg_sl ([.ref b0, .int p0, .int p1, .int p2]) ++ List.replicate (4 - (lg_sl ([.ref b0, .int p0, .int p1, .int p2])).length) Slot.unset).toArray = ls at hl ⊢
  have hl : lv_has ls 4 [(0, .ref b0), (1, .int p0), (2, .int p1), (3, .int p2)] := hl
  refine lv_aload_n hx hb dX4_init_0 rfl (lv_at hl 0 rfl) ?_
  refine W.objInit hx hb hown (hts (.methodLink RX4 1 objectInit) (List.mem_cons_of_mem _ (List.mem_append_left _ (List.mem_of_getElem? (i := 0) rfl)))) (hts (.instanceMethod objectInit) (List.mem_cons_of_mem _ (List.mem_append_left _ (List.mem_of_getElem? (i := 1) rfl)))) (hts (.code objectInit ⟨#[0xb1]⟩ 1 none) (List.mem_cons_of_mem _ (List.mem_append_left _ (List.mem_of_getElem? (i := 2) rfl)))) rfl (by rw [hml]; exact hl.1) rfl dX4_init_1 (Nat.le_of_ble_eq_true rfl) (Nat.le_of_ble_eq_true rfl) ?_
  refine W.eq (g2 := F0 m 4 ls []) rfl ?_
  refine lv_aload_n hx hb dX4_init_4 rfl (lv_at hl 0 rfl) ?_
  refine lv_iload_n hx hb dX4_init_5 rfl (lv_at hl 1 rfl) ?_
  refine tw_putF (D := (dC, dI)) (x := p0) (ty := .int) (C := RX4) (T := TX4) (N := 3) hx hb hts (fun _ hh => (List.mem_cons_of_mem _ (List.mem_append_right _ (List.mem_append_left _ hh)))) tyX4 tyX4_ok nmX4 hown hK hT hF hS h_b0 (by decide) cl_e1 rfl 0 (by decide) (hts (.fieldLink RX4 7 "TypingPool$Hand" "speed" "I") (List.mem_cons_of_mem _ (List.mem_append_left _ (List.mem_of_getElem? (i := 3) rfl)))) (fun _ h9 => h9) rfl hin rfl (tyX4_ok 0 (by decide)) rfl rfl (Nat.le_of_ble_eq_true rfl) rfl dX4_init_6 (fun H locs hT hS => ?_)
  obtain ⟨y_1, hy_1, hT⟩ : ∃ z : Nat → Nat → Int32, z = up2 y b0 0 p0 ∧ tw (dC, dI) a k τ ln z g H := ⟨_, rfl, hT⟩
  have hG : ag τ [1] y y_1 := by rw [hy_1]; exact hG.up h_b0 (by decide)
  have hI := hI.ag (S := [1]) (y' := y_1) (by rw [hy_1]; exact ag.one h_b0) (by decide)
  refine lv_aload_n hx hb dX4_init_9 rfl (lv_at hl 0 rfl) ?_
  refine lv_iload_n hx hb dX4_init_10 rfl (lv_at hl 2 rfl) ?_
  refine tw_putF (D := (dC, dI)) (x := p1) (ty := .int) (C := RX4) (T := TX4) (N := 3) hx hb hts (fun _ hh => (List.mem_cons_of_mem _ (List.mem_append_right _ (List.mem_append_left _ hh)))) tyX4 tyX4_ok nmX4 hown hK hT hF hS h_b0 (by decide) cl_e1 rfl 1 (by decide) (hts (.fieldLink RX4 13 "TypingPool$Hand" "styles" "I") (List.mem_cons_of_mem _ (List.mem_append_left _ (List.mem_of_getElem? (i := 4) rfl)))) (fun _ h9 => h9) rfl hin rfl (tyX4_ok 1 (by decide)) rfl rfl (Nat.le_of_ble_eq_true rfl) rfl dX4_init_11 (fun H locs hT hS => ?_)
  obtain ⟨y_2, hy_2, hT⟩ : ∃ z : Nat → Nat → Int32, z = up2 y_1 b0 1 p1 ∧ tw (dC, dI) a k τ ln z g H := ⟨_, rfl, hT⟩
  have hG : ag τ [1] y y_2 := by rw [hy_2]; exact hG.up h_b0 (by decide)
  have hI := hI.ag (S := [1]) (y' := y_2) (by rw [hy_2]; exact ag.one h_b0) (by decide)
  refine lv_aload_n hx hb dX4_init_14 rfl (lv_at hl 0 rfl) ?_
  refine lv_iload_n hx hb dX4_init_15 rfl (lv_at hl 3 rfl) ?_
  refine tw_putF (D := (dC, dI)) (x := p2) (ty := .int) (C := RX4) (T := TX4) (N := 3) hx hb hts (fun _ hh => (List.mem_cons_of_mem _ (List.mem_append_right _ (List.mem_append_left _ hh)))) tyX4 tyX4_ok nmX4 hown hK hT hF hS h_b0 (by decide) cl_e1 rfl 2 (by decide) (hts (.fieldLink RX4 16 "TypingPool$Hand" "leave" "I") (List.mem_cons_of_mem _ (List.mem_append_left _ (List.mem_of_getElem? (i := 5) rfl)))) (fun _ h9 => h9) rfl hin rfl (tyX4_ok 2 (by decide)) rfl rfl (Nat.le_of_ble_eq_true rfl) rfl dX4_init_16 (fun H locs hT hS => ?_)
  obtain ⟨y_3, hy_3, hT⟩ : ∃ z : Nat → Nat → Int32, z = up2 y_2 b0 2 p2 ∧ tw (dC, dI) a k τ ln z g H := ⟨_, rfl, hT⟩
  have hG : ag τ [1] y y_3 := by rw [hy_3]; exact hG.up h_b0 (by decide)
  have hI := hI.ag (S := [1]) (y' := y_3) (by rw [hy_3]; exact ag.one h_b0) (by decide)
  exact W.vret hx hb hr (fun t ht hW9 => ⟨⟨(), rfl, trivial, ⟨y_3, hG, tw_at ht hT⟩⟩, hS.F ht⟩) hS.2.2 dX4_init_19
def wo_c_Away_init : List Cond := [.methodLink RX0 1 objectInit, .instanceMethod objectInit, .code objectInit ⟨#[0xb1]⟩ 1 none, .fieldLink RX0 7 "TypingPool$Away" "hand" "I", .fieldLink RX0 13 "TypingPool$Away" "from" "I", .fieldLink RX0 16 "TypingPool$Away" "to" "I"]
def wm_c_Away_init : List Cond := .code yX0_init cX0_init 4 none :: (wo_c_Away_init ++ (wsX00 ++ ([] : List Cond)))
theorem gd_c_Away_init : ∀ w ∈ wm_c_Away_init, goodWord w = true := gd_c rfl (gd_a (by decide) (gd_a gd_wsX00 gd_nil))
set_option maxRecDepth 20000 in
theorem im_c_Away_init : ∀ w ∈ wm_c_Away_init, w ∈ lw_tbl := im_c (in_r [.code yX0_init cX0_init 4 none] [637] (by decide +kernel)) (in_app (in_r wo_c_Away_init [638, 102, 103, 639, 641, 643] (by decide +kernel)) (in_app im_wsX00 im_nil))
set_option maxHeartbeats 4000000 in
set_option maxRecDepth 100000 in
theorem c_Away_init (l : Launch) (dC : Nat → ClassId) (dI : Nat → Nat → Nat) (ad av : Nat → Nat) (sz : Nat) (a : Nat → Nat) (k : Nat → ClassId) (τ ln : Nat → Nat) (y : Nat → Nat → Int32) (g : Nat → Nat → Option Nat) (u : Nat → Int) (b0 : Nat) (p0 : Int32) (p1 : Int32) (p2 : Int32) (hI : IC a u τ ln y g) (h_b0 : τ b0 = 3) : Met l yX0_init wm_c_Away_init ({ frames := 2, cells := 0, slots := 0, locals := 80 }) (pw_ ad av (dC, dI) sz [.ref b0, .int p0, .int p1, .int p2] a k τ ln y g) (va_Qv (fun (_ : Unit) => True) (fun (_ : Unit) (t : State) => (∃ (y' : Nat → Nat → Int32), ag τ [3] y y' ∧ tw (dC, dI) a k τ ln y' g t.heap)) (fr τ sz)) 0 0 (fr τ sz) := by
  refine Met.ofW (cc := cX0_init) (maxL := 4) (ret := none) (by decide) rfl ?_
  intro p e s m args below meth c s₁ B hml hv
  obtain ⟨rfl, hsz, hT, hK, hM⟩ := hv
  have hx := B.exec
  have hb := B.bytes
  have hr := B.returns
  have hts := atoms_spec (ws := wm_c_Away_init) B.pre
  have hown : s.vm.findClass RX0 = some m.cls := findClass_of_methodNamed B.named
  have hlocks := B.notSynchronized
  have hin : meth.name = "<init>" := (name_of_methodNamed B.named B.method).1
  subst hsz
  generalize hAe : fr τ s.heap.size = A at hM ⊢
  have hA : ∀ q : Nat, s.heap.size ≤ q → A q := fun q h => by rw [← hAe]; exact Or.inr h
  have hF : ∀ q, τ q ≠ 0 → A q := fun q h => by rw [← hAe]; exact Or.inl h
  have hS : va_S A s.heap s.heap [] := va_S.rf
  have hX := hI.1
  have hR := ic_r hI
  have hG : ag τ [3] y y := ag.rf
  have hl := lv_entry ([.ref b0, .int p0, .int p1, .int p2]) (n := 4) (Nat.le_of_ble_eq_true rfl)
  rw [lg_entry_eq]
  generalize (lg_sl ([.ref b0, .int p0, .int p1, .int p2]) ++ List.replicate (4 - (lg_sl ([.ref b0, .int p0, .int p1, .int p2])).length) Slot.unset).toArray = ls at hl ⊢
  have hl : lv_has ls 4 [(0, .ref b0), (1, .int p0), (2, .int p1), (3, .int p2)] := hl
  refine lv_aload_n hx hb dX0_init_0 rfl (lv_at hl 0 rfl) ?_
  refine W.objInit hx hb hown (hts (.methodLink RX0 1 objectInit) (List.mem_cons_of_mem _ (List.mem_append_left _ (List.mem_of_getElem? (i := 0) rfl)))) (hts (.instanceMethod objectInit) (List.mem_cons_of_mem _ (List.mem_append_left _ (List.mem_of_getElem? (i := 1) rfl)))) (hts (.code objectInit ⟨#[0xb1]⟩ 1 none) (List.mem_cons_of_mem _ (List.mem_append_left _ (List.mem_of_getElem? (i := 2) rfl)))) rfl (by rw [hml]; exact hl.1) rfl dX0_init_1 (Nat.le_of_ble_eq_true rfl) (Nat.le_of_ble_eq_true rfl) ?_
  refine W.eq (g2 := F0 m 4 ls []) rfl ?_
  refine lv_aload_n hx hb dX0_init_4 rfl (lv_at hl 0 rfl) ?_
  refine lv_iload_n hx hb dX0_init_5 rfl (lv_at hl 1 rfl) ?_
  refine tw_putF (D := (dC, dI)) (x := p0) (ty := .int) (C := RX0) (T := TX0) (N := 3) hx hb hts (fun _ hh => (List.mem_cons_of_mem _ (List.mem_append_right _ (List.mem_append_left _ hh)))) tyX0 tyX0_ok nmX0 hown hK hT hF hS h_b0 (by decide) cl_e3 rfl 0 (by decide) (hts (.fieldLink RX0 7 "TypingPool$Away" "hand" "I") (List.mem_cons_of_mem _ (List.mem_append_left _ (List.mem_of_getElem? (i := 3) rfl)))) (fun _ h9 => h9) rfl hin rfl (tyX0_ok 0 (by decide)) rfl rfl (Nat.le_of_ble_eq_true rfl) rfl dX0_init_6 (fun H locs hT hS => ?_)
  obtain ⟨y_1, hy_1, hT⟩ : ∃ z : Nat → Nat → Int32, z = up2 y b0 0 p0 ∧ tw (dC, dI) a k τ ln z g H := ⟨_, rfl, hT⟩
  have hG : ag τ [3] y y_1 := by rw [hy_1]; exact hG.up h_b0 (by decide)
  have hI := hI.ag (S := [3]) (y' := y_1) (by rw [hy_1]; exact ag.one h_b0) (by decide)
  refine lv_aload_n hx hb dX0_init_9 rfl (lv_at hl 0 rfl) ?_
  refine lv_iload_n hx hb dX0_init_10 rfl (lv_at hl 2 rfl) ?_
  refine tw_putF (D := (dC, dI)) (x := p1) (ty := .int) (C := RX0) (T := TX0) (N := 3) hx hb hts (fun _ hh => (List.mem_cons_of_mem _ (List.mem_append_right _ (List.mem_append_left _ hh)))) tyX0 tyX0_ok nmX0 hown hK hT hF hS h_b0 (by decide) cl_e3 rfl 1 (by decide) (hts (.fieldLink RX0 13 "TypingPool$Away" "from" "I") (List.mem_cons_of_mem _ (List.mem_append_left _ (List.mem_of_getElem? (i := 4) rfl)))) (fun _ h9 => h9) rfl hin rfl (tyX0_ok 1 (by decide)) rfl rfl (Nat.le_of_ble_eq_true rfl) rfl dX0_init_11 (fun H locs hT hS => ?_)
  obtain ⟨y_2, hy_2, hT⟩ : ∃ z : Nat → Nat → Int32, z = up2 y_1 b0 1 p1 ∧ tw (dC, dI) a k τ ln z g H := ⟨_, rfl, hT⟩
  have hG : ag τ [3] y y_2 := by rw [hy_2]; exact hG.up h_b0 (by decide)
  have hI := hI.ag (S := [3]) (y' := y_2) (by rw [hy_2]; exact ag.one h_b0) (by decide)
  refine lv_aload_n hx hb dX0_init_14 rfl (lv_at hl 0 rfl) ?_
  refine lv_iload_n hx hb dX0_init_15 rfl (lv_at hl 3 rfl) ?_
  refine tw_putF (D := (dC, dI)) (x := p2) (ty := .int) (C := RX0) (T := TX0) (N := 3) hx hb hts (fun _ hh => (List.mem_cons_of_mem _ (List.mem_append_right _ (List.mem_append_left _ hh)))) tyX0 tyX0_ok nmX0 hown hK hT hF hS h_b0 (by decide) cl_e3 rfl 2 (by decide) (hts (.fieldLink RX0 16 "TypingPool$Away" "to" "I") (List.mem_cons_of_mem _ (List.mem_append_left _ (List.mem_of_getElem? (i := 5) rfl)))) (fun _ h9 => h9) rfl hin rfl (tyX0_ok 2 (by decide)) rfl rfl (Nat.le_of_ble_eq_true rfl) rfl dX0_init_16 (fun H locs hT hS => ?_)
  obtain ⟨y_3, hy_3, hT⟩ : ∃ z : Nat → Nat → Int32, z = up2 y_2 b0 2 p2 ∧ tw (dC, dI) a k τ ln z g H := ⟨_, rfl, hT⟩
  have hG : ag τ [3] y y_3 := by rw [hy_3]; exact hG.up h_b0 (by decide)
  have hI := hI.ag (S := [3]) (y' := y_3) (by rw [hy_3]; exact ag.one h_b0) (by decide)
  exact W.vret hx hb hr (fun t ht hW9 => ⟨⟨(), rfl, trivial, ⟨y_3, hG, tw_at ht hT⟩⟩, hS.F ht⟩) hS.2.2 dX0_init_19
def wo_c_Piece_init : List Cond := [.methodLink RX6 3 objectInit, .instanceMethod objectInit, .code objectInit ⟨#[0xb1]⟩ 1 none]
def wm_c_Piece_init : List Cond := .code yX6_init cX6_init 1 none :: (wo_c_Piece_init ++ ([] : List Cond))
theorem gd_c_Piece_init : ∀ w ∈ wm_c_Piece_init, goodWord w = true := gd_c rfl (gd_a (by decide) gd_nil)
set_option maxRecDepth 20000 in
theorem im_c_Piece_init : ∀ w ∈ wm_c_Piece_init, w ∈ lw_tbl := im_c (in_r [.code yX6_init cX6_init 1 none] [664] (by decide +kernel)) (in_app (in_r wo_c_Piece_init [665, 102, 103] (by decide +kernel)) im_nil)
set_option maxHeartbeats 4000000 in
set_option maxRecDepth 100000 in
theorem c_Piece_init (l : Launch) (dC : Nat → ClassId) (dI : Nat → Nat → Nat) (ad av : Nat → Nat) (sz : Nat) (a : Nat → Nat) (k : Nat → ClassId) (τ ln : Nat → Nat) (y : Nat → Nat → Int32) (g : Nat → Nat → Option Nat) (u : Nat → Int) (b0 : Nat) (hI : IC a u τ ln y g) (h_b0 : τ b0 = 2) : Met l yX6_init wm_c_Piece_init ({ frames := 2, cells := 0, slots := 0, locals := 80 }) (pw_ ad av (dC, dI) sz [.ref b0] a k τ ln y g) (va_Qv (fun (_ : Unit) => True) (fun (_ : Unit) (t : State) => (tw (dC, dI) a k τ ln y g t.heap)) (fr τ sz)) 0 0 (fr τ sz) := by
  refine Met.ofW (cc := cX6_init) (maxL := 1) (ret := none) (by decide) rfl ?_
  intro p e s m args below meth c s₁ B hml hv
  obtain ⟨rfl, hsz, hT, hK, hM⟩ := hv
  have hx := B.exec
  have hb := B.bytes
  have hr := B.returns
  have hts := atoms_spec (ws := wm_c_Piece_init) B.pre
  have hown : s.vm.findClass RX6 = some m.cls := findClass_of_methodNamed B.named
  have hlocks := B.notSynchronized
  have hin : meth.name = "<init>" := (name_of_methodNamed B.named B.method).1
  subst hsz
  generalize hAe : fr τ s.heap.size = A at hM ⊢
  have hA : ∀ q : Nat, s.heap.size ≤ q → A q := fun q h => by rw [← hAe]; exact Or.inr h
  have hF : ∀ q, τ q ≠ 0 → A q := fun q h => by rw [← hAe]; exact Or.inl h
  have hS : va_S A s.heap s.heap [] := va_S.rf
  have hX := hI.1
  have hR := ic_r hI
  have hl := lv_entry ([.ref b0]) (n := 1) (Nat.le_of_ble_eq_true rfl)
  rw [lg_entry_eq]
  generalize (lg_sl ([.ref b0]) ++ List.replicate (1 - (lg_sl ([.ref b0])).length) Slot.unset).toArray = ls at hl ⊢
  have hl : lv_has ls 1 [(0, .ref b0)] := hl
  refine lv_aload_n hx hb dX6_init_0 rfl (lv_at hl 0 rfl) ?_
  refine W.objInit hx hb hown (hts (.methodLink RX6 3 objectInit) (List.mem_cons_of_mem _ (List.mem_append_left _ (List.mem_of_getElem? (i := 0) rfl)))) (hts (.instanceMethod objectInit) (List.mem_cons_of_mem _ (List.mem_append_left _ (List.mem_of_getElem? (i := 1) rfl)))) (hts (.code objectInit ⟨#[0xb1]⟩ 1 none) (List.mem_cons_of_mem _ (List.mem_append_left _ (List.mem_of_getElem? (i := 2) rfl)))) rfl (by rw [hml]; exact hl.1) rfl dX6_init_1 (Nat.le_of_ble_eq_true rfl) (Nat.le_of_ble_eq_true rfl) ?_
  refine W.eq (g2 := F0 m 4 ls []) rfl ?_
  exact W.vret hx hb hr (fun t ht hW9 => ⟨⟨(), rfl, trivial, (tw_at ht hT)⟩, hS.F ht⟩) hS.2.2 dX6_init_4
def wo_c_Corr_init : List Cond := [.methodLink RX2 3 objectInit, .instanceMethod objectInit, .code objectInit ⟨#[0xb1]⟩ 1 none, .fieldLink RX2 9 "TypingPool$Correction" "undone" "I", .fieldLink RX2 15 "TypingPool$Correction" "piece" "I", .fieldLink RX2 18 "TypingPool$Correction" "day" "I", .fieldLink RX2 21 "TypingPool$Correction" "t" "I", .fieldLink RX2 24 "TypingPool$Correction" "\x72" "I", .fieldLink RX2 27 "TypingPool$Correction" "a" "I"]
def wm_c_Corr_init : List Cond := .code yX2_init cX2_init 6 none :: (wo_c_Corr_init ++ (wsX20 ++ ([] : List Cond)))
theorem gd_c_Corr_init : ∀ w ∈ wm_c_Corr_init, goodWord w = true := gd_c rfl (gd_a (by decide) (gd_a gd_wsX20 gd_nil))
set_option maxRecDepth 20000 in
theorem im_c_Corr_init : ∀ w ∈ wm_c_Corr_init, w ∈ lw_tbl := im_c (in_r [.code yX2_init cX2_init 6 none] [904] (by decide +kernel)) (in_app (in_r wo_c_Corr_init [905, 102, 103, 916, 906, 908, 910, 912, 914] (by decide +kernel)) (in_app im_wsX20 im_nil))
set_option maxHeartbeats 4000000 in
set_option maxRecDepth 100000 in
theorem c_Corr_init (l : Launch) (dC : Nat → ClassId) (dI : Nat → Nat → Nat) (ad av : Nat → Nat) (sz : Nat) (a : Nat → Nat) (k : Nat → ClassId) (τ ln : Nat → Nat) (y : Nat → Nat → Int32) (g : Nat → Nat → Option Nat) (u : Nat → Int) (b0 : Nat) (p0 : Int32) (p1 : Int32) (p2 : Int32) (p3 : Int32) (p4 : Int32) (hI : IC a u τ ln y g) (h_b0 : τ b0 = 8) : Met l yX2_init wm_c_Corr_init ({ frames := 2, cells := 0, slots := 0, locals := 80 }) (pw_ ad av (dC, dI) sz [.ref b0, .int p0, .int p1, .int p2, .int p3, .int p4] a k τ ln y g) (va_Qv (fun (_ : Unit) => True) (fun (_ : Unit) (t : State) => (∃ (y' : Nat → Nat → Int32), ag τ [8] y y' ∧ (y' b0 0).toInt = p0.toInt ∧ tw (dC, dI) a k τ ln y' g t.heap)) (fr τ sz)) 0 0 (fr τ sz) := by
  refine Met.ofW (cc := cX2_init) (maxL := 6) (ret := none) (by decide) rfl ?_
  intro p e s m args below meth c s₁ B hml hv
  obtain ⟨rfl, hsz, hT, hK, hM⟩ := hv
  have hx := B.exec
  have hb := B.bytes
  have hr := B.returns
  have hts := atoms_spec (ws := wm_c_Corr_init) B.pre
  have hown : s.vm.findClass RX2 = some m.cls := findClass_of_methodNamed B.named
  have hlocks := B.notSynchronized
  have hin : meth.name = "<init>" := (name_of_methodNamed B.named B.method).1
  subst hsz
  generalize hAe : fr τ s.heap.size = A at hM ⊢
  have hA : ∀ q : Nat, s.heap.size ≤ q → A q := fun q h => by rw [← hAe]; exact Or.inr h
  have hF : ∀ q, τ q ≠ 0 → A q := fun q h => by rw [← hAe]; exact Or.inl h
  have hS : va_S A s.heap s.heap [] := va_S.rf
  have hX := hI.1
  have hR := ic_r hI
  have hG : ag τ [8] y y := ag.rf
  have hl := lv_entry ([.ref b0, .int p0, .int p1, .int p2, .int p3, .int p4]) (n := 6) (Nat.le_of_ble_eq_true rfl)
  rw [lg_entry_eq]
  generalize (lg_sl ([.ref b0, .int p0, .int p1, .int p2, .int p3, .int p4]) ++ List.replicate (6 - (lg_sl ([.ref b0, .int p0, .int p1, .int p2, .int p3, .int p4])).length) Slot.unset).toArray = ls at hl ⊢
  have hl : lv_has ls 6 [(0, .ref b0), (1, .int p0), (2, .int p1), (3, .int p2), (4, .int p3), (5, .int p4)] := hl
  refine lv_aload_n hx hb dX2_init_0 rfl (lv_at hl 0 rfl) ?_
  refine W.objInit hx hb hown (hts (.methodLink RX2 3 objectInit) (List.mem_cons_of_mem _ (List.mem_append_left _ (List.mem_of_getElem? (i := 0) rfl)))) (hts (.instanceMethod objectInit) (List.mem_cons_of_mem _ (List.mem_append_left _ (List.mem_of_getElem? (i := 1) rfl)))) (hts (.code objectInit ⟨#[0xb1]⟩ 1 none) (List.mem_cons_of_mem _ (List.mem_append_left _ (List.mem_of_getElem? (i := 2) rfl)))) rfl (by rw [hml]; exact hl.1) rfl dX2_init_1 (Nat.le_of_ble_eq_true rfl) (Nat.le_of_ble_eq_true rfl) ?_
  refine W.eq (g2 := F0 m 4 ls []) rfl ?_
  refine lv_aload_n hx hb dX2_init_4 rfl (lv_at hl 0 rfl) ?_
  refine lv_iconst (v := (-1)) hx hb dX2_init_5 (by decide) ?_
  refine tw_put (D := (dC, dI)) (x := (-1)) (ty := .int) (C := RX2) (T := TX2) (N := 6) hx hb hts (fun _ hh => (List.mem_cons_of_mem _ (List.mem_append_right _ (List.mem_append_left _ hh)))) tyX2 tyX2_ok nmX2 hown hK hT hF hS h_b0 (by decide) cl_e8 rfl 5 (by decide) (hts (.fieldLink RX2 9 "TypingPool$Correction" "undone" "I") (List.mem_cons_of_mem _ (List.mem_append_left _ (List.mem_of_getElem? (i := 3) rfl)))) (fun _ h9 => h9) rfl (tyX2_ok 5 (by decide)) rfl rfl (Nat.le_of_ble_eq_true rfl) rfl dX2_init_6 (fun H locs hT hS => ?_)
  obtain ⟨y_1, hy_1, hT⟩ : ∃ z : Nat → Nat → Int32, z = up2 y b0 5 (-1 : Int32) ∧ tw (dC, dI) a k τ ln z g H := ⟨_, rfl, hT⟩
  have hG : ag τ [8] y y_1 := by rw [hy_1]; exact hG.up h_b0 (by decide)
  have : (y_1 b0 0).toInt = (y b0 0).toInt := by rw [hy_1, up2_e (by decide)]
  have hI := hI.ag (S := [8]) (y' := y_1) (by rw [hy_1]; exact ag.one h_b0) (by decide)
  refine lv_aload_n hx hb dX2_init_9 rfl (lv_at hl 0 rfl) ?_
  refine lv_iload_n hx hb dX2_init_10 rfl (lv_at hl 1 rfl) ?_
  refine tw_putF (D := (dC, dI)) (x := p0) (ty := .int) (C := RX2) (T := TX2) (N := 6) hx hb hts (fun _ hh => (List.mem_cons_of_mem _ (List.mem_append_right _ (List.mem_append_left _ hh)))) tyX2 tyX2_ok nmX2 hown hK hT hF hS h_b0 (by decide) cl_e8 rfl 0 (by decide) (hts (.fieldLink RX2 15 "TypingPool$Correction" "piece" "I") (List.mem_cons_of_mem _ (List.mem_append_left _ (List.mem_of_getElem? (i := 4) rfl)))) (fun _ h9 => h9) rfl hin rfl (tyX2_ok 0 (by decide)) rfl rfl (Nat.le_of_ble_eq_true rfl) rfl dX2_init_11 (fun H locs hT hS => ?_)
  obtain ⟨y_2, hy_2, hT⟩ : ∃ z : Nat → Nat → Int32, z = up2 y_1 b0 0 p0 ∧ tw (dC, dI) a k τ ln z g H := ⟨_, rfl, hT⟩
  have hG : ag τ [8] y y_2 := by rw [hy_2]; exact hG.up h_b0 (by decide)
  have : (y_2 b0 0).toInt = p0.toInt := (congrArg Int32.toInt (show y_2 b0 0 = p0 from by rw [hy_2]; exact up2_i)).trans rfl
  have hI := hI.ag (S := [8]) (y' := y_2) (by rw [hy_2]; exact ag.one h_b0) (by decide)
  refine lv_aload_n hx hb dX2_init_14 rfl (lv_at hl 0 rfl) ?_
  refine lv_iload_n hx hb dX2_init_15 rfl (lv_at hl 2 rfl) ?_
  refine tw_putF (D := (dC, dI)) (x := p1) (ty := .int) (C := RX2) (T := TX2) (N := 6) hx hb hts (fun _ hh => (List.mem_cons_of_mem _ (List.mem_append_right _ (List.mem_append_left _ hh)))) tyX2 tyX2_ok nmX2 hown hK hT hF hS h_b0 (by decide) cl_e8 rfl 1 (by decide) (hts (.fieldLink RX2 18 "TypingPool$Correction" "day" "I") (List.mem_cons_of_mem _ (List.mem_append_left _ (List.mem_of_getElem? (i := 5) rfl)))) (fun _ h9 => h9) rfl hin rfl (tyX2_ok 1 (by decide)) rfl rfl (Nat.le_of_ble_eq_true rfl) rfl dX2_init_16 (fun H locs hT hS => ?_)
  obtain ⟨y_3, hy_3, hT⟩ : ∃ z : Nat → Nat → Int32, z = up2 y_2 b0 1 p1 ∧ tw (dC, dI) a k τ ln z g H := ⟨_, rfl, hT⟩
  have hG : ag τ [8] y y_3 := by rw [hy_3]; exact hG.up h_b0 (by decide)
  have : (y_3 b0 0).toInt = (y_2 b0 0).toInt := by rw [hy_3, up2_e (by decide)]
  have hI := hI.ag (S := [8]) (y' := y_3) (by rw [hy_3]; exact ag.one h_b0) (by decide)
  refine lv_aload_n hx hb dX2_init_19 rfl (lv_at hl 0 rfl) ?_
  refine lv_iload_n hx hb dX2_init_20 rfl (lv_at hl 3 rfl) ?_
  refine tw_putF (D := (dC, dI)) (x := p2) (ty := .int) (C := RX2) (T := TX2) (N := 6) hx hb hts (fun _ hh => (List.mem_cons_of_mem _ (List.mem_append_right _ (List.mem_append_left _ hh)))) tyX2 tyX2_ok nmX2 hown hK hT hF hS h_b0 (by decide) cl_e8 rfl 2 (by decide) (hts (.fieldLink RX2 21 "TypingPool$Correction" "t" "I") (List.mem_cons_of_mem _ (List.mem_append_left _ (List.mem_of_getElem? (i := 6) rfl)))) (fun _ h9 => h9) rfl hin rfl (tyX2_ok 2 (by decide)) rfl rfl (Nat.le_of_ble_eq_true rfl) rfl dX2_init_21 (fun H locs hT hS => ?_)
  obtain ⟨y_4, hy_4, hT⟩ : ∃ z : Nat → Nat → Int32, z = up2 y_3 b0 2 p2 ∧ tw (dC, dI) a k τ ln z g H := ⟨_, rfl, hT⟩
  have hG : ag τ [8] y y_4 := by rw [hy_4]; exact hG.up h_b0 (by decide)
  have : (y_4 b0 0).toInt = (y_3 b0 0).toInt := by rw [hy_4, up2_e (by decide)]
  have hI := hI.ag (S := [8]) (y' := y_4) (by rw [hy_4]; exact ag.one h_b0) (by decide)
  refine lv_aload_n hx hb dX2_init_24 rfl (lv_at hl 0 rfl) ?_
  refine lv_iload hx hb dX2_init_25 (lv_at hl 4 rfl) ?_
  refine tw_putF (D := (dC, dI)) (x := p3) (ty := .int) (C := RX2) (T := TX2) (N := 6) hx hb hts (fun _ hh => (List.mem_cons_of_mem _ (List.mem_append_right _ (List.mem_append_left _ hh)))) tyX2 tyX2_ok nmX2 hown hK hT hF hS h_b0 (by decide) cl_e8 rfl 3 (by decide) (hts (.fieldLink RX2 24 "TypingPool$Correction" "\x72" "I") (List.mem_cons_of_mem _ (List.mem_append_left _ (List.mem_of_getElem? (i := 7) rfl)))) (fun _ h9 => h9) rfl hin rfl (tyX2_ok 3 (by decide)) rfl rfl (Nat.le_of_ble_eq_true rfl) rfl dX2_init_27 (fun H locs hT hS => ?_)
  obtain ⟨y_5, hy_5, hT⟩ : ∃ z : Nat → Nat → Int32, z = up2 y_4 b0 3 p3 ∧ tw (dC, dI) a k τ ln z g H := ⟨_, rfl, hT⟩
  have hG : ag τ [8] y y_5 := by rw [hy_5]; exact hG.up h_b0 (by decide)
  have : (y_5 b0 0).toInt = (y_4 b0 0).toInt := by rw [hy_5, up2_e (by decide)]
  have hI := hI.ag (S := [8]) (y' := y_5) (by rw [hy_5]; exact ag.one h_b0) (by decide)
  refine lv_aload_n hx hb dX2_init_30 rfl (lv_at hl 0 rfl) ?_
  refine lv_iload hx hb dX2_init_31 (lv_at hl 5 rfl) ?_
  refine tw_putF (D := (dC, dI)) (x := p4) (ty := .int) (C := RX2) (T := TX2) (N := 6) hx hb hts (fun _ hh => (List.mem_cons_of_mem _ (List.mem_append_right _ (List.mem_append_left _ hh)))) tyX2 tyX2_ok nmX2 hown hK hT hF hS h_b0 (by decide) cl_e8 rfl 4 (by decide) (hts (.fieldLink RX2 27 "TypingPool$Correction" "a" "I") (List.mem_cons_of_mem _ (List.mem_append_left _ (List.mem_of_getElem? (i := 8) rfl)))) (fun _ h9 => h9) rfl hin rfl (tyX2_ok 4 (by decide)) rfl rfl (Nat.le_of_ble_eq_true rfl) rfl dX2_init_33 (fun H locs hT hS => ?_)
  obtain ⟨y_6, hy_6, hT⟩ : ∃ z : Nat → Nat → Int32, z = up2 y_5 b0 4 p4 ∧ tw (dC, dI) a k τ ln z g H := ⟨_, rfl, hT⟩
  have hG : ag τ [8] y y_6 := by rw [hy_6]; exact hG.up h_b0 (by decide)
  have : (y_6 b0 0).toInt = (y_5 b0 0).toInt := by rw [hy_6, up2_e (by decide)]
  have hI := hI.ag (S := [8]) (y' := y_6) (by rw [hy_6]; exact ag.one h_b0) (by decide)
  exact W.vret hx hb hr (fun t ht hW9 => ⟨⟨(), rfl, trivial, ⟨y_6, hG, by omega, tw_at ht hT⟩⟩, hS.F ht⟩) hS.2.2 dX2_init_36
def wo_c_Rule_init : List Cond := [.methodLink RX9 1 objectInit, .instanceMethod objectInit, .code objectInit ⟨#[0xb1]⟩ 1 none, .fieldLink RX9 7 "TypingPool$Rule" "kind" "I", .fieldLink RX9 13 "TypingPool$Rule" "day" "I", .fieldLink RX9 16 "TypingPool$Rule" "code" "[I"]
def wm_c_Rule_init : List Cond := .code yX9_init cX9_init 4 none :: (wo_c_Rule_init ++ (wsX90 ++ ([] : List Cond)))
theorem gd_c_Rule_init : ∀ w ∈ wm_c_Rule_init, goodWord w = true := gd_c rfl (gd_a (by decide) (gd_a gd_wsX90 gd_nil))
set_option maxRecDepth 20000 in
theorem im_c_Rule_init : ∀ w ∈ wm_c_Rule_init, w ∈ lw_tbl := im_c (in_r [.code yX9_init cX9_init 4 none] [381] (by decide +kernel)) (in_app (in_r wo_c_Rule_init [382, 102, 103, 383, 385, 387] (by decide +kernel)) (in_app im_wsX90 im_nil))
set_option maxHeartbeats 4000000 in
set_option maxRecDepth 100000 in
theorem c_Rule_init (l : Launch) (dC : Nat → ClassId) (dI : Nat → Nat → Nat) (ad av : Nat → Nat) (sz : Nat) (a : Nat → Nat) (k : Nat → ClassId) (τ ln : Nat → Nat) (y : Nat → Nat → Int32) (g : Nat → Nat → Option Nat) (u : Nat → Int) (b0 : Nat) (p0 : Int32) (p1 : Int32) (b1 : Nat) (hI : IC a u τ ln y g) (h_b1 : τ b1 = 6) (h_b0 : τ b0 = 7) : Met l yX9_init wm_c_Rule_init ({ frames := 2, cells := 0, slots := 0, locals := 80 }) (pw_ ad av (dC, dI) sz [.ref b0, .int p0, .int p1, .ref b1] a k τ ln y g) (va_Qv (fun (_ : Unit) => True) (fun (_ : Unit) (t : State) => (∃ (y' : Nat → Nat → Int32), ag τ [7] y y' ∧ tw (dC, dI) a k τ ln y' (upg g b0 2 (some b1)) t.heap)) (fr τ sz)) 0 0 (fr τ sz) := by
  refine Met.ofW (cc := cX9_init) (maxL := 4) (ret := none) (by decide) rfl ?_
  intro p e s m args below meth c s₁ B hml hv
  obtain ⟨rfl, hsz, hT, hK, hM⟩ := hv
  have hx := B.exec
  have hb := B.bytes
  have hr := B.returns
  have hts := atoms_spec (ws := wm_c_Rule_init) B.pre
  have hown : s.vm.findClass RX9 = some m.cls := findClass_of_methodNamed B.named
  have hlocks := B.notSynchronized
  have hin : meth.name = "<init>" := (name_of_methodNamed B.named B.method).1
  subst hsz
  generalize hAe : fr τ s.heap.size = A at hM ⊢
  have hA : ∀ q : Nat, s.heap.size ≤ q → A q := fun q h => by rw [← hAe]; exact Or.inr h
  have hF : ∀ q, τ q ≠ 0 → A q := fun q h => by rw [← hAe]; exact Or.inl h
  have hS : va_S A s.heap s.heap [] := va_S.rf
  have hX := hI.1
  have hR := ic_r hI
  have hG : ag τ [7] y y := ag.rf
  have hl := lv_entry ([.ref b0, .int p0, .int p1, .ref b1]) (n := 4) (Nat.le_of_ble_eq_true rfl)
  rw [lg_entry_eq]
  generalize (lg_sl ([.ref b0, .int p0, .int p1, .ref b1]) ++ List.replicate (4 - (lg_sl ([.ref b0, .int p0, .int p1, .ref b1])).length) Slot.unset).toArray = ls at hl ⊢
  have hl : lv_has ls 4 [(0, .ref b0), (1, .int p0), (2, .int p1), (3, .ref b1)] := hl
  refine lv_aload_n hx hb dX9_init_0 rfl (lv_at hl 0 rfl) ?_
  refine W.objInit hx hb hown (hts (.methodLink RX9 1 objectInit) (List.mem_cons_of_mem _ (List.mem_append_left _ (List.mem_of_getElem? (i := 0) rfl)))) (hts (.instanceMethod objectInit) (List.mem_cons_of_mem _ (List.mem_append_left _ (List.mem_of_getElem? (i := 1) rfl)))) (hts (.code objectInit ⟨#[0xb1]⟩ 1 none) (List.mem_cons_of_mem _ (List.mem_append_left _ (List.mem_of_getElem? (i := 2) rfl)))) rfl (by rw [hml]; exact hl.1) rfl dX9_init_1 (Nat.le_of_ble_eq_true rfl) (Nat.le_of_ble_eq_true rfl) ?_
  refine W.eq (g2 := F0 m 4 ls []) rfl ?_
  refine lv_aload_n hx hb dX9_init_4 rfl (lv_at hl 0 rfl) ?_
  refine lv_iload_n hx hb dX9_init_5 rfl (lv_at hl 1 rfl) ?_
  refine tw_putF (D := (dC, dI)) (x := p0) (ty := .int) (C := RX9) (T := TX9) (N := 3) hx hb hts (fun _ hh => (List.mem_cons_of_mem _ (List.mem_append_right _ (List.mem_append_left _ hh)))) tyX9 tyX9_ok nmX9 hown hK hT hF hS h_b0 (by decide) cl_e7 rfl 0 (by decide) (hts (.fieldLink RX9 7 "TypingPool$Rule" "kind" "I") (List.mem_cons_of_mem _ (List.mem_append_left _ (List.mem_of_getElem? (i := 3) rfl)))) (fun _ h9 => h9) rfl hin rfl (tyX9_ok 0 (by decide)) rfl rfl (Nat.le_of_ble_eq_true rfl) rfl dX9_init_6 (fun H locs hT hS => ?_)
  obtain ⟨y_1, hy_1, hT⟩ : ∃ z : Nat → Nat → Int32, z = up2 y b0 0 p0 ∧ tw (dC, dI) a k τ ln z g H := ⟨_, rfl, hT⟩
  have hG : ag τ [7] y y_1 := by rw [hy_1]; exact hG.up h_b0 (by decide)
  have hI := hI.ag (S := [7]) (y' := y_1) (by rw [hy_1]; exact ag.one h_b0) (by decide)
  refine lv_aload_n hx hb dX9_init_9 rfl (lv_at hl 0 rfl) ?_
  refine lv_iload_n hx hb dX9_init_10 rfl (lv_at hl 2 rfl) ?_
  refine tw_putF (D := (dC, dI)) (x := p1) (ty := .int) (C := RX9) (T := TX9) (N := 3) hx hb hts (fun _ hh => (List.mem_cons_of_mem _ (List.mem_append_right _ (List.mem_append_left _ hh)))) tyX9 tyX9_ok nmX9 hown hK hT hF hS h_b0 (by decide) cl_e7 rfl 1 (by decide) (hts (.fieldLink RX9 13 "TypingPool$Rule" "day" "I") (List.mem_cons_of_mem _ (List.mem_append_left _ (List.mem_of_getElem? (i := 4) rfl)))) (fun _ h9 => h9) rfl hin rfl (tyX9_ok 1 (by decide)) rfl rfl (Nat.le_of_ble_eq_true rfl) rfl dX9_init_11 (fun H locs hT hS => ?_)
  obtain ⟨y_2, hy_2, hT⟩ : ∃ z : Nat → Nat → Int32, z = up2 y_1 b0 1 p1 ∧ tw (dC, dI) a k τ ln z g H := ⟨_, rfl, hT⟩
  have hG : ag τ [7] y y_2 := by rw [hy_2]; exact hG.up h_b0 (by decide)
  have hI := hI.ag (S := [7]) (y' := y_2) (by rw [hy_2]; exact ag.one h_b0) (by decide)
  refine lv_aload_n hx hb dX9_init_14 rfl (lv_at hl 0 rfl) ?_
  refine lv_aload_n hx hb dX9_init_15 rfl (lv_at hl 3 rfl) ?_
  refine tw_putFr (D := (dC, dI)) (x := b1) (ty := .array .int) (C := RX9) (T := TX9) (N := 3) hx hb hts (fun _ hh => (List.mem_cons_of_mem _ (List.mem_append_right _ (List.mem_append_left _ hh)))) tyX9 tyX9_ok nmX9 hown hK hT hF hS h_b0 (by decide) cl_e7 rfl 2 (by decide) (hts (.fieldLink RX9 16 "TypingPool$Rule" "code" "[I") (List.mem_cons_of_mem _ (List.mem_append_left _ (List.mem_of_getElem? (i := 5) rfl)))) (fun _ h9 => h9) rfl hin rfl (tyX9_ok 2 (by decide)) rfl rfl (Nat.le_of_ble_eq_true rfl) rfl dX9_init_16 (fun H locs hT hS => ?_)
  have hI := hI.upR (i := 2) (x := some b1) h_b0
  exact W.vret hx hb hr (fun t ht hW9 => ⟨⟨(), rfl, trivial, ⟨y_2, hG, tw_at ht hT⟩⟩, hS.F ht⟩) hS.2.2 dX9_init_19
def wo_c_tell : List Cond := [.fieldLink RX10 31 "TypingPool$Rules" "reader" "LTypingPool$Reader;", .methodLink RX10 48 yX10_lettersOf, .static yX10_lettersOf, .initialized RX10, .methodLink RX10 51 yX8_read, .instanceMethod yX8_read, .selects RX8 yX8_read yX8_read, .initialized RX8, .fieldLink RX10 17 "TypingPool$Rules" "count" "I", .fieldLink RX10 11 "TypingPool$Rules" "told" "[LTypingPool$Rule;", .classLink RX10 9 RX9, .instantiable RX9 3, .initialized RX9, .methodLink RX10 55 yX8_codeRead, .instanceMethod yX8_codeRead, .selects RX8 yX8_codeRead yX8_codeRead, .instanceMethod yX9_init, .methodLink RX10 59 yX9_init]
def wm_c_tell : List Cond := .code yX10_tell cX10_tell 7 (some .int) :: (wo_c_tell ++ (wsX100 ++ (wm_c_lettersOf ++ (wm_c_rread ++ (wsX90 ++ (wm_c_codeRead ++ (wm_c_Rule_init ++ ([] : List Cond))))))))
theorem gd_c_tell : ∀ w ∈ wm_c_tell, goodWord w = true := gd_c rfl (gd_a (by decide) (gd_a gd_wsX100 (gd_a gd_c_lettersOf (gd_a gd_c_rread (gd_a gd_wsX90 (gd_a gd_c_codeRead (gd_a gd_c_Rule_init gd_nil)))))))
set_option maxRecDepth 20000 in
theorem im_c_tell : ∀ w ∈ wm_c_tell, w ∈ lw_tbl := im_c (in_r [.code yX10_tell cX10_tell 7 (some .int)] [742] (by decide +kernel)) (in_app (in_r wo_c_tell [405, 248, 249, 72, 255, 256, 257, 73, 399, 397, 162, 360, 80, 361, 362, 363, 380, 379] (by decide +kernel)) (in_app im_wsX100 (in_app im_c_lettersOf (in_app im_c_rread (in_app im_wsX90 (in_app im_c_codeRead (in_app im_c_Rule_init im_nil)))))))
set_option maxHeartbeats 4000000 in
set_option maxRecDepth 100000 in
theorem c_tell (l : Launch) (dC : Nat → ClassId) (dI : Nat → Nat → Nat) (ad av : Nat → Nat) (sz : Nat) (a : Nat → Nat) (k : Nat → ClassId) (τ ln : Nat → Nat) (y : Nat → Nat → Int32) (g : Nat → Nat → Option Nat) (u : Nat → Int) (p0 : Int32) (p1 : Int32) (p2 : Int32) (hI : IC a u τ ln y g) (hlp0 : 0 ≤ p0.toInt) (hup0 : p0.toInt < 4) (h0q : 0 ≤ p2.toInt) (h1q : p2.toInt ≤ 100) (hcc : u 4 < 20) : Met l yX10_tell wm_c_tell ({ frames := 8, cells := 2, slots := 63, locals := 340 }) (pw_ ad av (dC, dI) sz [.ref (a 2), .int p0, .int p1, .ref (a 7), .int p2] a k τ ln y g) (va_Qi (fun (r u : Int32) => u = r) (fun (r : Int32) (t : State) => (∃ (u' : Nat → Int), (∀ i, i ∉ ([4] : List Nat) → u' i = u i) ∧ pq (dC, dI) a k τ y g u' sz t.heap)) (fr τ sz)) 2 63 (fr τ sz) := by
  refine Met.ofW (cc := cX10_tell) (maxL := 7) (ret := (some .int)) (by decide) rfl ?_
  intro p e s m args below meth c s₁ B hml hv
  obtain ⟨rfl, hsz, hT, hK, hM⟩ := hv
  have hx := B.exec
  have hb := B.bytes
  have hr := B.returns
  have hts := atoms_spec (ws := wm_c_tell) B.pre
  have hown : s.vm.findClass RX10 = some m.cls := findClass_of_methodNamed B.named
  have hlocks := B.notSynchronized
  subst hsz
  generalize hAe : fr τ s.heap.size = A at hM ⊢
  have hA : ∀ q : Nat, s.heap.size ≤ q → A q := fun q h => by rw [← hAe]; exact Or.inr h
  have hF : ∀ q, τ q ≠ 0 → A q := fun q h => by rw [← hAe]; exact Or.inl h
  have hS : va_S A s.heap s.heap [] := va_S.rf
  have hX := hI.1
  have hR := ic_r hI
  have hMo : mono τ τ s.heap.size := mono.rf
  have hKM : kpM τ y g y g := kpM.rf
  have hl := lv_entry ([.ref (a 2), .int p0, .int p1, .ref (a 7), .int p2]) (n := 7) (Nat.le_of_ble_eq_true rfl)
  rw [lg_entry_eq]
  generalize (lg_sl ([.ref (a 2), .int p0, .int p1, .ref (a 7), .int p2]) ++ List.replicate (7 - (lg_sl ([.ref (a 2), .int p0, .int p1, .ref (a 7), .int p2])).length) Slot.unset).toArray = ls at hl ⊢
  have hl : lv_has ls 7 [(0, .ref (a 2)), (1, .int p0), (2, .int p1), (3, .ref (a 7)), (4, .int p2)] := hl
  refine lv_aload_n hx hb dX10_tell_0 rfl (lv_at hl 0 rfl) ?_
  refine tw_get (D := (dC, dI)) (v := .ref (a 16)) (C := RX10) (T := TX10) (N := 6) hx hb hts (fun _ hh => (List.mem_cons_of_mem _ (List.mem_append_right _ (List.mem_append_left _ hh)))) hown hK hT (fx_2 hX) (by decide) cl_e12 rfl 4 (by decide) (hts (.fieldLink RX10 31 "TypingPool$Rules" "reader" "LTypingPool$Reader;") (List.mem_cons_of_mem _ (List.mem_append_left _ (List.mem_of_getElem? (i := 0) rfl)))) (fun _ h9 => h9) rfl dX10_tell_1 ?_
  refine lv_aload_n hx hb dX10_tell_4 rfl (lv_at hl 3 rfl) ?_
  refine lv_iload hx hb dX10_tell_5 (lv_at hl 4 rfl) ?_
  refine lv_iload_n hx hb dX10_tell_7 rfl (lv_at hl 1 rfl) ?_
  have hFc := tw_free hF hS hA
  refine va_callr (va_runS (As := [.int p0]) (rest := [.int p2, .ref (a 7), .ref (a 16)]) ⟨hx, hb, hml, hown, hts⟩ (c_lettersOf l dC dI ad av s.heap.size a k τ ln y g u p0  ) (va_cwS 1 hts (gi_3 (List.mem_cons_of_mem _ (List.mem_append_left _ (List.mem_of_getElem? (i := 1) rfl))) (List.mem_cons_of_mem _ (List.mem_append_left _ (List.mem_of_getElem? (i := 2) rfl))) (List.mem_cons_of_mem _ (List.mem_append_left _ (List.mem_of_getElem? (i := 3) rfl))) (fun _ hh => (List.mem_cons_of_mem _ (List.mem_append_right _ (List.mem_append_right _ (List.mem_append_left _ hh))))) gd_c_lettersOf) rfl rfl rfl (by decide +kernel) ⟨Nat.le_of_ble_eq_true rfl, Nat.le_of_ble_eq_true rfl⟩) ⟨pw_blind, pw_use hT hK hFc hS hM⟩ rfl rfl hl.1 rfl (lv_room (Nat.le_of_ble_eq_true rfl)) dX10_tell_8 ⟨Nat.le_of_ble_eq_true rfl, Nat.le_of_ble_eq_true rfl⟩) hS (fun q _ h => hFc q h) hFc (fun u0 r_1 t H locs ht hvm hw hB hz1 hk1 hS => ?_)
  refine W.widen (k := 0) (n := 0) (Nat.le_of_ble_eq_true rfl) (Nat.le_of_ble_eq_true rfl) ?_
  clear hvm hz1 hk1
  rcases hB with ⟨hre, hT⟩ | ⟨hre, hT⟩ | ⟨hre, hT⟩ | ⟨hre, hT⟩
  · subst hre
    rw [ht] at hT
    have hFc := tw_free hF hS hA
    refine va_calli (va_runV (As := [.ref (a 7), .int p2, .ref (ad 4)]) (rest := []) ⟨hx, hb, hml, hown, hts⟩ (c_rread l dC dI ad av H.size a k τ ln y g u p2 4 hI (by decide) (by omega) (by omega)) (cwV 3 hts (gi_4 (List.mem_cons_of_mem _ (List.mem_append_left _ (List.mem_of_getElem? (i := 4) rfl))) (List.mem_cons_of_mem _ (List.mem_append_left _ (List.mem_of_getElem? (i := 5) rfl))) (List.mem_cons_of_mem _ (List.mem_append_left _ (List.mem_of_getElem? (i := 6) rfl))) (List.mem_cons_of_mem _ (List.mem_append_left _ (List.mem_of_getElem? (i := 7) rfl))) (fun _ hh => (List.mem_cons_of_mem _ (List.mem_append_right _ (List.mem_append_right _ (List.mem_append_right _ (List.mem_append_left _ hh)))))) gd_c_rread) rfl rfl rfl (by decide +kernel) ⟨Nat.le_of_ble_eq_true rfl, Nat.le_of_ble_eq_true rfl⟩) ⟨pw_blind, tw_recv hK hT (fx_16 hX) (by decide) cl_e26 rfl, pw_use hT hK hFc hS hM⟩ rfl rfl hl.1 rfl (lv_room (Nat.le_of_ble_eq_true rfl)) dX10_tell_11 ⟨Nat.le_of_ble_eq_true rfl, Nat.le_of_ble_eq_true rfl⟩) hS (fun q _ h => hFc q h) hFc (fun r0 r_2 t H locs ht hvm hw hB hz1 hk1 hS => ?_)
    refine W.widen (k := 0) (n := 0) (Nat.le_of_ble_eq_true rfl) (Nat.le_of_ble_eq_true rfl) ?_
    clear hvm hz1 hk1
    subst hw
    obtain ⟨y_3, hgy_3, hf_4, hf_5, hT⟩ := hB
    rw [ht] at hT
    have hKM := hKM.ag hMo hgy_3 (by decide)
    have hI := hI.ag hgy_3 (by decide)
    refine lv_istore (lv' := [(5, .int r_2), (0, .ref (a 2)), (1, .int p0), (2, .int p1), (3, .ref (a 7)), (4, .int p2)]) hx hb dX10_tell_14 hl (by decide) rfl (fun ls hl => ?_)
    refine lv_iload hx hb dX10_tell_16 (lv_at hl 0 rfl) ?_
    refine lv_iconst (v := (-1)) hx hb dX10_tell_18 (by decide) ?_
    refine lv_icmp_eq (tgt := 27) hx hb dX10_tell_19 (by decide) (fun c_6 => ?_) (fun c_6 => ?_)
    · have nc_6 := z_eq rfl (zk (x := (-1)) (-1) rfl) c_6
      refine lv_aload_n hx hb dX10_tell_27 rfl (lv_at hl 1 rfl) ?_
      refine tw_get (D := (dC, dI)) (v := .int (y_3 (a 2) 1)) (C := RX10) (T := TX10) (N := 6) hx hb hts (fun _ hh => (List.mem_cons_of_mem _ (List.mem_append_right _ (List.mem_append_left _ hh)))) hown hK hT (fx_2 hX) (by decide) cl_e12 rfl 1 (by decide) (hts (.fieldLink RX10 17 "TypingPool$Rules" "count" "I") (List.mem_cons_of_mem _ (List.mem_append_left _ (List.mem_of_getElem? (i := 8) rfl)))) (fun _ h9 => h9) rfl dX10_tell_28 ?_
      have hc_7 := ic_4 hI
      refine lv_istore (lv' := [(6, .int (y_3 (a 2) 1)), (5, .int r_2), (0, .ref (a 2)), (1, .int p0), (2, .int p1), (3, .ref (a 7)), (4, .int p2)]) hx hb dX10_tell_31 hl (by decide) rfl (fun ls hl => ?_)
      refine lv_aload_n hx hb dX10_tell_33 rfl (lv_at hl 2 rfl) ?_
      refine tw_get (D := (dC, dI)) (v := .ref (a 13)) (C := RX10) (T := TX10) (N := 6) hx hb hts (fun _ hh => (List.mem_cons_of_mem _ (List.mem_append_right _ (List.mem_append_left _ hh)))) hown hK hT (fx_2 hX) (by decide) cl_e12 rfl 0 (by decide) (hts (.fieldLink RX10 11 "TypingPool$Rules" "told" "[LTypingPool$Rule;") (List.mem_cons_of_mem _ (List.mem_append_left _ (List.mem_of_getElem? (i := 9) rfl)))) (fun _ h9 => h9) rfl dX10_tell_34 ?_
      refine lv_iload hx hb dX10_tell_37 (lv_at hl 0 rfl) ?_
      refine tw_new (ci := 9) (fs := [.int 0, .int 0, .null]) (C := RX9) (T := TX9) (N := 3) hx hb hts (fun _ hh => (List.mem_cons_of_mem _ (List.mem_append_right _ (List.mem_append_right _ (List.mem_append_right _ (List.mem_append_right _ (List.mem_append_left _ hh))))))) tyX9 tyX9_ok hown (hts (.classLink RX10 9 RX9) (List.mem_cons_of_mem _ (List.mem_append_left _ (List.mem_of_getElem? (i := 10) rfl)))) (hts (.instantiable RX9 3) (List.mem_cons_of_mem _ (List.mem_append_left _ (List.mem_of_getElem? (i := 11) rfl)))) (hts (.initialized RX9) (List.mem_cons_of_mem _ (List.mem_append_left _ (List.mem_of_getElem? (i := 12) rfl)))) hK hT hF hS hA 7 rfl (fun j hj => by rcases (show j = 0 ∨ j = 1 ∨ j = 2 by omega) with rfl | rfl | rfl <;> rfl) (fun _ => cl_e7) (Nat.le_of_ble_eq_true rfl) (Nat.le_of_ble_eq_true rfl) dX10_tell_39 (fun q_8 H hq0 hAq hT hS => ?_)
      refine W.widen (k := 1) (n := 3) (Nat.le_of_ble_eq_true rfl) (Nat.le_of_ble_eq_true rfl) ?_
      obtain ⟨tm_9, lm_9, ym_9, gm_9, htm_9, hlm_9, hym_9, hgm_9, hT⟩ : ∃ (z1 z2 : Nat → Nat) (z3 : Nat → Nat → Int32) (z4 : Nat → Nat → Option Nat), z1 = nwt τ q_8 7 ∧ z2 = ln ∧ z3 = nwy y_3 q_8 (fun _ => 0) ∧ z4 = nwg g q_8 ∧ tw (dC, dI) a k z1 z2 z3 z4 H := ⟨_, _, _, _, rfl, rfl, rfl, rfl, hT⟩
      have hKM : kpM τ y g ym_9 gm_9 := by rw [hym_9, hgm_9]; exact hKM.nw hMo hq0
      have hMo : mono τ tm_9 s.heap.size := by rw [htm_9]; exact hMo.nw hq0 (by rw [hAe]; exact hAq)
      have hI : IC a u tm_9 lm_9 ym_9 gm_9 := by rw [htm_9, hlm_9, hym_9, hgm_9]; exact hI.nw hq0 (Or.inl rfl) (by decide)
      have : (ym_9 (a 16) 1).toInt = (y_3 (a 16) 1).toInt := by rw [hym_9, nwy_o (kd_ne (fx_16 hX) hq0 (by decide))]
      have : (ym_9 (a 16) 3).toInt = (y_3 (a 16) 3).toInt := by rw [hym_9, nwy_o (kd_ne (fx_16 hX) hq0 (by decide))]
      have hX := hI.1
      have hF : ∀ q, tm_9 q ≠ 0 → A q := fun q h => by rw [← hAe]; exact hMo.2 q h
      have hk_10 : tm_9 q_8 = 7 := by rw [htm_9]; exact nwt_i
      refine lv_dup hx hb dX10_tell_42 rfl ?_
      refine lv_iload_n hx hb dX10_tell_43 rfl (lv_at hl 3 rfl) ?_
      refine lv_iload_n hx hb dX10_tell_44 rfl (lv_at hl 4 rfl) ?_
      refine lv_aload_n hx hb dX10_tell_45 rfl (lv_at hl 2 rfl) ?_
      refine tw_get (D := (dC, dI)) (v := .ref (a 16)) (C := RX10) (T := TX10) (N := 6) hx hb hts (fun _ hh => (List.mem_cons_of_mem _ (List.mem_append_right _ (List.mem_append_left _ hh)))) hown hK hT (fx_2 hX) (by decide) cl_e12 rfl 4 (by decide) (hts (.fieldLink RX10 31 "TypingPool$Rules" "reader" "LTypingPool$Reader;") (List.mem_cons_of_mem _ (List.mem_append_left _ (List.mem_of_getElem? (i := 0) rfl)))) (fun _ h9 => h9) rfl dX10_tell_46 ?_
      have hFc := tw_free hF hS hA
      refine va_callr (va_runV (As := []) (rest := [.int p1, .int p0, .ref q_8, .ref q_8, .int (y_3 (a 2) 1), .ref (a 13)]) ⟨hx, hb, hml, hown, hts⟩ (c_codeRead l dC dI ad av H.size a k tm_9 lm_9 ym_9 gm_9 u  hI (by omega)) (cwV 0 hts (gi_4 (List.mem_cons_of_mem _ (List.mem_append_left _ (List.mem_of_getElem? (i := 13) rfl))) (List.mem_cons_of_mem _ (List.mem_append_left _ (List.mem_of_getElem? (i := 14) rfl))) (List.mem_cons_of_mem _ (List.mem_append_left _ (List.mem_of_getElem? (i := 15) rfl))) (List.mem_cons_of_mem _ (List.mem_append_left _ (List.mem_of_getElem? (i := 7) rfl))) (fun _ hh => (List.mem_cons_of_mem _ (List.mem_append_right _ (List.mem_append_right _ (List.mem_append_right _ (List.mem_append_right _ (List.mem_append_right _ (List.mem_append_left _ hh)))))))) gd_c_codeRead) rfl rfl rfl (by decide +kernel) ⟨Nat.le_of_ble_eq_true rfl, Nat.le_of_ble_eq_true rfl⟩) ⟨pw_blind, tw_recv hK hT (fx_16 hX) (by decide) cl_e26 rfl, pw_use hT hK hFc hS hM⟩ rfl rfl hl.1 rfl (lv_room (Nat.le_of_ble_eq_true rfl)) dX10_tell_49 ⟨Nat.le_of_ble_eq_true rfl, Nat.le_of_ble_eq_true rfl⟩) hS (fun q _ h => hFc q h) hFc (fun u0 r_11 t H locs ht hvm hw hB hz1 hk1 hS => ?_)
      refine W.widen (k := 2) (n := 63) (Nat.le_of_ble_eq_true rfl) (Nat.le_of_ble_eq_true rfl) ?_
      clear hvm hz1 hk1
      obtain ⟨n_12, fn_12, h0n_12, hfrn_12, hlen_12, hT⟩ := hB
      rw [ht] at hT
      obtain ⟨tm_13, lm_13, ym_13, gm_13, htm_13, hlm_13, hym_13, hgm_13, hT⟩ : ∃ (z1 z2 : Nat → Nat) (z3 : Nat → Nat → Int32) (z4 : Nat → Nat → Option Nat), z1 = nwt tm_9 r_11 6 ∧ z2 = upn lm_9 r_11 n_12 ∧ z3 = nwy ym_9 r_11 fn_12 ∧ z4 = gm_9 ∧ tw (dC, dI) a k z1 z2 z3 z4 H := ⟨_, _, _, _, rfl, rfl, rfl, rfl, hT⟩
      have hKM : kpM τ y g ym_13 gm_13 := by rw [hym_13, hgm_13]; exact hKM.nwa hMo h0n_12
      have hMo : mono τ tm_13 s.heap.size := by rw [htm_13]; exact hMo.nw h0n_12 (by rw [hAe]; exact hFc _ hfrn_12)
      have hI : IC a u tm_13 lm_13 ym_13 gm_13 := by rw [htm_13, hlm_13, hym_13, hgm_13]; exact hI.nwa h0n_12
      have hlnr_11 : lm_13 r_11 ≤ 60 := by rw [hlm_13, upn_i]; exact hlen_12
      have : (ym_13 (a 16) 1).toInt = (ym_9 (a 16) 1).toInt := by rw [hym_13, nwy_o (kd_ne (fx_16 hX) h0n_12 (by decide))]
      have : (ym_13 (a 16) 3).toInt = (ym_9 (a 16) 3).toInt := by rw [hym_13, nwy_o (kd_ne (fx_16 hX) h0n_12 (by decide))]
      have hX := hI.1
      have hF : ∀ q, tm_13 q ≠ 0 → A q := fun q h => by rw [← hAe]; exact hMo.2 q h
      have hk_14 : tm_13 q_8 = 7 := by rw [htm_13, nwt_o (kd_ne hk_10 h0n_12 (by decide))]; exact hk_10
      have hk_15 : tm_13 r_11 = 6 := by rw [htm_13]; exact nwt_i
      have hFc := tw_free hF hS hA
      refine va_callv (va_runI (As := [.int p0, .int p1, .ref r_11]) (rest := [.ref q_8, .int (y_3 (a 2) 1), .ref (a 13)]) ⟨hx, hb, hml, hown, hts⟩ (c_Rule_init l dC dI ad av H.size a k tm_13 lm_13 ym_13 gm_13 u q_8 p0 p1 r_11 hI hk_15 hk_14) (cwI 3 hts (gi_0  (fun _ hh => (List.mem_cons_of_mem _ (List.mem_append_right _ (List.mem_append_right _ (List.mem_append_right _ (List.mem_append_right _ (List.mem_append_right _ (List.mem_append_right _ (List.mem_append_left _ hh))))))))) gd_c_Rule_init) rfl rfl rfl (hts (.initialized RX9) (List.mem_cons_of_mem _ (List.mem_append_left _ (List.mem_of_getElem? (i := 12) rfl)))) (hts (.methodLink RX10 59 yX9_init) (List.mem_cons_of_mem _ (List.mem_append_left _ (List.mem_of_getElem? (i := 17) rfl)))) (hts (.instanceMethod yX9_init) (List.mem_cons_of_mem _ (List.mem_append_left _ (List.mem_of_getElem? (i := 16) rfl)))) rfl (by decide +kernel) ⟨Nat.le_of_ble_eq_true rfl, Nat.le_of_ble_eq_true rfl⟩) ⟨pw_blind, pw_use hT hK hFc hS hM⟩ rfl rfl hl.1 rfl (lv_room (Nat.le_of_ble_eq_true rfl)) dX10_tell_52 ⟨Nat.le_of_ble_eq_true rfl, Nat.le_of_ble_eq_true rfl⟩) hS (fun q _ h => hFc q h) hFc (fun u0 t H locs ht hvm hw hB hz1 hk1 hS => ?_)
      refine W.widen (k := 2) (n := 63) (Nat.le_of_ble_eq_true rfl) (Nat.le_of_ble_eq_true rfl) ?_
      clear hvm hz1 hk1
      obtain ⟨y_17, hgy_17, hT⟩ := hB
      rw [ht] at hT
      have hKM := (hKM.ag hMo hgy_17 (by decide)).upg (i := 2) (x := some r_11) hMo hk_14 (by decide)
      have hI := (hI.ag hgy_17 (by decide)).upR (i := 2) (x := some r_11) hk_14
      have hT := hT.rek (t := 5) hk_14 (by decide) (fun _ _ _ => rfl)
      have hI := hI.rekR hk_14 upg_i hk_15 hlnr_11
      have hMo := hMo.rek (t := 5) hk_14 (by decide) (by decide)
      obtain ⟨tm_18, htm_18, hT⟩ : ∃ z : Nat → Nat, z = nwt tm_13 q_8 5 ∧ tw (dC, dI) a k z lm_13 y_17 (upg gm_13 q_8 2 (some r_11)) H := ⟨_, rfl, hT⟩
      obtain ⟨gm_18, hgm_18, hT⟩ : ∃ z : Nat → Nat → Option Nat, z = upg gm_13 q_8 2 (some r_11) ∧ tw (dC, dI) a k tm_18 lm_13 y_17 z H := ⟨_, rfl, hT⟩
      rw [← hgm_18] at hKM
      rw [← htm_18, ← hgm_18] at hI
      rw [← htm_18] at hMo
      have hX := hI.1
      have hF : ∀ q, tm_18 q ≠ 0 → A q := fun q h => by rw [← hAe]; exact hMo.2 q h
      have hk_19 : tm_18 q_8 = 5 := by rw [htm_18]; exact nwt_i
      have hbd_20 : 0 ≤ u 4 ∧ u 4 < 20 := by omega
      refine tw_aast (r := (RX9, TX9, 3)) hx hb hK hT hF hS 6 (fx_13 hX) (by decide) (fun _ => cl_e23) rfl hk_19 (by decide) cl_e5 rfl (z_in hc_7 hbd_20.1 hbd_20.2) dX10_tell_55 (fun H locs hT hS => ?_)
      obtain ⟨g_21, hg_21, hT⟩ : ∃ z : Nat → Nat → Option Nat, z = upg gm_18 (a 13) (y_3 (a 2) 1).toNatClampNeg (some q_8) ∧ tw (dC, dI) a k tm_18 lm_13 y_17 z H := ⟨_, rfl, hT⟩
      have hKM : kpM τ y g y_17 g_21 := by rw [hg_21]; exact hKM.upg hMo (fx_13 hX) (by decide)
      have hI : IC a u tm_18 lm_13 y_17 g_21 := by rw [hg_21]; exact hI.put13 hk_19
      have hent_22 : g_21 (a 13) (y_3 (a 2) 1).toNatClampNeg = some q_8 := by rw [hg_21]; exact upg_i
      refine lv_aload_n hx hb dX10_tell_56 rfl (lv_at hl 2 rfl) ?_
      refine lv_dup hx hb dX10_tell_57 rfl ?_
      refine tw_get (D := (dC, dI)) (v := .int (y_17 (a 2) 1)) (C := RX10) (T := TX10) (N := 6) hx hb hts (fun _ hh => (List.mem_cons_of_mem _ (List.mem_append_right _ (List.mem_append_left _ hh)))) hown hK hT (fx_2 hX) (by decide) cl_e12 rfl 1 (by decide) (hts (.fieldLink RX10 17 "TypingPool$Rules" "count" "I") (List.mem_cons_of_mem _ (List.mem_append_left _ (List.mem_of_getElem? (i := 8) rfl)))) (fun _ h9 => h9) rfl dX10_tell_58 ?_
      have hc_23 := ic_4 hI
      refine lv_iconst (v := 1) hx hb dX10_tell_61 (by decide) ?_
      refine lv_iadd hx hb dX10_tell_62 ?_
      refine lv_topi (fun x_24 ex_24 => ?_)
      have hx_24 := z_add ex_24 hc_23 (zk (x := 1) 1 rfl) (by omega) (by omega)
      refine tw_put (D := (dC, dI)) (x := x_24) (ty := .int) (C := RX10) (T := TX10) (N := 6) hx hb hts (fun _ hh => (List.mem_cons_of_mem _ (List.mem_append_right _ (List.mem_append_left _ hh)))) tyX10 tyX10_ok nmX10 hown hK hT hF hS (fx_2 hX) (by decide) cl_e12 rfl 1 (by decide) (hts (.fieldLink RX10 17 "TypingPool$Rules" "count" "I") (List.mem_cons_of_mem _ (List.mem_append_left _ (List.mem_of_getElem? (i := 8) rfl)))) (fun _ h9 => h9) rfl (tyX10_ok 1 (by decide)) rfl rfl (Nat.le_of_ble_eq_true rfl) rfl dX10_tell_63 (fun H locs hT hS => ?_)
      obtain ⟨y_25, hy_25, hT⟩ : ∃ z : Nat → Nat → Int32, z = up2 y_17 (a 2) 1 x_24 ∧ tw (dC, dI) a k tm_18 lm_13 z g_21 H := ⟨_, rfl, hT⟩
      have hKM : kpM τ y g y_25 g_21 := by rw [hy_25]; exact hKM.up hMo (fx_2 hX) (by decide)
      have : (y_25 (a 16) 1).toInt = (y_17 (a 16) 1).toInt := by rw [hy_25, up2_o (kd_ne (fx_16 hX) (fx_2 hX) (by decide))]
      have : (y_25 (a 16) 3).toInt = (y_17 (a 16) 3).toInt := by rw [hy_25, up2_o (kd_ne (fx_16 hX) (fx_2 hX) (by decide))]
      have hp_26 : x_24.toInt = x_24.toInt := rfl
      have hI := hI.cnt4 (by rw [hp_26]; first | done | omega) (by omega) (by rw [← z_nat hc_7]; exact hent_22) hk_19
      rw [← hy_25] at hI
      refine lv_iload hx hb dX10_tell_66 (lv_at hl 0 rfl) ?_
      exact W.iret (v := y_3 (a 2) 1) hx hb hr (fun t ht hW9 => ⟨⟨y_3 (a 2) 1, y_3 (a 2) 1, rfl, rfl, ⟨(upc u 4 (u 4 + 1)), (by intro i hi; simp only [List.mem_cons, List.not_mem_nil, or_false, not_or] at hi; unfold upc; repeat rw [if_neg (by omega)]), ⟨tm_18, lm_13, y_25, g_21, hMo, hKM, hI, tw_at ht hT⟩⟩⟩, hS.F ht⟩) hS.2.2 dX10_tell_68
    · have nc_6 := z_ne rfl (zk (x := (-1)) (-1) rfl) c_6
      refine lv_iconst (v := (-1)) hx hb dX10_tell_22 (by decide) ?_
      refine lv_iload hx hb dX10_tell_23 (lv_at hl 0 rfl) ?_
      refine lv_isub hx hb dX10_tell_25 ?_
      refine lv_topi (fun x_27 ex_27 => ?_)
      refine W.widen (k := 2) (n := 63) (Nat.le_of_ble_eq_true rfl) (Nat.le_of_ble_eq_true rfl) ?_
      exact W.iret (v := x_27) hx hb hr (fun t ht hW9 => ⟨⟨x_27, x_27, rfl, rfl, ⟨u, fun _ _ => rfl, ⟨τ, ln, y_3, g, hMo, hKM, hI, tw_at ht hT⟩⟩⟩, hS.F ht⟩) hS.2.2 dX10_tell_26
  · subst hre
    rw [ht] at hT
    have hFc := tw_free hF hS hA
    refine va_calli (va_runV (As := [.ref (a 7), .int p2, .ref (ad 5)]) (rest := []) ⟨hx, hb, hml, hown, hts⟩ (c_rread l dC dI ad av H.size a k τ ln y g u p2 5 hI (by decide) (by omega) (by omega)) (cwV 3 hts (gi_4 (List.mem_cons_of_mem _ (List.mem_append_left _ (List.mem_of_getElem? (i := 4) rfl))) (List.mem_cons_of_mem _ (List.mem_append_left _ (List.mem_of_getElem? (i := 5) rfl))) (List.mem_cons_of_mem _ (List.mem_append_left _ (List.mem_of_getElem? (i := 6) rfl))) (List.mem_cons_of_mem _ (List.mem_append_left _ (List.mem_of_getElem? (i := 7) rfl))) (fun _ hh => (List.mem_cons_of_mem _ (List.mem_append_right _ (List.mem_append_right _ (List.mem_append_right _ (List.mem_append_left _ hh)))))) gd_c_rread) rfl rfl rfl (by decide +kernel) ⟨Nat.le_of_ble_eq_true rfl, Nat.le_of_ble_eq_true rfl⟩) ⟨pw_blind, tw_recv hK hT (fx_16 hX) (by decide) cl_e26 rfl, pw_use hT hK hFc hS hM⟩ rfl rfl hl.1 rfl (lv_room (Nat.le_of_ble_eq_true rfl)) dX10_tell_11 ⟨Nat.le_of_ble_eq_true rfl, Nat.le_of_ble_eq_true rfl⟩) hS (fun q _ h => hFc q h) hFc (fun r0 r_28 t H locs ht hvm hw hB hz1 hk1 hS => ?_)
    refine W.widen (k := 0) (n := 0) (Nat.le_of_ble_eq_true rfl) (Nat.le_of_ble_eq_true rfl) ?_
    clear hvm hz1 hk1
    subst hw
    obtain ⟨y_29, hgy_29, hf_30, hf_31, hT⟩ := hB
    rw [ht] at hT
    have hKM := hKM.ag hMo hgy_29 (by decide)
    have hI := hI.ag hgy_29 (by decide)
    refine lv_istore (lv' := [(5, .int r_28), (0, .ref (a 2)), (1, .int p0), (2, .int p1), (3, .ref (a 7)), (4, .int p2)]) hx hb dX10_tell_14 hl (by decide) rfl (fun ls hl => ?_)
    refine lv_iload hx hb dX10_tell_16 (lv_at hl 0 rfl) ?_
    refine lv_iconst (v := (-1)) hx hb dX10_tell_18 (by decide) ?_
    refine lv_icmp_eq (tgt := 27) hx hb dX10_tell_19 (by decide) (fun c_32 => ?_) (fun c_32 => ?_)
    · have nc_32 := z_eq rfl (zk (x := (-1)) (-1) rfl) c_32
      refine lv_aload_n hx hb dX10_tell_27 rfl (lv_at hl 1 rfl) ?_
      refine tw_get (D := (dC, dI)) (v := .int (y_29 (a 2) 1)) (C := RX10) (T := TX10) (N := 6) hx hb hts (fun _ hh => (List.mem_cons_of_mem _ (List.mem_append_right _ (List.mem_append_left _ hh)))) hown hK hT (fx_2 hX) (by decide) cl_e12 rfl 1 (by decide) (hts (.fieldLink RX10 17 "TypingPool$Rules" "count" "I") (List.mem_cons_of_mem _ (List.mem_append_left _ (List.mem_of_getElem? (i := 8) rfl)))) (fun _ h9 => h9) rfl dX10_tell_28 ?_
      have hc_33 := ic_4 hI
      refine lv_istore (lv' := [(6, .int (y_29 (a 2) 1)), (5, .int r_28), (0, .ref (a 2)), (1, .int p0), (2, .int p1), (3, .ref (a 7)), (4, .int p2)]) hx hb dX10_tell_31 hl (by decide) rfl (fun ls hl => ?_)
      refine lv_aload_n hx hb dX10_tell_33 rfl (lv_at hl 2 rfl) ?_
      refine tw_get (D := (dC, dI)) (v := .ref (a 13)) (C := RX10) (T := TX10) (N := 6) hx hb hts (fun _ hh => (List.mem_cons_of_mem _ (List.mem_append_right _ (List.mem_append_left _ hh)))) hown hK hT (fx_2 hX) (by decide) cl_e12 rfl 0 (by decide) (hts (.fieldLink RX10 11 "TypingPool$Rules" "told" "[LTypingPool$Rule;") (List.mem_cons_of_mem _ (List.mem_append_left _ (List.mem_of_getElem? (i := 9) rfl)))) (fun _ h9 => h9) rfl dX10_tell_34 ?_
      refine lv_iload hx hb dX10_tell_37 (lv_at hl 0 rfl) ?_
      refine tw_new (ci := 9) (fs := [.int 0, .int 0, .null]) (C := RX9) (T := TX9) (N := 3) hx hb hts (fun _ hh => (List.mem_cons_of_mem _ (List.mem_append_right _ (List.mem_append_right _ (List.mem_append_right _ (List.mem_append_right _ (List.mem_append_left _ hh))))))) tyX9 tyX9_ok hown (hts (.classLink RX10 9 RX9) (List.mem_cons_of_mem _ (List.mem_append_left _ (List.mem_of_getElem? (i := 10) rfl)))) (hts (.instantiable RX9 3) (List.mem_cons_of_mem _ (List.mem_append_left _ (List.mem_of_getElem? (i := 11) rfl)))) (hts (.initialized RX9) (List.mem_cons_of_mem _ (List.mem_append_left _ (List.mem_of_getElem? (i := 12) rfl)))) hK hT hF hS hA 7 rfl (fun j hj => by rcases (show j = 0 ∨ j = 1 ∨ j = 2 by omega) with rfl | rfl | rfl <;> rfl) (fun _ => cl_e7) (Nat.le_of_ble_eq_true rfl) (Nat.le_of_ble_eq_true rfl) dX10_tell_39 (fun q_34 H hq0 hAq hT hS => ?_)
      refine W.widen (k := 1) (n := 3) (Nat.le_of_ble_eq_true rfl) (Nat.le_of_ble_eq_true rfl) ?_
      obtain ⟨tm_35, lm_35, ym_35, gm_35, htm_35, hlm_35, hym_35, hgm_35, hT⟩ : ∃ (z1 z2 : Nat → Nat) (z3 : Nat → Nat → Int32) (z4 : Nat → Nat → Option Nat), z1 = nwt τ q_34 7 ∧ z2 = ln ∧ z3 = nwy y_29 q_34 (fun _ => 0) ∧ z4 = nwg g q_34 ∧ tw (dC, dI) a k z1 z2 z3 z4 H := ⟨_, _, _, _, rfl, rfl, rfl, rfl, hT⟩
      have hKM : kpM τ y g ym_35 gm_35 := by rw [hym_35, hgm_35]; exact hKM.nw hMo hq0
      have hMo : mono τ tm_35 s.heap.size := by rw [htm_35]; exact hMo.nw hq0 (by rw [hAe]; exact hAq)
      have hI : IC a u tm_35 lm_35 ym_35 gm_35 := by rw [htm_35, hlm_35, hym_35, hgm_35]; exact hI.nw hq0 (Or.inl rfl) (by decide)
      have : (ym_35 (a 16) 1).toInt = (y_29 (a 16) 1).toInt := by rw [hym_35, nwy_o (kd_ne (fx_16 hX) hq0 (by decide))]
      have : (ym_35 (a 16) 3).toInt = (y_29 (a 16) 3).toInt := by rw [hym_35, nwy_o (kd_ne (fx_16 hX) hq0 (by decide))]
      have hX := hI.1
      have hF : ∀ q, tm_35 q ≠ 0 → A q := fun q h => by rw [← hAe]; exact hMo.2 q h
      have hk_36 : tm_35 q_34 = 7 := by rw [htm_35]; exact nwt_i
      refine lv_dup hx hb dX10_tell_42 rfl ?_
      refine lv_iload_n hx hb dX10_tell_43 rfl (lv_at hl 3 rfl) ?_
      refine lv_iload_n hx hb dX10_tell_44 rfl (lv_at hl 4 rfl) ?_
      refine lv_aload_n hx hb dX10_tell_45 rfl (lv_at hl 2 rfl) ?_
      refine tw_get (D := (dC, dI)) (v := .ref (a 16)) (C := RX10) (T := TX10) (N := 6) hx hb hts (fun _ hh => (List.mem_cons_of_mem _ (List.mem_append_right _ (List.mem_append_left _ hh)))) hown hK hT (fx_2 hX) (by decide) cl_e12 rfl 4 (by decide) (hts (.fieldLink RX10 31 "TypingPool$Rules" "reader" "LTypingPool$Reader;") (List.mem_cons_of_mem _ (List.mem_append_left _ (List.mem_of_getElem? (i := 0) rfl)))) (fun _ h9 => h9) rfl dX10_tell_46 ?_
      have hFc := tw_free hF hS hA
      refine va_callr (va_runV (As := []) (rest := [.int p1, .int p0, .ref q_34, .ref q_34, .int (y_29 (a 2) 1), .ref (a 13)]) ⟨hx, hb, hml, hown, hts⟩ (c_codeRead l dC dI ad av H.size a k tm_35 lm_35 ym_35 gm_35 u  hI (by omega)) (cwV 0 hts (gi_4 (List.mem_cons_of_mem _ (List.mem_append_left _ (List.mem_of_getElem? (i := 13) rfl))) (List.mem_cons_of_mem _ (List.mem_append_left _ (List.mem_of_getElem? (i := 14) rfl))) (List.mem_cons_of_mem _ (List.mem_append_left _ (List.mem_of_getElem? (i := 15) rfl))) (List.mem_cons_of_mem _ (List.mem_append_left _ (List.mem_of_getElem? (i := 7) rfl))) (fun _ hh => (List.mem_cons_of_mem _ (List.mem_append_right _ (List.mem_append_right _ (List.mem_append_right _ (List.mem_append_right _ (List.mem_append_right _ (List.mem_append_left _ hh)))))))) gd_c_codeRead) rfl rfl rfl (by decide +kernel) ⟨Nat.le_of_ble_eq_true rfl, Nat.le_of_ble_eq_true rfl⟩) ⟨pw_blind, tw_recv hK hT (fx_16 hX) (by decide) cl_e26 rfl, pw_use hT hK hFc hS hM⟩ rfl rfl hl.1 rfl (lv_room (Nat.le_of_ble_eq_true rfl)) dX10_tell_49 ⟨Nat.le_of_ble_eq_true rfl, Nat.le_of_ble_eq_true rfl⟩) hS (fun q _ h => hFc q h) hFc (fun u0 r_37 t H locs ht hvm hw hB hz1 hk1 hS => ?_)
      refine W.widen (k := 2) (n := 63) (Nat.le_of_ble_eq_true rfl) (Nat.le_of_ble_eq_true rfl) ?_
      clear hvm hz1 hk1
      obtain ⟨n_38, fn_38, h0n_38, hfrn_38, hlen_38, hT⟩ := hB
      rw [ht] at hT
      obtain ⟨tm_39, lm_39, ym_39, gm_39, htm_39, hlm_39, hym_39, hgm_39, hT⟩ : ∃ (z1 z2 : Nat → Nat) (z3 : Nat → Nat → Int32) (z4 : Nat → Nat → Option Nat), z1 = nwt tm_35 r_37 6 ∧ z2 = upn lm_35 r_37 n_38 ∧ z3 = nwy ym_35 r_37 fn_38 ∧ z4 = gm_35 ∧ tw (dC, dI) a k z1 z2 z3 z4 H := ⟨_, _, _, _, rfl, rfl, rfl, rfl, hT⟩
      have hKM : kpM τ y g ym_39 gm_39 := by rw [hym_39, hgm_39]; exact hKM.nwa hMo h0n_38
      have hMo : mono τ tm_39 s.heap.size := by rw [htm_39]; exact hMo.nw h0n_38 (by rw [hAe]; exact hFc _ hfrn_38)
      have hI : IC a u tm_39 lm_39 ym_39 gm_39 := by rw [htm_39, hlm_39, hym_39, hgm_39]; exact hI.nwa h0n_38
      have hlnr_37 : lm_39 r_37 ≤ 60 := by rw [hlm_39, upn_i]; exact hlen_38
      have : (ym_39 (a 16) 1).toInt = (ym_35 (a 16) 1).toInt := by rw [hym_39, nwy_o (kd_ne (fx_16 hX) h0n_38 (by decide))]
      have : (ym_39 (a 16) 3).toInt = (ym_35 (a 16) 3).toInt := by rw [hym_39, nwy_o (kd_ne (fx_16 hX) h0n_38 (by decide))]
      have hX := hI.1
      have hF : ∀ q, tm_39 q ≠ 0 → A q := fun q h => by rw [← hAe]; exact hMo.2 q h
      have hk_40 : tm_39 q_34 = 7 := by rw [htm_39, nwt_o (kd_ne hk_36 h0n_38 (by decide))]; exact hk_36
      have hk_41 : tm_39 r_37 = 6 := by rw [htm_39]; exact nwt_i
      have hFc := tw_free hF hS hA
      refine va_callv (va_runI (As := [.int p0, .int p1, .ref r_37]) (rest := [.ref q_34, .int (y_29 (a 2) 1), .ref (a 13)]) ⟨hx, hb, hml, hown, hts⟩ (c_Rule_init l dC dI ad av H.size a k tm_39 lm_39 ym_39 gm_39 u q_34 p0 p1 r_37 hI hk_41 hk_40) (cwI 3 hts (gi_0  (fun _ hh => (List.mem_cons_of_mem _ (List.mem_append_right _ (List.mem_append_right _ (List.mem_append_right _ (List.mem_append_right _ (List.mem_append_right _ (List.mem_append_right _ (List.mem_append_left _ hh))))))))) gd_c_Rule_init) rfl rfl rfl (hts (.initialized RX9) (List.mem_cons_of_mem _ (List.mem_append_left _ (List.mem_of_getElem? (i := 12) rfl)))) (hts (.methodLink RX10 59 yX9_init) (List.mem_cons_of_mem _ (List.mem_append_left _ (List.mem_of_getElem? (i := 17) rfl)))) (hts (.instanceMethod yX9_init) (List.mem_cons_of_mem _ (List.mem_append_left _ (List.mem_of_getElem? (i := 16) rfl)))) rfl (by decide +kernel) ⟨Nat.le_of_ble_eq_true rfl, Nat.le_of_ble_eq_true rfl⟩) ⟨pw_blind, pw_use hT hK hFc hS hM⟩ rfl rfl hl.1 rfl (lv_room (Nat.le_of_ble_eq_true rfl)) dX10_tell_52 ⟨Nat.le_of_ble_eq_true rfl, Nat.le_of_ble_eq_true rfl⟩) hS (fun q _ h => hFc q h) hFc (fun u0 t H locs ht hvm hw hB hz1 hk1 hS => ?_)
      refine W.widen (k := 2) (n := 63) (Nat.le_of_ble_eq_true rfl) (Nat.le_of_ble_eq_true rfl) ?_
      clear hvm hz1 hk1
      obtain ⟨y_43, hgy_43, hT⟩ := hB
      rw [ht] at hT
      have hKM := (hKM.ag hMo hgy_43 (by decide)).upg (i := 2) (x := some r_37) hMo hk_40 (by decide)
      have hI := (hI.ag hgy_43 (by decide)).upR (i := 2) (x := some r_37) hk_40
      have hT := hT.rek (t := 5) hk_40 (by decide) (fun _ _ _ => rfl)
      have hI := hI.rekR hk_40 upg_i hk_41 hlnr_37
      have hMo := hMo.rek (t := 5) hk_40 (by decide) (by decide)
      obtain ⟨tm_44, htm_44, hT⟩ : ∃ z : Nat → Nat, z = nwt tm_39 q_34 5 ∧ tw (dC, dI) a k z lm_39 y_43 (upg gm_39 q_34 2 (some r_37)) H := ⟨_, rfl, hT⟩
      obtain ⟨gm_44, hgm_44, hT⟩ : ∃ z : Nat → Nat → Option Nat, z = upg gm_39 q_34 2 (some r_37) ∧ tw (dC, dI) a k tm_44 lm_39 y_43 z H := ⟨_, rfl, hT⟩
      rw [← hgm_44] at hKM
      rw [← htm_44, ← hgm_44] at hI
      rw [← htm_44] at hMo
      have hX := hI.1
      have hF : ∀ q, tm_44 q ≠ 0 → A q := fun q h => by rw [← hAe]; exact hMo.2 q h
      have hk_45 : tm_44 q_34 = 5 := by rw [htm_44]; exact nwt_i
      have hbd_46 : 0 ≤ u 4 ∧ u 4 < 20 := by omega
      refine tw_aast (r := (RX9, TX9, 3)) hx hb hK hT hF hS 6 (fx_13 hX) (by decide) (fun _ => cl_e23) rfl hk_45 (by decide) cl_e5 rfl (z_in hc_33 hbd_46.1 hbd_46.2) dX10_tell_55 (fun H locs hT hS => ?_)
      obtain ⟨g_47, hg_47, hT⟩ : ∃ z : Nat → Nat → Option Nat, z = upg gm_44 (a 13) (y_29 (a 2) 1).toNatClampNeg (some q_34) ∧ tw (dC, dI) a k tm_44 lm_39 y_43 z H := ⟨_, rfl, hT⟩
      have hKM : kpM τ y g y_43 g_47 := by rw [hg_47]; exact hKM.upg hMo (fx_13 hX) (by decide)
      have hI : IC a u tm_44 lm_39 y_43 g_47 := by rw [hg_47]; exact hI.put13 hk_45
      have hent_48 : g_47 (a 13) (y_29 (a 2) 1).toNatClampNeg = some q_34 := by rw [hg_47]; exact upg_i
      refine lv_aload_n hx hb dX10_tell_56 rfl (lv_at hl 2 rfl) ?_
      refine lv_dup hx hb dX10_tell_57 rfl ?_
      refine tw_get (D := (dC, dI)) (v := .int (y_43 (a 2) 1)) (C := RX10) (T := TX10) (N := 6) hx hb hts (fun _ hh => (List.mem_cons_of_mem _ (List.mem_append_right _ (List.mem_append_left _ hh)))) hown hK hT (fx_2 hX) (by decide) cl_e12 rfl 1 (by decide) (hts (.fieldLink RX10 17 "TypingPool$Rules" "count" "I") (List.mem_cons_of_mem _ (List.mem_append_left _ (List.mem_of_getElem? (i := 8) rfl)))) (fun _ h9 => h9) rfl dX10_tell_58 ?_
      have hc_49 := ic_4 hI
      refine lv_iconst (v := 1) hx hb dX10_tell_61 (by decide) ?_
      refine lv_iadd hx hb dX10_tell_62 ?_
      refine lv_topi (fun x_50 ex_50 => ?_)
      have hx_50 := z_add ex_50 hc_49 (zk (x := 1) 1 rfl) (by omega) (by omega)
      refine tw_put (D := (dC, dI)) (x := x_50) (ty := .int) (C := RX10) (T := TX10) (N := 6) hx hb hts (fun _ hh => (List.mem_cons_of_mem _ (List.mem_append_right _ (List.mem_append_left _ hh)))) tyX10 tyX10_ok nmX10 hown hK hT hF hS (fx_2 hX) (by decide) cl_e12 rfl 1 (by decide) (hts (.fieldLink RX10 17 "TypingPool$Rules" "count" "I") (List.mem_cons_of_mem _ (List.mem_append_left _ (List.mem_of_getElem? (i := 8) rfl)))) (fun _ h9 => h9) rfl (tyX10_ok 1 (by decide)) rfl rfl (Nat.le_of_ble_eq_true rfl) rfl dX10_tell_63 (fun H locs hT hS => ?_)
      obtain ⟨y_51, hy_51, hT⟩ : ∃ z : Nat → Nat → Int32, z = up2 y_43 (a 2) 1 x_50 ∧ tw (dC, dI) a k tm_44 lm_39 z g_47 H := ⟨_, rfl, hT⟩
      have hKM : kpM τ y g y_51 g_47 := by rw [hy_51]; exact hKM.up hMo (fx_2 hX) (by decide)
      have : (y_51 (a 16) 1).toInt = (y_43 (a 16) 1).toInt := by rw [hy_51, up2_o (kd_ne (fx_16 hX) (fx_2 hX) (by decide))]
      have : (y_51 (a 16) 3).toInt = (y_43 (a 16) 3).toInt := by rw [hy_51, up2_o (kd_ne (fx_16 hX) (fx_2 hX) (by decide))]
      have hp_52 : x_50.toInt = x_50.toInt := rfl
      have hI := hI.cnt4 (by rw [hp_52]; first | done | omega) (by omega) (by rw [← z_nat hc_33]; exact hent_48) hk_45
      rw [← hy_51] at hI
      refine lv_iload hx hb dX10_tell_66 (lv_at hl 0 rfl) ?_
      exact W.iret (v := y_29 (a 2) 1) hx hb hr (fun t ht hW9 => ⟨⟨y_29 (a 2) 1, y_29 (a 2) 1, rfl, rfl, ⟨(upc u 4 (u 4 + 1)), (by intro i hi; simp only [List.mem_cons, List.not_mem_nil, or_false, not_or] at hi; unfold upc; repeat rw [if_neg (by omega)]), ⟨tm_44, lm_39, y_51, g_47, hMo, hKM, hI, tw_at ht hT⟩⟩⟩, hS.F ht⟩) hS.2.2 dX10_tell_68
    · have nc_32 := z_ne rfl (zk (x := (-1)) (-1) rfl) c_32
      refine lv_iconst (v := (-1)) hx hb dX10_tell_22 (by decide) ?_
      refine lv_iload hx hb dX10_tell_23 (lv_at hl 0 rfl) ?_
      refine lv_isub hx hb dX10_tell_25 ?_
      refine lv_topi (fun x_53 ex_53 => ?_)
      refine W.widen (k := 2) (n := 63) (Nat.le_of_ble_eq_true rfl) (Nat.le_of_ble_eq_true rfl) ?_
      exact W.iret (v := x_53) hx hb hr (fun t ht hW9 => ⟨⟨x_53, x_53, rfl, rfl, ⟨u, fun _ _ => rfl, ⟨τ, ln, y_29, g, hMo, hKM, hI, tw_at ht hT⟩⟩⟩, hS.F ht⟩) hS.2.2 dX10_tell_26
  · subst hre
    rw [ht] at hT
    have hFc := tw_free hF hS hA
    refine va_calli (va_runV (As := [.ref (a 7), .int p2, .ref (ad 6)]) (rest := []) ⟨hx, hb, hml, hown, hts⟩ (c_rread l dC dI ad av H.size a k τ ln y g u p2 6 hI (by decide) (by omega) (by omega)) (cwV 3 hts (gi_4 (List.mem_cons_of_mem _ (List.mem_append_left _ (List.mem_of_getElem? (i := 4) rfl))) (List.mem_cons_of_mem _ (List.mem_append_left _ (List.mem_of_getElem? (i := 5) rfl))) (List.mem_cons_of_mem _ (List.mem_append_left _ (List.mem_of_getElem? (i := 6) rfl))) (List.mem_cons_of_mem _ (List.mem_append_left _ (List.mem_of_getElem? (i := 7) rfl))) (fun _ hh => (List.mem_cons_of_mem _ (List.mem_append_right _ (List.mem_append_right _ (List.mem_append_right _ (List.mem_append_left _ hh)))))) gd_c_rread) rfl rfl rfl (by decide +kernel) ⟨Nat.le_of_ble_eq_true rfl, Nat.le_of_ble_eq_true rfl⟩) ⟨pw_blind, tw_recv hK hT (fx_16 hX) (by decide) cl_e26 rfl, pw_use hT hK hFc hS hM⟩ rfl rfl hl.1 rfl (lv_room (Nat.le_of_ble_eq_true rfl)) dX10_tell_11 ⟨Nat.le_of_ble_eq_true rfl, Nat.le_of_ble_eq_true rfl⟩) hS (fun q _ h => hFc q h) hFc (fun r0 r_54 t H locs ht hvm hw hB hz1 hk1 hS => ?_)
    refine W.widen (k := 0) (n := 0) (Nat.le_of_ble_eq_true rfl) (Nat.le_of_ble_eq_true rfl) ?_
    clear hvm hz1 hk1
    subst hw
    obtain ⟨y_55, hgy_55, hf_56, hf_57, hT⟩ := hB
    rw [ht] at hT
    have hKM := hKM.ag hMo hgy_55 (by decide)
    have hI := hI.ag hgy_55 (by decide)
    refine lv_istore (lv' := [(5, .int r_54), (0, .ref (a 2)), (1, .int p0), (2, .int p1), (3, .ref (a 7)), (4, .int p2)]) hx hb dX10_tell_14 hl (by decide) rfl (fun ls hl => ?_)
    refine lv_iload hx hb dX10_tell_16 (lv_at hl 0 rfl) ?_
    refine lv_iconst (v := (-1)) hx hb dX10_tell_18 (by decide) ?_
    refine lv_icmp_eq (tgt := 27) hx hb dX10_tell_19 (by decide) (fun c_58 => ?_) (fun c_58 => ?_)
    · have nc_58 := z_eq rfl (zk (x := (-1)) (-1) rfl) c_58
      refine lv_aload_n hx hb dX10_tell_27 rfl (lv_at hl 1 rfl) ?_
      refine tw_get (D := (dC, dI)) (v := .int (y_55 (a 2) 1)) (C := RX10) (T := TX10) (N := 6) hx hb hts (fun _ hh => (List.mem_cons_of_mem _ (List.mem_append_right _ (List.mem_append_left _ hh)))) hown hK hT (fx_2 hX) (by decide) cl_e12 rfl 1 (by decide) (hts (.fieldLink RX10 17 "TypingPool$Rules" "count" "I") (List.mem_cons_of_mem _ (List.mem_append_left _ (List.mem_of_getElem? (i := 8) rfl)))) (fun _ h9 => h9) rfl dX10_tell_28 ?_
      have hc_59 := ic_4 hI
      refine lv_istore (lv' := [(6, .int (y_55 (a 2) 1)), (5, .int r_54), (0, .ref (a 2)), (1, .int p0), (2, .int p1), (3, .ref (a 7)), (4, .int p2)]) hx hb dX10_tell_31 hl (by decide) rfl (fun ls hl => ?_)
      refine lv_aload_n hx hb dX10_tell_33 rfl (lv_at hl 2 rfl) ?_
      refine tw_get (D := (dC, dI)) (v := .ref (a 13)) (C := RX10) (T := TX10) (N := 6) hx hb hts (fun _ hh => (List.mem_cons_of_mem _ (List.mem_append_right _ (List.mem_append_left _ hh)))) hown hK hT (fx_2 hX) (by decide) cl_e12 rfl 0 (by decide) (hts (.fieldLink RX10 11 "TypingPool$Rules" "told" "[LTypingPool$Rule;") (List.mem_cons_of_mem _ (List.mem_append_left _ (List.mem_of_getElem? (i := 9) rfl)))) (fun _ h9 => h9) rfl dX10_tell_34 ?_
      refine lv_iload hx hb dX10_tell_37 (lv_at hl 0 rfl) ?_
      refine tw_new (ci := 9) (fs := [.int 0, .int 0, .null]) (C := RX9) (T := TX9) (N := 3) hx hb hts (fun _ hh => (List.mem_cons_of_mem _ (List.mem_append_right _ (List.mem_append_right _ (List.mem_append_right _ (List.mem_append_right _ (List.mem_append_left _ hh))))))) tyX9 tyX9_ok hown (hts (.classLink RX10 9 RX9) (List.mem_cons_of_mem _ (List.mem_append_left _ (List.mem_of_getElem? (i := 10) rfl)))) (hts (.instantiable RX9 3) (List.mem_cons_of_mem _ (List.mem_append_left _ (List.mem_of_getElem? (i := 11) rfl)))) (hts (.initialized RX9) (List.mem_cons_of_mem _ (List.mem_append_left _ (List.mem_of_getElem? (i := 12) rfl)))) hK hT hF hS hA 7 rfl (fun j hj => by rcases (show j = 0 ∨ j = 1 ∨ j = 2 by omega) with rfl | rfl | rfl <;> rfl) (fun _ => cl_e7) (Nat.le_of_ble_eq_true rfl) (Nat.le_of_ble_eq_true rfl) dX10_tell_39 (fun q_60 H hq0 hAq hT hS => ?_)
      refine W.widen (k := 1) (n := 3) (Nat.le_of_ble_eq_true rfl) (Nat.le_of_ble_eq_true rfl) ?_
      obtain ⟨tm_61, lm_61, ym_61, gm_61, htm_61, hlm_61, hym_61, hgm_61, hT⟩ : ∃ (z1 z2 : Nat → Nat) (z3 : Nat → Nat → Int32) (z4 : Nat → Nat → Option Nat), z1 = nwt τ q_60 7 ∧ z2 = ln ∧ z3 = nwy y_55 q_60 (fun _ => 0) ∧ z4 = nwg g q_60 ∧ tw (dC, dI) a k z1 z2 z3 z4 H := ⟨_, _, _, _, rfl, rfl, rfl, rfl, hT⟩
      have hKM : kpM τ y g ym_61 gm_61 := by rw [hym_61, hgm_61]; exact hKM.nw hMo hq0
      have hMo : mono τ tm_61 s.heap.size := by rw [htm_61]; exact hMo.nw hq0 (by rw [hAe]; exact hAq)
      have hI : IC a u tm_61 lm_61 ym_61 gm_61 := by rw [htm_61, hlm_61, hym_61, hgm_61]; exact hI.nw hq0 (Or.inl rfl) (by decide)
      have : (ym_61 (a 16) 1).toInt = (y_55 (a 16) 1).toInt := by rw [hym_61, nwy_o (kd_ne (fx_16 hX) hq0 (by decide))]
      have : (ym_61 (a 16) 3).toInt = (y_55 (a 16) 3).toInt := by rw [hym_61, nwy_o (kd_ne (fx_16 hX) hq0 (by decide))]
      have hX := hI.1
      have hF : ∀ q, tm_61 q ≠ 0 → A q := fun q h => by rw [← hAe]; exact hMo.2 q h
      have hk_62 : tm_61 q_60 = 7 := by rw [htm_61]; exact nwt_i
      refine lv_dup hx hb dX10_tell_42 rfl ?_
      refine lv_iload_n hx hb dX10_tell_43 rfl (lv_at hl 3 rfl) ?_
      refine lv_iload_n hx hb dX10_tell_44 rfl (lv_at hl 4 rfl) ?_
      refine lv_aload_n hx hb dX10_tell_45 rfl (lv_at hl 2 rfl) ?_
      refine tw_get (D := (dC, dI)) (v := .ref (a 16)) (C := RX10) (T := TX10) (N := 6) hx hb hts (fun _ hh => (List.mem_cons_of_mem _ (List.mem_append_right _ (List.mem_append_left _ hh)))) hown hK hT (fx_2 hX) (by decide) cl_e12 rfl 4 (by decide) (hts (.fieldLink RX10 31 "TypingPool$Rules" "reader" "LTypingPool$Reader;") (List.mem_cons_of_mem _ (List.mem_append_left _ (List.mem_of_getElem? (i := 0) rfl)))) (fun _ h9 => h9) rfl dX10_tell_46 ?_
      have hFc := tw_free hF hS hA
      refine va_callr (va_runV (As := []) (rest := [.int p1, .int p0, .ref q_60, .ref q_60, .int (y_55 (a 2) 1), .ref (a 13)]) ⟨hx, hb, hml, hown, hts⟩ (c_codeRead l dC dI ad av H.size a k tm_61 lm_61 ym_61 gm_61 u  hI (by omega)) (cwV 0 hts (gi_4 (List.mem_cons_of_mem _ (List.mem_append_left _ (List.mem_of_getElem? (i := 13) rfl))) (List.mem_cons_of_mem _ (List.mem_append_left _ (List.mem_of_getElem? (i := 14) rfl))) (List.mem_cons_of_mem _ (List.mem_append_left _ (List.mem_of_getElem? (i := 15) rfl))) (List.mem_cons_of_mem _ (List.mem_append_left _ (List.mem_of_getElem? (i := 7) rfl))) (fun _ hh => (List.mem_cons_of_mem _ (List.mem_append_right _ (List.mem_append_right _ (List.mem_append_right _ (List.mem_append_right _ (List.mem_append_right _ (List.mem_append_left _ hh)))))))) gd_c_codeRead) rfl rfl rfl (by decide +kernel) ⟨Nat.le_of_ble_eq_true rfl, Nat.le_of_ble_eq_true rfl⟩) ⟨pw_blind, tw_recv hK hT (fx_16 hX) (by decide) cl_e26 rfl, pw_use hT hK hFc hS hM⟩ rfl rfl hl.1 rfl (lv_room (Nat.le_of_ble_eq_true rfl)) dX10_tell_49 ⟨Nat.le_of_ble_eq_true rfl, Nat.le_of_ble_eq_true rfl⟩) hS (fun q _ h => hFc q h) hFc (fun u0 r_63 t H locs ht hvm hw hB hz1 hk1 hS => ?_)
      refine W.widen (k := 2) (n := 63) (Nat.le_of_ble_eq_true rfl) (Nat.le_of_ble_eq_true rfl) ?_
      clear hvm hz1 hk1
      obtain ⟨n_64, fn_64, h0n_64, hfrn_64, hlen_64, hT⟩ := hB
      rw [ht] at hT
      obtain ⟨tm_65, lm_65, ym_65, gm_65, htm_65, hlm_65, hym_65, hgm_65, hT⟩ : ∃ (z1 z2 : Nat → Nat) (z3 : Nat → Nat → Int32) (z4 : Nat → Nat → Option Nat), z1 = nwt tm_61 r_63 6 ∧ z2 = upn lm_61 r_63 n_64 ∧ z3 = nwy ym_61 r_63 fn_64 ∧ z4 = gm_61 ∧ tw (dC, dI) a k z1 z2 z3 z4 H := ⟨_, _, _, _, rfl, rfl, rfl, rfl, hT⟩
      have hKM : kpM τ y g ym_65 gm_65 := by rw [hym_65, hgm_65]; exact hKM.nwa hMo h0n_64
      have hMo : mono τ tm_65 s.heap.size := by rw [htm_65]; exact hMo.nw h0n_64 (by rw [hAe]; exact hFc _ hfrn_64)
      have hI : IC a u tm_65 lm_65 ym_65 gm_65 := by rw [htm_65, hlm_65, hym_65, hgm_65]; exact hI.nwa h0n_64
      have hlnr_63 : lm_65 r_63 ≤ 60 := by rw [hlm_65, upn_i]; exact hlen_64
      have : (ym_65 (a 16) 1).toInt = (ym_61 (a 16) 1).toInt := by rw [hym_65, nwy_o (kd_ne (fx_16 hX) h0n_64 (by decide))]
      have : (ym_65 (a 16) 3).toInt = (ym_61 (a 16) 3).toInt := by rw [hym_65, nwy_o (kd_ne (fx_16 hX) h0n_64 (by decide))]
      have hX := hI.1
      have hF : ∀ q, tm_65 q ≠ 0 → A q := fun q h => by rw [← hAe]; exact hMo.2 q h
      have hk_66 : tm_65 q_60 = 7 := by rw [htm_65, nwt_o (kd_ne hk_62 h0n_64 (by decide))]; exact hk_62
      have hk_67 : tm_65 r_63 = 6 := by rw [htm_65]; exact nwt_i
      have hFc := tw_free hF hS hA
      refine va_callv (va_runI (As := [.int p0, .int p1, .ref r_63]) (rest := [.ref q_60, .int (y_55 (a 2) 1), .ref (a 13)]) ⟨hx, hb, hml, hown, hts⟩ (c_Rule_init l dC dI ad av H.size a k tm_65 lm_65 ym_65 gm_65 u q_60 p0 p1 r_63 hI hk_67 hk_66) (cwI 3 hts (gi_0  (fun _ hh => (List.mem_cons_of_mem _ (List.mem_append_right _ (List.mem_append_right _ (List.mem_append_right _ (List.mem_append_right _ (List.mem_append_right _ (List.mem_append_right _ (List.mem_append_left _ hh))))))))) gd_c_Rule_init) rfl rfl rfl (hts (.initialized RX9) (List.mem_cons_of_mem _ (List.mem_append_left _ (List.mem_of_getElem? (i := 12) rfl)))) (hts (.methodLink RX10 59 yX9_init) (List.mem_cons_of_mem _ (List.mem_append_left _ (List.mem_of_getElem? (i := 17) rfl)))) (hts (.instanceMethod yX9_init) (List.mem_cons_of_mem _ (List.mem_append_left _ (List.mem_of_getElem? (i := 16) rfl)))) rfl (by decide +kernel) ⟨Nat.le_of_ble_eq_true rfl, Nat.le_of_ble_eq_true rfl⟩) ⟨pw_blind, pw_use hT hK hFc hS hM⟩ rfl rfl hl.1 rfl (lv_room (Nat.le_of_ble_eq_true rfl)) dX10_tell_52 ⟨Nat.le_of_ble_eq_true rfl, Nat.le_of_ble_eq_true rfl⟩) hS (fun q _ h => hFc q h) hFc (fun u0 t H locs ht hvm hw hB hz1 hk1 hS => ?_)
      refine W.widen (k := 2) (n := 63) (Nat.le_of_ble_eq_true rfl) (Nat.le_of_ble_eq_true rfl) ?_
      clear hvm hz1 hk1
      obtain ⟨y_69, hgy_69, hT⟩ := hB
      rw [ht] at hT
      have hKM := (hKM.ag hMo hgy_69 (by decide)).upg (i := 2) (x := some r_63) hMo hk_66 (by decide)
      have hI := (hI.ag hgy_69 (by decide)).upR (i := 2) (x := some r_63) hk_66
      have hT := hT.rek (t := 5) hk_66 (by decide) (fun _ _ _ => rfl)
      have hI := hI.rekR hk_66 upg_i hk_67 hlnr_63
      have hMo := hMo.rek (t := 5) hk_66 (by decide) (by decide)
      obtain ⟨tm_70, htm_70, hT⟩ : ∃ z : Nat → Nat, z = nwt tm_65 q_60 5 ∧ tw (dC, dI) a k z lm_65 y_69 (upg gm_65 q_60 2 (some r_63)) H := ⟨_, rfl, hT⟩
      obtain ⟨gm_70, hgm_70, hT⟩ : ∃ z : Nat → Nat → Option Nat, z = upg gm_65 q_60 2 (some r_63) ∧ tw (dC, dI) a k tm_70 lm_65 y_69 z H := ⟨_, rfl, hT⟩
      rw [← hgm_70] at hKM
      rw [← htm_70, ← hgm_70] at hI
      rw [← htm_70] at hMo
      have hX := hI.1
      have hF : ∀ q, tm_70 q ≠ 0 → A q := fun q h => by rw [← hAe]; exact hMo.2 q h
      have hk_71 : tm_70 q_60 = 5 := by rw [htm_70]; exact nwt_i
      have hbd_72 : 0 ≤ u 4 ∧ u 4 < 20 := by omega
      refine tw_aast (r := (RX9, TX9, 3)) hx hb hK hT hF hS 6 (fx_13 hX) (by decide) (fun _ => cl_e23) rfl hk_71 (by decide) cl_e5 rfl (z_in hc_59 hbd_72.1 hbd_72.2) dX10_tell_55 (fun H locs hT hS => ?_)
      obtain ⟨g_73, hg_73, hT⟩ : ∃ z : Nat → Nat → Option Nat, z = upg gm_70 (a 13) (y_55 (a 2) 1).toNatClampNeg (some q_60) ∧ tw (dC, dI) a k tm_70 lm_65 y_69 z H := ⟨_, rfl, hT⟩
      have hKM : kpM τ y g y_69 g_73 := by rw [hg_73]; exact hKM.upg hMo (fx_13 hX) (by decide)
      have hI : IC a u tm_70 lm_65 y_69 g_73 := by rw [hg_73]; exact hI.put13 hk_71
      have hent_74 : g_73 (a 13) (y_55 (a 2) 1).toNatClampNeg = some q_60 := by rw [hg_73]; exact upg_i
      refine lv_aload_n hx hb dX10_tell_56 rfl (lv_at hl 2 rfl) ?_
      refine lv_dup hx hb dX10_tell_57 rfl ?_
      refine tw_get (D := (dC, dI)) (v := .int (y_69 (a 2) 1)) (C := RX10) (T := TX10) (N := 6) hx hb hts (fun _ hh => (List.mem_cons_of_mem _ (List.mem_append_right _ (List.mem_append_left _ hh)))) hown hK hT (fx_2 hX) (by decide) cl_e12 rfl 1 (by decide) (hts (.fieldLink RX10 17 "TypingPool$Rules" "count" "I") (List.mem_cons_of_mem _ (List.mem_append_left _ (List.mem_of_getElem? (i := 8) rfl)))) (fun _ h9 => h9) rfl dX10_tell_58 ?_
      have hc_75 := ic_4 hI
      refine lv_iconst (v := 1) hx hb dX10_tell_61 (by decide) ?_
      refine lv_iadd hx hb dX10_tell_62 ?_
      refine lv_topi (fun x_76 ex_76 => ?_)
      have hx_76 := z_add ex_76 hc_75 (zk (x := 1) 1 rfl) (by omega) (by omega)
      refine tw_put (D := (dC, dI)) (x := x_76) (ty := .int) (C := RX10) (T := TX10) (N := 6) hx hb hts (fun _ hh => (List.mem_cons_of_mem _ (List.mem_append_right _ (List.mem_append_left _ hh)))) tyX10 tyX10_ok nmX10 hown hK hT hF hS (fx_2 hX) (by decide) cl_e12 rfl 1 (by decide) (hts (.fieldLink RX10 17 "TypingPool$Rules" "count" "I") (List.mem_cons_of_mem _ (List.mem_append_left _ (List.mem_of_getElem? (i := 8) rfl)))) (fun _ h9 => h9) rfl (tyX10_ok 1 (by decide)) rfl rfl (Nat.le_of_ble_eq_true rfl) rfl dX10_tell_63 (fun H locs hT hS => ?_)
      obtain ⟨y_77, hy_77, hT⟩ : ∃ z : Nat → Nat → Int32, z = up2 y_69 (a 2) 1 x_76 ∧ tw (dC, dI) a k tm_70 lm_65 z g_73 H := ⟨_, rfl, hT⟩
      have hKM : kpM τ y g y_77 g_73 := by rw [hy_77]; exact hKM.up hMo (fx_2 hX) (by decide)
      have : (y_77 (a 16) 1).toInt = (y_69 (a 16) 1).toInt := by rw [hy_77, up2_o (kd_ne (fx_16 hX) (fx_2 hX) (by decide))]
      have : (y_77 (a 16) 3).toInt = (y_69 (a 16) 3).toInt := by rw [hy_77, up2_o (kd_ne (fx_16 hX) (fx_2 hX) (by decide))]
      have hp_78 : x_76.toInt = x_76.toInt := rfl
      have hI := hI.cnt4 (by rw [hp_78]; first | done | omega) (by omega) (by rw [← z_nat hc_59]; exact hent_74) hk_71
      rw [← hy_77] at hI
      refine lv_iload hx hb dX10_tell_66 (lv_at hl 0 rfl) ?_
      exact W.iret (v := y_55 (a 2) 1) hx hb hr (fun t ht hW9 => ⟨⟨y_55 (a 2) 1, y_55 (a 2) 1, rfl, rfl, ⟨(upc u 4 (u 4 + 1)), (by intro i hi; simp only [List.mem_cons, List.not_mem_nil, or_false, not_or] at hi; unfold upc; repeat rw [if_neg (by omega)]), ⟨tm_70, lm_65, y_77, g_73, hMo, hKM, hI, tw_at ht hT⟩⟩⟩, hS.F ht⟩) hS.2.2 dX10_tell_68
    · have nc_58 := z_ne rfl (zk (x := (-1)) (-1) rfl) c_58
      refine lv_iconst (v := (-1)) hx hb dX10_tell_22 (by decide) ?_
      refine lv_iload hx hb dX10_tell_23 (lv_at hl 0 rfl) ?_
      refine lv_isub hx hb dX10_tell_25 ?_
      refine lv_topi (fun x_79 ex_79 => ?_)
      refine W.widen (k := 2) (n := 63) (Nat.le_of_ble_eq_true rfl) (Nat.le_of_ble_eq_true rfl) ?_
      exact W.iret (v := x_79) hx hb hr (fun t ht hW9 => ⟨⟨x_79, x_79, rfl, rfl, ⟨u, fun _ _ => rfl, ⟨τ, ln, y_55, g, hMo, hKM, hI, tw_at ht hT⟩⟩⟩, hS.F ht⟩) hS.2.2 dX10_tell_26
  · subst hre
    rw [ht] at hT
    have hFc := tw_free hF hS hA
    refine va_calli (va_runV (As := [.ref (a 7), .int p2, .ref (ad 7)]) (rest := []) ⟨hx, hb, hml, hown, hts⟩ (c_rread l dC dI ad av H.size a k τ ln y g u p2 7 hI (by decide) (by omega) (by omega)) (cwV 3 hts (gi_4 (List.mem_cons_of_mem _ (List.mem_append_left _ (List.mem_of_getElem? (i := 4) rfl))) (List.mem_cons_of_mem _ (List.mem_append_left _ (List.mem_of_getElem? (i := 5) rfl))) (List.mem_cons_of_mem _ (List.mem_append_left _ (List.mem_of_getElem? (i := 6) rfl))) (List.mem_cons_of_mem _ (List.mem_append_left _ (List.mem_of_getElem? (i := 7) rfl))) (fun _ hh => (List.mem_cons_of_mem _ (List.mem_append_right _ (List.mem_append_right _ (List.mem_append_right _ (List.mem_append_left _ hh)))))) gd_c_rread) rfl rfl rfl (by decide +kernel) ⟨Nat.le_of_ble_eq_true rfl, Nat.le_of_ble_eq_true rfl⟩) ⟨pw_blind, tw_recv hK hT (fx_16 hX) (by decide) cl_e26 rfl, pw_use hT hK hFc hS hM⟩ rfl rfl hl.1 rfl (lv_room (Nat.le_of_ble_eq_true rfl)) dX10_tell_11 ⟨Nat.le_of_ble_eq_true rfl, Nat.le_of_ble_eq_true rfl⟩) hS (fun q _ h => hFc q h) hFc (fun r0 r_80 t H locs ht hvm hw hB hz1 hk1 hS => ?_)
    refine W.widen (k := 0) (n := 0) (Nat.le_of_ble_eq_true rfl) (Nat.le_of_ble_eq_true rfl) ?_
    clear hvm hz1 hk1
    subst hw
    obtain ⟨y_81, hgy_81, hf_82, hf_83, hT⟩ := hB
    rw [ht] at hT
    have hKM := hKM.ag hMo hgy_81 (by decide)
    have hI := hI.ag hgy_81 (by decide)
    refine lv_istore (lv' := [(5, .int r_80), (0, .ref (a 2)), (1, .int p0), (2, .int p1), (3, .ref (a 7)), (4, .int p2)]) hx hb dX10_tell_14 hl (by decide) rfl (fun ls hl => ?_)
    refine lv_iload hx hb dX10_tell_16 (lv_at hl 0 rfl) ?_
    refine lv_iconst (v := (-1)) hx hb dX10_tell_18 (by decide) ?_
    refine lv_icmp_eq (tgt := 27) hx hb dX10_tell_19 (by decide) (fun c_84 => ?_) (fun c_84 => ?_)
    · have nc_84 := z_eq rfl (zk (x := (-1)) (-1) rfl) c_84
      refine lv_aload_n hx hb dX10_tell_27 rfl (lv_at hl 1 rfl) ?_
      refine tw_get (D := (dC, dI)) (v := .int (y_81 (a 2) 1)) (C := RX10) (T := TX10) (N := 6) hx hb hts (fun _ hh => (List.mem_cons_of_mem _ (List.mem_append_right _ (List.mem_append_left _ hh)))) hown hK hT (fx_2 hX) (by decide) cl_e12 rfl 1 (by decide) (hts (.fieldLink RX10 17 "TypingPool$Rules" "count" "I") (List.mem_cons_of_mem _ (List.mem_append_left _ (List.mem_of_getElem? (i := 8) rfl)))) (fun _ h9 => h9) rfl dX10_tell_28 ?_
      have hc_85 := ic_4 hI
      refine lv_istore (lv' := [(6, .int (y_81 (a 2) 1)), (5, .int r_80), (0, .ref (a 2)), (1, .int p0), (2, .int p1), (3, .ref (a 7)), (4, .int p2)]) hx hb dX10_tell_31 hl (by decide) rfl (fun ls hl => ?_)
      refine lv_aload_n hx hb dX10_tell_33 rfl (lv_at hl 2 rfl) ?_
      refine tw_get (D := (dC, dI)) (v := .ref (a 13)) (C := RX10) (T := TX10) (N := 6) hx hb hts (fun _ hh => (List.mem_cons_of_mem _ (List.mem_append_right _ (List.mem_append_left _ hh)))) hown hK hT (fx_2 hX) (by decide) cl_e12 rfl 0 (by decide) (hts (.fieldLink RX10 11 "TypingPool$Rules" "told" "[LTypingPool$Rule;") (List.mem_cons_of_mem _ (List.mem_append_left _ (List.mem_of_getElem? (i := 9) rfl)))) (fun _ h9 => h9) rfl dX10_tell_34 ?_
      refine lv_iload hx hb dX10_tell_37 (lv_at hl 0 rfl) ?_
      refine tw_new (ci := 9) (fs := [.int 0, .int 0, .null]) (C := RX9) (T := TX9) (N := 3) hx hb hts (fun _ hh => (List.mem_cons_of_mem _ (List.mem_append_right _ (List.mem_append_right _ (List.mem_append_right _ (List.mem_append_right _ (List.mem_append_left _ hh))))))) tyX9 tyX9_ok hown (hts (.classLink RX10 9 RX9) (List.mem_cons_of_mem _ (List.mem_append_left _ (List.mem_of_getElem? (i := 10) rfl)))) (hts (.instantiable RX9 3) (List.mem_cons_of_mem _ (List.mem_append_left _ (List.mem_of_getElem? (i := 11) rfl)))) (hts (.initialized RX9) (List.mem_cons_of_mem _ (List.mem_append_left _ (List.mem_of_getElem? (i := 12) rfl)))) hK hT hF hS hA 7 rfl (fun j hj => by rcases (show j = 0 ∨ j = 1 ∨ j = 2 by omega) with rfl | rfl | rfl <;> rfl) (fun _ => cl_e7) (Nat.le_of_ble_eq_true rfl) (Nat.le_of_ble_eq_true rfl) dX10_tell_39 (fun q_86 H hq0 hAq hT hS => ?_)
      refine W.widen (k := 1) (n := 3) (Nat.le_of_ble_eq_true rfl) (Nat.le_of_ble_eq_true rfl) ?_
      obtain ⟨tm_87, lm_87, ym_87, gm_87, htm_87, hlm_87, hym_87, hgm_87, hT⟩ : ∃ (z1 z2 : Nat → Nat) (z3 : Nat → Nat → Int32) (z4 : Nat → Nat → Option Nat), z1 = nwt τ q_86 7 ∧ z2 = ln ∧ z3 = nwy y_81 q_86 (fun _ => 0) ∧ z4 = nwg g q_86 ∧ tw (dC, dI) a k z1 z2 z3 z4 H := ⟨_, _, _, _, rfl, rfl, rfl, rfl, hT⟩
      have hKM : kpM τ y g ym_87 gm_87 := by rw [hym_87, hgm_87]; exact hKM.nw hMo hq0
      have hMo : mono τ tm_87 s.heap.size := by rw [htm_87]; exact hMo.nw hq0 (by rw [hAe]; exact hAq)
      have hI : IC a u tm_87 lm_87 ym_87 gm_87 := by rw [htm_87, hlm_87, hym_87, hgm_87]; exact hI.nw hq0 (Or.inl rfl) (by decide)
      have : (ym_87 (a 16) 1).toInt = (y_81 (a 16) 1).toInt := by rw [hym_87, nwy_o (kd_ne (fx_16 hX) hq0 (by decide))]
      have : (ym_87 (a 16) 3).toInt = (y_81 (a 16) 3).toInt := by rw [hym_87, nwy_o (kd_ne (fx_16 hX) hq0 (by decide))]
      have hX := hI.1
      have hF : ∀ q, tm_87 q ≠ 0 → A q := fun q h => by rw [← hAe]; exact hMo.2 q h
      have hk_88 : tm_87 q_86 = 7 := by rw [htm_87]; exact nwt_i
      refine lv_dup hx hb dX10_tell_42 rfl ?_
      refine lv_iload_n hx hb dX10_tell_43 rfl (lv_at hl 3 rfl) ?_
      refine lv_iload_n hx hb dX10_tell_44 rfl (lv_at hl 4 rfl) ?_
      refine lv_aload_n hx hb dX10_tell_45 rfl (lv_at hl 2 rfl) ?_
      refine tw_get (D := (dC, dI)) (v := .ref (a 16)) (C := RX10) (T := TX10) (N := 6) hx hb hts (fun _ hh => (List.mem_cons_of_mem _ (List.mem_append_right _ (List.mem_append_left _ hh)))) hown hK hT (fx_2 hX) (by decide) cl_e12 rfl 4 (by decide) (hts (.fieldLink RX10 31 "TypingPool$Rules" "reader" "LTypingPool$Reader;") (List.mem_cons_of_mem _ (List.mem_append_left _ (List.mem_of_getElem? (i := 0) rfl)))) (fun _ h9 => h9) rfl dX10_tell_46 ?_
      have hFc := tw_free hF hS hA
      refine va_callr (va_runV (As := []) (rest := [.int p1, .int p0, .ref q_86, .ref q_86, .int (y_81 (a 2) 1), .ref (a 13)]) ⟨hx, hb, hml, hown, hts⟩ (c_codeRead l dC dI ad av H.size a k tm_87 lm_87 ym_87 gm_87 u  hI (by omega)) (cwV 0 hts (gi_4 (List.mem_cons_of_mem _ (List.mem_append_left _ (List.mem_of_getElem? (i := 13) rfl))) (List.mem_cons_of_mem _ (List.mem_append_left _ (List.mem_of_getElem? (i := 14) rfl))) (List.mem_cons_of_mem _ (List.mem_append_left _ (List.mem_of_getElem? (i := 15) rfl))) (List.mem_cons_of_mem _ (List.mem_append_left _ (List.mem_of_getElem? (i := 7) rfl))) (fun _ hh => (List.mem_cons_of_mem _ (List.mem_append_right _ (List.mem_append_right _ (List.mem_append_right _ (List.mem_append_right _ (List.mem_append_right _ (List.mem_append_left _ hh)))))))) gd_c_codeRead) rfl rfl rfl (by decide +kernel) ⟨Nat.le_of_ble_eq_true rfl, Nat.le_of_ble_eq_true rfl⟩) ⟨pw_blind, tw_recv hK hT (fx_16 hX) (by decide) cl_e26 rfl, pw_use hT hK hFc hS hM⟩ rfl rfl hl.1 rfl (lv_room (Nat.le_of_ble_eq_true rfl)) dX10_tell_49 ⟨Nat.le_of_ble_eq_true rfl, Nat.le_of_ble_eq_true rfl⟩) hS (fun q _ h => hFc q h) hFc (fun u0 r_89 t H locs ht hvm hw hB hz1 hk1 hS => ?_)
      refine W.widen (k := 2) (n := 63) (Nat.le_of_ble_eq_true rfl) (Nat.le_of_ble_eq_true rfl) ?_
      clear hvm hz1 hk1
      obtain ⟨n_90, fn_90, h0n_90, hfrn_90, hlen_90, hT⟩ := hB
      rw [ht] at hT
      obtain ⟨tm_91, lm_91, ym_91, gm_91, htm_91, hlm_91, hym_91, hgm_91, hT⟩ : ∃ (z1 z2 : Nat → Nat) (z3 : Nat → Nat → Int32) (z4 : Nat → Nat → Option Nat), z1 = nwt tm_87 r_89 6 ∧ z2 = upn lm_87 r_89 n_90 ∧ z3 = nwy ym_87 r_89 fn_90 ∧ z4 = gm_87 ∧ tw (dC, dI) a k z1 z2 z3 z4 H := ⟨_, _, _, _, rfl, rfl, rfl, rfl, hT⟩
      have hKM : kpM τ y g ym_91 gm_91 := by rw [hym_91, hgm_91]; exact hKM.nwa hMo h0n_90
      have hMo : mono τ tm_91 s.heap.size := by rw [htm_91]; exact hMo.nw h0n_90 (by rw [hAe]; exact hFc _ hfrn_90)
      have hI : IC a u tm_91 lm_91 ym_91 gm_91 := by rw [htm_91, hlm_91, hym_91, hgm_91]; exact hI.nwa h0n_90
      have hlnr_89 : lm_91 r_89 ≤ 60 := by rw [hlm_91, upn_i]; exact hlen_90
      have : (ym_91 (a 16) 1).toInt = (ym_87 (a 16) 1).toInt := by rw [hym_91, nwy_o (kd_ne (fx_16 hX) h0n_90 (by decide))]
      have : (ym_91 (a 16) 3).toInt = (ym_87 (a 16) 3).toInt := by rw [hym_91, nwy_o (kd_ne (fx_16 hX) h0n_90 (by decide))]
      have hX := hI.1
      have hF : ∀ q, tm_91 q ≠ 0 → A q := fun q h => by rw [← hAe]; exact hMo.2 q h
      have hk_92 : tm_91 q_86 = 7 := by rw [htm_91, nwt_o (kd_ne hk_88 h0n_90 (by decide))]; exact hk_88
      have hk_93 : tm_91 r_89 = 6 := by rw [htm_91]; exact nwt_i
      have hFc := tw_free hF hS hA
      refine va_callv (va_runI (As := [.int p0, .int p1, .ref r_89]) (rest := [.ref q_86, .int (y_81 (a 2) 1), .ref (a 13)]) ⟨hx, hb, hml, hown, hts⟩ (c_Rule_init l dC dI ad av H.size a k tm_91 lm_91 ym_91 gm_91 u q_86 p0 p1 r_89 hI hk_93 hk_92) (cwI 3 hts (gi_0  (fun _ hh => (List.mem_cons_of_mem _ (List.mem_append_right _ (List.mem_append_right _ (List.mem_append_right _ (List.mem_append_right _ (List.mem_append_right _ (List.mem_append_right _ (List.mem_append_left _ hh))))))))) gd_c_Rule_init) rfl rfl rfl (hts (.initialized RX9) (List.mem_cons_of_mem _ (List.mem_append_left _ (List.mem_of_getElem? (i := 12) rfl)))) (hts (.methodLink RX10 59 yX9_init) (List.mem_cons_of_mem _ (List.mem_append_left _ (List.mem_of_getElem? (i := 17) rfl)))) (hts (.instanceMethod yX9_init) (List.mem_cons_of_mem _ (List.mem_append_left _ (List.mem_of_getElem? (i := 16) rfl)))) rfl (by decide +kernel) ⟨Nat.le_of_ble_eq_true rfl, Nat.le_of_ble_eq_true rfl⟩) ⟨pw_blind, pw_use hT hK hFc hS hM⟩ rfl rfl hl.1 rfl (lv_room (Nat.le_of_ble_eq_true rfl)) dX10_tell_52 ⟨Nat.le_of_ble_eq_true rfl, Nat.le_of_ble_eq_true rfl⟩) hS (fun q _ h => hFc q h) hFc (fun u0 t H locs ht hvm hw hB hz1 hk1 hS => ?_)
      refine W.widen (k := 2) (n := 63) (Nat.le_of_ble_eq_true rfl) (Nat.le_of_ble_eq_true rfl) ?_
      clear hvm hz1 hk1
      obtain ⟨y_95, hgy_95, hT⟩ := hB
      rw [ht] at hT
      have hKM := (hKM.ag hMo hgy_95 (by decide)).upg (i := 2) (x := some r_89) hMo hk_92 (by decide)
      have hI := (hI.ag hgy_95 (by decide)).upR (i := 2) (x := some r_89) hk_92
      have hT := hT.rek (t := 5) hk_92 (by decide) (fun _ _ _ => rfl)
      have hI := hI.rekR hk_92 upg_i hk_93 hlnr_89
      have hMo := hMo.rek (t := 5) hk_92 (by decide) (by decide)
      obtain ⟨tm_96, htm_96, hT⟩ : ∃ z : Nat → Nat, z = nwt tm_91 q_86 5 ∧ tw (dC, dI) a k z lm_91 y_95 (upg gm_91 q_86 2 (some r_89)) H := ⟨_, rfl, hT⟩
      obtain ⟨gm_96, hgm_96, hT⟩ : ∃ z : Nat → Nat → Option Nat, z = upg gm_91 q_86 2 (some r_89) ∧ tw (dC, dI) a k tm_96 lm_91 y_95 z H := ⟨_, rfl, hT⟩
      rw [← hgm_96] at hKM
      rw [← htm_96, ← hgm_96] at hI
      rw [← htm_96] at hMo
      have hX := hI.1
      have hF : ∀ q, tm_96 q ≠ 0 → A q := fun q h => by rw [← hAe]; exact hMo.2 q h
      have hk_97 : tm_96 q_86 = 5 := by rw [htm_96]; exact nwt_i
      have hbd_98 : 0 ≤ u 4 ∧ u 4 < 20 := by omega
      refine tw_aast (r := (RX9, TX9, 3)) hx hb hK hT hF hS 6 (fx_13 hX) (by decide) (fun _ => cl_e23) rfl hk_97 (by decide) cl_e5 rfl (z_in hc_85 hbd_98.1 hbd_98.2) dX10_tell_55 (fun H locs hT hS => ?_)
      obtain ⟨g_99, hg_99, hT⟩ : ∃ z : Nat → Nat → Option Nat, z = upg gm_96 (a 13) (y_81 (a 2) 1).toNatClampNeg (some q_86) ∧ tw (dC, dI) a k tm_96 lm_91 y_95 z H := ⟨_, rfl, hT⟩
      have hKM : kpM τ y g y_95 g_99 := by rw [hg_99]; exact hKM.upg hMo (fx_13 hX) (by decide)
      have hI : IC a u tm_96 lm_91 y_95 g_99 := by rw [hg_99]; exact hI.put13 hk_97
      have hent_100 : g_99 (a 13) (y_81 (a 2) 1).toNatClampNeg = some q_86 := by rw [hg_99]; exact upg_i
      refine lv_aload_n hx hb dX10_tell_56 rfl (lv_at hl 2 rfl) ?_
      refine lv_dup hx hb dX10_tell_57 rfl ?_
      refine tw_get (D := (dC, dI)) (v := .int (y_95 (a 2) 1)) (C := RX10) (T := TX10) (N := 6) hx hb hts (fun _ hh => (List.mem_cons_of_mem _ (List.mem_append_right _ (List.mem_append_left _ hh)))) hown hK hT (fx_2 hX) (by decide) cl_e12 rfl 1 (by decide) (hts (.fieldLink RX10 17 "TypingPool$Rules" "count" "I") (List.mem_cons_of_mem _ (List.mem_append_left _ (List.mem_of_getElem? (i := 8) rfl)))) (fun _ h9 => h9) rfl dX10_tell_58 ?_
      have hc_101 := ic_4 hI
      refine lv_iconst (v := 1) hx hb dX10_tell_61 (by decide) ?_
      refine lv_iadd hx hb dX10_tell_62 ?_
      refine lv_topi (fun x_102 ex_102 => ?_)
      have hx_102 := z_add ex_102 hc_101 (zk (x := 1) 1 rfl) (by omega) (by omega)
      refine tw_put (D := (dC, dI)) (x := x_102) (ty := .int) (C := RX10) (T := TX10) (N := 6) hx hb hts (fun _ hh => (List.mem_cons_of_mem _ (List.mem_append_right _ (List.mem_append_left _ hh)))) tyX10 tyX10_ok nmX10 hown hK hT hF hS (fx_2 hX) (by decide) cl_e12 rfl 1 (by decide) (hts (.fieldLink RX10 17 "TypingPool$Rules" "count" "I") (List.mem_cons_of_mem _ (List.mem_append_left _ (List.mem_of_getElem? (i := 8) rfl)))) (fun _ h9 => h9) rfl (tyX10_ok 1 (by decide)) rfl rfl (Nat.le_of_ble_eq_true rfl) rfl dX10_tell_63 (fun H locs hT hS => ?_)
      obtain ⟨y_103, hy_103, hT⟩ : ∃ z : Nat → Nat → Int32, z = up2 y_95 (a 2) 1 x_102 ∧ tw (dC, dI) a k tm_96 lm_91 z g_99 H := ⟨_, rfl, hT⟩
      have hKM : kpM τ y g y_103 g_99 := by rw [hy_103]; exact hKM.up hMo (fx_2 hX) (by decide)
      have : (y_103 (a 16) 1).toInt = (y_95 (a 16) 1).toInt := by rw [hy_103, up2_o (kd_ne (fx_16 hX) (fx_2 hX) (by decide))]
      have : (y_103 (a 16) 3).toInt = (y_95 (a 16) 3).toInt := by rw [hy_103, up2_o (kd_ne (fx_16 hX) (fx_2 hX) (by decide))]
      have hp_104 : x_102.toInt = x_102.toInt := rfl
      have hI := hI.cnt4 (by rw [hp_104]; first | done | omega) (by omega) (by rw [← z_nat hc_85]; exact hent_100) hk_97
      rw [← hy_103] at hI
      refine lv_iload hx hb dX10_tell_66 (lv_at hl 0 rfl) ?_
      exact W.iret (v := y_81 (a 2) 1) hx hb hr (fun t ht hW9 => ⟨⟨y_81 (a 2) 1, y_81 (a 2) 1, rfl, rfl, ⟨(upc u 4 (u 4 + 1)), (by intro i hi; simp only [List.mem_cons, List.not_mem_nil, or_false, not_or] at hi; unfold upc; repeat rw [if_neg (by omega)]), ⟨tm_96, lm_91, y_103, g_99, hMo, hKM, hI, tw_at ht hT⟩⟩⟩, hS.F ht⟩) hS.2.2 dX10_tell_68
    · have nc_84 := z_ne rfl (zk (x := (-1)) (-1) rfl) c_84
      refine lv_iconst (v := (-1)) hx hb dX10_tell_22 (by decide) ?_
      refine lv_iload hx hb dX10_tell_23 (lv_at hl 0 rfl) ?_
      refine lv_isub hx hb dX10_tell_25 ?_
      refine lv_topi (fun x_105 ex_105 => ?_)
      refine W.widen (k := 2) (n := 63) (Nat.le_of_ble_eq_true rfl) (Nat.le_of_ble_eq_true rfl) ?_
      exact W.iret (v := x_105) hx hb hr (fun t ht hW9 => ⟨⟨x_105, x_105, rfl, rfl, ⟨u, fun _ _ => rfl, ⟨τ, ln, y_81, g, hMo, hKM, hI, tw_at ht hT⟩⟩⟩, hS.F ht⟩) hS.2.2 dX10_tell_26
