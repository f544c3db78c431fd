theorem dJ0_charAt_5068e_0 : decode cJ0_charAt_5068e 0 = .ok (.aload_n 0, 1) := by decide +kernel
theorem dJ0_charAt_5068e_1 : decode cJ0_charAt_5068e 1 = .ok (.invokevirtual 492, 3) := by decide +kernel
theorem dJ0_charAt_5068e_11 : decode cJ0_charAt_5068e 11 = .ok (.iload_n 1, 1) := by decide +kernel
theorem dJ0_charAt_5068e_12 : decode cJ0_charAt_5068e 12 = .ok (.invokestatic 495, 3) := by decide +kernel
theorem dJ0_charAt_5068e_15 : decode cJ0_charAt_5068e 15 = .ok (.ireturn, 1) := by decide +kernel
theorem dJ0_charAt_5068e_4 : decode cJ0_charAt_5068e 4 = .ok (.ifCond .eq 12, 3) := by decide +kernel
theorem dJ0_charAt_5068e_7 : decode cJ0_charAt_5068e 7 = .ok (.aload_n 0, 1) := by decide +kernel
theorem dJ0_charAt_5068e_8 : decode cJ0_charAt_5068e 8 = .ok (.getfield 9, 3) := by decide +kernel
theorem dJ0_checkIndex_df160_0 : decode cJ0_checkIndex_df160 0 = .ok (.iload_n 0, 1) := by decide +kernel
theorem dJ0_checkIndex_df160_1 : decode cJ0_checkIndex_df160 1 = .ok (.iload_n 1, 1) := by decide +kernel
theorem dJ0_checkIndex_df160_2 : decode cJ0_checkIndex_df160 2 = .ok (.getstatic 1053, 3) := by decide +kernel
theorem dJ0_checkIndex_df160_5 : decode cJ0_checkIndex_df160 5 = .ok (.invokestatic 1059, 3) := by decide +kernel
theorem dJ0_checkIndex_df160_8 : decode cJ0_checkIndex_df160 8 = .ok (.pop, 1) := by decide +kernel
theorem dJ0_checkIndex_df160_9 : decode cJ0_checkIndex_df160 9 = .ok (.return_, 1) := by decide +kernel
theorem dJ1_charAt_3b067_0 : decode cJ1_charAt_3b067 0 = .ok (.iload_n 1, 1) := by decide +kernel
theorem dJ1_charAt_3b067_1 : decode cJ1_charAt_3b067 1 = .ok (.aload_n 0, 1) := by decide +kernel
theorem dJ1_charAt_3b067_12 : decode cJ1_charAt_3b067 12 = .ok (.iand, 1) := by decide +kernel
theorem dJ1_charAt_3b067_13 : decode cJ1_charAt_3b067 13 = .ok (.i2c, 1) := by decide +kernel
theorem dJ1_charAt_3b067_14 : decode cJ1_charAt_3b067 14 = .ok (.ireturn, 1) := by decide +kernel
theorem dJ1_charAt_3b067_2 : decode cJ1_charAt_3b067 2 = .ok (.arraylength, 1) := by decide +kernel
theorem dJ1_charAt_3b067_3 : decode cJ1_charAt_3b067 3 = .ok (.invokestatic 9, 3) := by decide +kernel
theorem dJ1_charAt_3b067_6 : decode cJ1_charAt_3b067 6 = .ok (.aload_n 0, 1) := by decide +kernel
theorem dJ1_charAt_3b067_7 : decode cJ1_charAt_3b067 7 = .ok (.iload_n 1, 1) := by decide +kernel
theorem dJ1_charAt_3b067_8 : decode cJ1_charAt_3b067 8 = .ok (.baload, 1) := by decide +kernel
theorem dJ1_charAt_3b067_9 : decode cJ1_charAt_3b067 9 = .ok (.sipush 255, 3) := by decide +kernel
theorem dJ3_checkIndex_8e157_0 : decode cJ3_checkIndex_8e157 0 = .ok (.iload_n 0, 1) := by decide +kernel
theorem dJ3_checkIndex_8e157_1 : decode cJ3_checkIndex_8e157 1 = .ok (.ifCond .lt 8, 3) := by decide +kernel
theorem dJ3_checkIndex_8e157_16 : decode cJ3_checkIndex_8e157 16 = .ok (.iload_n 0, 1) := by decide +kernel
theorem dJ3_checkIndex_8e157_17 : decode cJ3_checkIndex_8e157 17 = .ok (.ireturn, 1) := by decide +kernel
theorem dJ3_checkIndex_8e157_4 : decode cJ3_checkIndex_8e157 4 = .ok (.iload_n 0, 1) := by decide +kernel
theorem dJ3_checkIndex_8e157_5 : decode cJ3_checkIndex_8e157 5 = .ok (.iload_n 1, 1) := by decide +kernel
theorem dJ3_checkIndex_8e157_6 : decode cJ3_checkIndex_8e157 6 = .ok (.if_icmp .lt 10, 3) := by decide +kernel
theorem dX12_any_0 : decode cX12_any 0 = .ok (.aload_n 0, 1) := by decide +kernel
theorem dX12_any_1 : decode cX12_any 1 = .ok (.iload_n 1, 1) := by decide +kernel
theorem dX12_any_10 : decode cX12_any 10 = .ok (.ifCond .eq 47, 3) := by decide +kernel
theorem dX12_any_2 : decode cX12_any 2 = .ok (.invokevirtual 214, 3) := by decide +kernel
theorem dX12_any_5 : decode cX12_any 5 = .ok (.istore_n 2, 1) := by decide +kernel
theorem dX12_any_57 : decode cX12_any 57 = .ok (.iload_n 2, 1) := by decide +kernel
theorem dX12_any_58 : decode cX12_any 58 = .ok (.ireturn, 1) := by decide +kernel
theorem dX12_any_6 : decode cX12_any 6 = .ok (.aload_n 0, 1) := by decide +kernel
theorem dX12_any_7 : decode cX12_any 7 = .ok (.invokevirtual 217, 3) := by decide +kernel
theorem dX12_as_0 : decode cX12_as 0 = .ok (.aload_n 0, 1) := by decide +kernel
theorem dX12_as_1 : decode cX12_as 1 = .ok (.iconst 0, 1) := by decide +kernel
theorem dX12_as_12 : decode cX12_as 12 = .ok (.ifCond .ne 5, 3) := by decide +kernel
theorem dX12_as_15 : decode cX12_as 15 = .ok (.iconst (-1), 1) := by decide +kernel
theorem dX12_as_16 : decode cX12_as 16 = .ok (.ireturn, 1) := by decide +kernel
theorem dX12_as_17 : decode cX12_as 17 = .ok (.aload_n 0, 1) := by decide +kernel
theorem dX12_as_18 : decode cX12_as 18 = .ok (.getfield 94, 3) := by decide +kernel
theorem dX12_as_2 : decode cX12_as 2 = .ok (.putfield 139, 3) := by decide +kernel
theorem dX12_as_21 : decode cX12_as 21 = .ok (.istore_n 2, 1) := by decide +kernel
theorem dX12_as_22 : decode cX12_as 22 = .ok (.aload_n 0, 1) := by decide +kernel
theorem dX12_as_23 : decode cX12_as 23 = .ok (.iload_n 1, 1) := by decide +kernel
theorem dX12_as_24 : decode cX12_as 24 = .ok (.putfield 94, 3) := by decide +kernel
theorem dX12_as_27 : decode cX12_as 27 = .ok (.iload_n 2, 1) := by decide +kernel
theorem dX12_as_28 : decode cX12_as 28 = .ok (.ireturn, 1) := by decide +kernel
theorem dX12_as_5 : decode cX12_as 5 = .ok (.iload_n 1, 1) := by decide +kernel
theorem dX12_as_6 : decode cX12_as 6 = .ok (.iconst 0, 1) := by decide +kernel
theorem dX12_as_7 : decode cX12_as 7 = .ok (.bipush 99, 2) := by decide +kernel
theorem dX12_as_9 : decode cX12_as 9 = .ok (.invokestatic 145, 3) := by decide +kernel
theorem dX12_at_0 : decode cX12_at 0 = .ok (.aload_n 0, 1) := by decide +kernel
theorem dX12_at_1 : decode cX12_at 1 = .ok (.iconst 0, 1) := by decide +kernel
theorem dX12_at_10 : decode cX12_at 10 = .ok (.ifCond .ne 5, 3) := by decide +kernel
theorem dX12_at_13 : decode cX12_at 13 = .ok (.iconst (-1), 1) := by decide +kernel
theorem dX12_at_14 : decode cX12_at 14 = .ok (.ireturn, 1) := by decide +kernel
theorem dX12_at_2 : decode cX12_at 2 = .ok (.putfield 139, 3) := by decide +kernel
theorem dX12_at_5 : decode cX12_at 5 = .ok (.aload_n 0, 1) := by decide +kernel
theorem dX12_at_6 : decode cX12_at 6 = .ok (.iload_n 1, 1) := by decide +kernel
theorem dX12_at_7 : decode cX12_at 7 = .ok (.invokevirtual 315, 3) := by decide +kernel
theorem dX12_away_0 : decode cX12_away 0 = .ok (.aload_n 0, 1) := by decide +kernel
theorem dX12_away_1 : decode cX12_away 1 = .ok (.iconst 0, 1) := by decide +kernel
theorem dX12_away_10 : decode cX12_away 10 = .ok (.ifCond .eq 32, 3) := by decide +kernel
theorem dX12_away_2 : decode cX12_away 2 = .ok (.putfield 139, 3) := by decide +kernel
theorem dX12_away_42 : decode cX12_away 42 = .ok (.iconst (-1), 1) := by decide +kernel
theorem dX12_away_43 : decode cX12_away 43 = .ok (.ireturn, 1) := by decide +kernel
theorem dX12_away_5 : decode cX12_away 5 = .ok (.aload_n 0, 1) := by decide +kernel
theorem dX12_away_6 : decode cX12_away 6 = .ok (.iload_n 1, 1) := by decide +kernel
theorem dX12_away_7 : decode cX12_away 7 = .ok (.invokevirtual 160, 3) := by decide +kernel
theorem dX12_both_0 : decode cX12_both 0 = .ok (.aload_n 0, 1) := by decide +kernel
theorem dX12_both_1 : decode cX12_both 1 = .ok (.iload_n 1, 1) := by decide +kernel
theorem dX12_both_10 : decode cX12_both 10 = .ok (.ifCond .eq 47, 3) := by decide +kernel
theorem dX12_both_2 : decode cX12_both 2 = .ok (.invokevirtual 224, 3) := by decide +kernel
theorem dX12_both_5 : decode cX12_both 5 = .ok (.istore_n 2, 1) := by decide +kernel
theorem dX12_both_57 : decode cX12_both 57 = .ok (.iload_n 2, 1) := by decide +kernel
theorem dX12_both_58 : decode cX12_both 58 = .ok (.ireturn, 1) := by decide +kernel
theorem dX12_both_6 : decode cX12_both 6 = .ok (.aload_n 0, 1) := by decide +kernel
theorem dX12_both_7 : decode cX12_both 7 = .ok (.invokevirtual 217, 3) := by decide +kernel
theorem dX12_canGo_0 : decode cX12_canGo 0 = .ok (.iload_n 1, 1) := by decide +kernel
theorem dX12_canGo_1 : decode cX12_canGo 1 = .ok (.iload_n 2, 1) := by decide +kernel
theorem dX12_canGo_11 : decode cX12_canGo 11 = .ok (.aload_n 0, 1) := by decide +kernel
theorem dX12_canGo_12 : decode cX12_canGo 12 = .ok (.invokevirtual 164, 3) := by decide +kernel
theorem dX12_canGo_15 : decode cX12_canGo 15 = .ok (.iload_n 1, 1) := by decide +kernel
theorem dX12_canGo_16 : decode cX12_canGo 16 = .ok (.iadd, 1) := by decide +kernel
theorem dX12_canGo_17 : decode cX12_canGo 17 = .ok (.sipush 4800, 3) := by decide +kernel
theorem dX12_canGo_2 : decode cX12_canGo 2 = .ok (.sipush 960, 3) := by decide +kernel
theorem dX12_canGo_20 : decode cX12_canGo 20 = .ok (.if_icmp .gt 7, 3) := by decide +kernel
theorem dX12_canGo_23 : decode cX12_canGo 23 = .ok (.iconst 1, 1) := by decide +kernel
theorem dX12_canGo_24 : decode cX12_canGo 24 = .ok (.goto 4, 3) := by decide +kernel
theorem dX12_canGo_27 : decode cX12_canGo 27 = .ok (.iconst 0, 1) := by decide +kernel
theorem dX12_canGo_28 : decode cX12_canGo 28 = .ok (.ireturn, 1) := by decide +kernel
theorem dX12_canGo_5 : decode cX12_canGo 5 = .ok (.invokestatic 145, 3) := by decide +kernel
theorem dX12_canGo_8 : decode cX12_canGo 8 = .ok (.ifCond .eq 19, 3) := by decide +kernel
theorem dX12_claims_0 : decode cX12_claims 0 = .ok (.aload_n 0, 1) := by decide +kernel
theorem dX12_claims_1 : decode cX12_claims 1 = .ok (.iconst 0, 1) := by decide +kernel
theorem dX12_claims_12 : decode cX12_claims 12 = .ok (.ifCond .eq 12, 3) := by decide +kernel
theorem dX12_claims_15 : decode cX12_claims 15 = .ok (.iload_n 2, 1) := by decide +kernel
theorem dX12_claims_16 : decode cX12_claims 16 = .ok (.iconst 0, 1) := by decide +kernel
theorem dX12_claims_167 : decode cX12_claims 167 = .ok (.iload_n 3, 1) := by decide +kernel
theorem dX12_claims_168 : decode cX12_claims 168 = .ok (.ireturn, 1) := by decide +kernel
theorem dX12_claims_17 : decode cX12_claims 17 = .ok (.iconst 4, 1) := by decide +kernel
theorem dX12_claims_18 : decode cX12_claims 18 = .ok (.invokestatic 145, 3) := by decide +kernel
theorem dX12_claims_2 : decode cX12_claims 2 = .ok (.putfield 139, 3) := by decide +kernel
theorem dX12_claims_21 : decode cX12_claims 21 = .ok (.ifCond .ne 5, 3) := by decide +kernel
theorem dX12_claims_24 : decode cX12_claims 24 = .ok (.iconst (-1), 1) := by decide +kernel
theorem dX12_claims_25 : decode cX12_claims 25 = .ok (.ireturn, 1) := by decide +kernel
theorem dX12_claims_26 : decode cX12_claims 26 = .ok (.iload_n 2, 1) := by decide +kernel
theorem dX12_claims_27 : decode cX12_claims 27 = .ok (.ifCond .ne 9, 3) := by decide +kernel
theorem dX12_claims_30 : decode cX12_claims 30 = .ok (.aload_n 0, 1) := by decide +kernel
theorem dX12_claims_31 : decode cX12_claims 31 = .ok (.iload_n 1, 1) := by decide +kernel
theorem dX12_claims_32 : decode cX12_claims 32 = .ok (.invokevirtual 339, 3) := by decide +kernel
theorem dX12_claims_35 : decode cX12_claims 35 = .ok (.ireturn, 1) := by decide +kernel
theorem dX12_claims_36 : decode cX12_claims 36 = .ok (.iconst 0, 1) := by decide +kernel
theorem dX12_claims_37 : decode cX12_claims 37 = .ok (.istore_n 3, 1) := by decide +kernel
theorem dX12_claims_38 : decode cX12_claims 38 = .ok (.iconst 0, 1) := by decide +kernel
theorem dX12_claims_39 : decode cX12_claims 39 = .ok (.istore 4, 2) := by decide +kernel
theorem dX12_claims_41 : decode cX12_claims 41 = .ok (.iload 4, 2) := by decide +kernel
theorem dX12_claims_43 : decode cX12_claims 43 = .ok (.aload_n 0, 1) := by decide +kernel
theorem dX12_claims_44 : decode cX12_claims 44 = .ok (.getfield 149, 3) := by decide +kernel
theorem dX12_claims_47 : decode cX12_claims 47 = .ok (.if_icmp .ge 120, 3) := by decide +kernel
theorem dX12_claims_5 : decode cX12_claims 5 = .ok (.iload_n 1, 1) := by decide +kernel
theorem dX12_claims_6 : decode cX12_claims 6 = .ok (.iconst 0, 1) := by decide +kernel
theorem dX12_claims_7 : decode cX12_claims 7 = .ok (.bipush 7, 2) := by decide +kernel
theorem dX12_claims_9 : decode cX12_claims 9 = .ok (.invokestatic 145, 3) := by decide +kernel
theorem dX12_comes_0 : decode cX12_comes 0 = .ok (.aload_n 0, 1) := by decide +kernel
theorem dX12_comes_1 : decode cX12_comes 1 = .ok (.invokevirtual 211, 3) := by decide +kernel
theorem dX12_comes_4 : decode cX12_comes 4 = .ok (.iload_n 1, 1) := by decide +kernel
theorem dX12_comes_5 : decode cX12_comes 5 = .ok (.if_icmp .eq 5, 3) := by decide +kernel
theorem dX12_comes_8 : decode cX12_comes 8 = .ok (.iconst 0, 1) := by decide +kernel
theorem dX12_comes_9 : decode cX12_comes 9 = .ok (.ireturn, 1) := by decide +kernel
theorem dX12_correct_0 : decode cX12_correct 0 = .ok (.aload_n 0, 1) := by decide +kernel
theorem dX12_correct_1 : decode cX12_correct 1 = .ok (.iconst 0, 1) := by decide +kernel
theorem dX12_correct_10 : decode cX12_correct 10 = .ok (.ifCond .eq 61, 3) := by decide +kernel
theorem dX12_correct_2 : decode cX12_correct 2 = .ok (.putfield 139, 3) := by decide +kernel
theorem dX12_correct_5 : decode cX12_correct 5 = .ok (.aload_n 0, 1) := by decide +kernel
theorem dX12_correct_6 : decode cX12_correct 6 = .ok (.iload_n 1, 1) := by decide +kernel
theorem dX12_correct_7 : decode cX12_correct 7 = .ok (.invokevirtual 315, 3) := by decide +kernel
theorem dX12_correct_71 : decode cX12_correct 71 = .ok (.iconst (-1), 1) := by decide +kernel
theorem dX12_correct_72 : decode cX12_correct 72 = .ok (.ireturn, 1) := by decide +kernel
theorem dX12_count_0 : decode cX12_count 0 = .ok (.aload_n 0, 1) := by decide +kernel
theorem dX12_count_1 : decode cX12_count 1 = .ok (.iconst 0, 1) := by decide +kernel
theorem dX12_count_100 : decode cX12_count 100 = .ok (.ireturn, 1) := by decide +kernel
theorem dX12_count_101 : decode cX12_count 101 = .ok (.aload_n 0, 1) := by decide +kernel
theorem dX12_count_102 : decode cX12_count 102 = .ok (.getfield 167, 3) := by decide +kernel
theorem dX12_count_105 : decode cX12_count 105 = .ok (.ireturn, 1) := by decide +kernel
theorem dX12_count_106 : decode cX12_count 106 = .ok (.iconst 0, 1) := by decide +kernel
theorem dX12_count_107 : decode cX12_count 107 = .ok (.istore_n 3, 1) := by decide +kernel
theorem dX12_count_108 : decode cX12_count 108 = .ok (.iload_n 3, 1) := by decide +kernel
theorem dX12_count_109 : decode cX12_count 109 = .ok (.aload_n 0, 1) := by decide +kernel
theorem dX12_count_110 : decode cX12_count 110 = .ok (.getfield 149, 3) := by decide +kernel
theorem dX12_count_113 : decode cX12_count 113 = .ok (.if_icmp .ge 20, 3) := by decide +kernel
theorem dX12_count_133 : decode cX12_count 133 = .ok (.iload_n 2, 1) := by decide +kernel
theorem dX12_count_134 : decode cX12_count 134 = .ok (.ireturn, 1) := by decide +kernel
theorem dX12_count_135 : decode cX12_count 135 = .ok (.iconst 0, 1) := by decide +kernel
theorem dX12_count_136 : decode cX12_count 136 = .ok (.istore_n 3, 1) := by decide +kernel
theorem dX12_count_137 : decode cX12_count 137 = .ok (.iload_n 3, 1) := by decide +kernel
theorem dX12_count_138 : decode cX12_count 138 = .ok (.aload_n 0, 1) := by decide +kernel
theorem dX12_count_139 : decode cX12_count 139 = .ok (.getfield 149, 3) := by decide +kernel
theorem dX12_count_142 : decode cX12_count 142 = .ok (.if_icmp .ge 22, 3) := by decide +kernel
theorem dX12_count_164 : decode cX12_count 164 = .ok (.iload_n 2, 1) := by decide +kernel
theorem dX12_count_165 : decode cX12_count 165 = .ok (.ireturn, 1) := by decide +kernel
theorem dX12_count_166 : decode cX12_count 166 = .ok (.aload_n 0, 1) := by decide +kernel
theorem dX12_count_167 : decode cX12_count 167 = .ok (.invokevirtual 324, 3) := by decide +kernel
theorem dX12_count_170 : decode cX12_count 170 = .ok (.ireturn, 1) := by decide +kernel
theorem dX12_count_171 : decode cX12_count 171 = .ok (.aload_n 0, 1) := by decide +kernel
theorem dX12_count_172 : decode cX12_count 172 = .ok (.getfield 94, 3) := by decide +kernel
theorem dX12_count_175 : decode cX12_count 175 = .ok (.ireturn, 1) := by decide +kernel
theorem dX12_count_176 : decode cX12_count 176 = .ok (.aload_n 0, 1) := by decide +kernel
theorem dX12_count_177 : decode cX12_count 177 = .ok (.getfield 327, 3) := by decide +kernel
theorem dX12_count_180 : decode cX12_count 180 = .ok (.ireturn, 1) := by decide +kernel
theorem dX12_count_181 : decode cX12_count 181 = .ok (.aload_n 0, 1) := by decide +kernel
theorem dX12_count_182 : decode cX12_count 182 = .ok (.getfield 177, 3) := by decide +kernel
theorem dX12_count_185 : decode cX12_count 185 = .ok (.ireturn, 1) := by decide +kernel
theorem dX12_count_186 : decode cX12_count 186 = .ok (.aload_n 0, 1) := by decide +kernel
theorem dX12_count_187 : decode cX12_count 187 = .ok (.getfield 152, 3) := by decide +kernel
theorem dX12_count_190 : decode cX12_count 190 = .ok (.ireturn, 1) := by decide +kernel
theorem dX12_count_191 : decode cX12_count 191 = .ok (.iconst (-1), 1) := by decide +kernel
theorem dX12_count_192 : decode cX12_count 192 = .ok (.ireturn, 1) := by decide +kernel
theorem dX12_count_2 : decode cX12_count 2 = .ok (.putfield 139, 3) := by decide +kernel
theorem dX12_count_5 : decode cX12_count 5 = .ok (.iconst 0, 1) := by decide +kernel
theorem dX12_count_6 : decode cX12_count 6 = .ok (.istore_n 2, 1) := by decide +kernel
theorem dX12_count_7 : decode cX12_count 7 = .ok (.iload_n 1, 1) := by decide +kernel
theorem dX12_count_76 : decode cX12_count 76 = .ok (.aload_n 0, 1) := by decide +kernel
theorem dX12_count_77 : decode cX12_count 77 = .ok (.invokevirtual 164, 3) := by decide +kernel
theorem dX12_count_8 : decode cX12_count 8 = .ok (.tableswitch 183 0 12 #[68, 73, 78, 83, 88, 93, 98, 127, 158, 163, 168, 173, 178], 68) := by decide +kernel
theorem dX12_count_80 : decode cX12_count 80 = .ok (.ireturn, 1) := by decide +kernel
theorem dX12_count_81 : decode cX12_count 81 = .ok (.aload_n 0, 1) := by decide +kernel
theorem dX12_count_82 : decode cX12_count 82 = .ok (.getfield 142, 3) := by decide +kernel
theorem dX12_count_85 : decode cX12_count 85 = .ok (.ireturn, 1) := by decide +kernel
theorem dX12_count_86 : decode cX12_count 86 = .ok (.aload_n 0, 1) := by decide +kernel
theorem dX12_count_87 : decode cX12_count 87 = .ok (.getfield 149, 3) := by decide +kernel
theorem dX12_count_90 : decode cX12_count 90 = .ok (.ireturn, 1) := by decide +kernel
theorem dX12_count_91 : decode cX12_count 91 = .ok (.aload_n 0, 1) := by decide +kernel
theorem dX12_count_92 : decode cX12_count 92 = .ok (.getfield 248, 3) := by decide +kernel
theorem dX12_count_95 : decode cX12_count 95 = .ok (.ireturn, 1) := by decide +kernel
theorem dX12_count_96 : decode cX12_count 96 = .ok (.aload_n 0, 1) := by decide +kernel
theorem dX12_count_97 : decode cX12_count 97 = .ok (.getfield 321, 3) := by decide +kernel
theorem dX12_earns_0 : decode cX12_earns 0 = .ok (.aload_n 0, 1) := by decide +kernel
theorem dX12_earns_1 : decode cX12_earns 1 = .ok (.iconst 0, 1) := by decide +kernel
theorem dX12_earns_10 : decode cX12_earns 10 = .ok (.ifCond .eq 13, 3) := by decide +kernel
theorem dX12_earns_2 : decode cX12_earns 2 = .ok (.putfield 139, 3) := by decide +kernel
theorem dX12_earns_23 : decode cX12_earns 23 = .ok (.aload_n 0, 1) := by decide +kernel
theorem dX12_earns_24 : decode cX12_earns 24 = .ok (.invokevirtual 312, 3) := by decide +kernel
theorem dX12_earns_27 : decode cX12_earns 27 = .ok (.ireturn, 1) := by decide +kernel
theorem dX12_earns_5 : decode cX12_earns 5 = .ok (.aload_n 0, 1) := by decide +kernel
theorem dX12_earns_6 : decode cX12_earns 6 = .ok (.iload_n 1, 1) := by decide +kernel
theorem dX12_earns_7 : decode cX12_earns 7 = .ok (.invokevirtual 160, 3) := by decide +kernel
theorem dX12_end_0 : decode cX12_end 0 = .ok (.aload_n 0, 1) := by decide +kernel
theorem dX12_end_1 : decode cX12_end 1 = .ok (.iconst 0, 1) := by decide +kernel
theorem dX12_end_11 : decode cX12_end 11 = .ok (.invokestatic 145, 3) := by decide +kernel
theorem dX12_end_14 : decode cX12_end 14 = .ok (.ifCond .ne 5, 3) := by decide +kernel
theorem dX12_end_17 : decode cX12_end 17 = .ok (.iconst 0, 1) := by decide +kernel
theorem dX12_end_18 : decode cX12_end 18 = .ok (.ireturn, 1) := by decide +kernel
theorem dX12_end_19 : decode cX12_end 19 = .ok (.aload_n 0, 1) := by decide +kernel
theorem dX12_end_2 : decode cX12_end 2 = .ok (.putfield 139, 3) := by decide +kernel
theorem dX12_end_20 : decode cX12_end 20 = .ok (.iload_n 1, 1) := by decide +kernel
theorem dX12_end_21 : decode cX12_end 21 = .ok (.putfield 177, 3) := by decide +kernel
theorem dX12_end_24 : decode cX12_end 24 = .ok (.iconst 1, 1) := by decide +kernel
theorem dX12_end_25 : decode cX12_end 25 = .ok (.ireturn, 1) := by decide +kernel
theorem dX12_end_5 : decode cX12_end 5 = .ok (.iload_n 1, 1) := by decide +kernel
theorem dX12_end_6 : decode cX12_end 6 = .ok (.iconst 0, 1) := by decide +kernel
theorem dX12_end_7 : decode cX12_end 7 = .ok (.aload_n 0, 1) := by decide +kernel
theorem dX12_end_8 : decode cX12_end 8 = .ok (.getfield 177, 3) := by decide +kernel
theorem dX12_fault_0 : decode cX12_fault 0 = .ok (.aload_n 0, 1) := by decide +kernel
theorem dX12_fault_1 : decode cX12_fault 1 = .ok (.iconst 0, 1) := by decide +kernel
theorem dX12_fault_11 : decode cX12_fault 11 = .ok (.iconst 1, 1) := by decide +kernel
theorem dX12_fault_12 : decode cX12_fault 12 = .ok (.isub, 1) := by decide +kernel
theorem dX12_fault_13 : decode cX12_fault 13 = .ok (.invokestatic 145, 3) := by decide +kernel
theorem dX12_fault_16 : decode cX12_fault 16 = .ok (.ifCond .eq 19, 3) := by decide +kernel
theorem dX12_fault_2 : decode cX12_fault 2 = .ok (.putfield 139, 3) := by decide +kernel
theorem dX12_fault_35 : decode cX12_fault 35 = .ok (.iconst (-1), 1) := by decide +kernel
theorem dX12_fault_36 : decode cX12_fault 36 = .ok (.ireturn, 1) := by decide +kernel
theorem dX12_fault_5 : decode cX12_fault 5 = .ok (.iload_n 1, 1) := by decide +kernel
theorem dX12_fault_6 : decode cX12_fault 6 = .ok (.iconst 0, 1) := by decide +kernel
theorem dX12_fault_7 : decode cX12_fault 7 = .ok (.aload_n 0, 1) := by decide +kernel
theorem dX12_fault_8 : decode cX12_fault 8 = .ok (.getfield 321, 3) := by decide +kernel
theorem dX12_faults_0 : decode cX12_faults 0 = .ok (.aload_n 0, 1) := by decide +kernel
theorem dX12_faults_1 : decode cX12_faults 1 = .ok (.iconst 0, 1) := by decide +kernel
theorem dX12_faults_10 : decode cX12_faults 10 = .ok (.ifCond .eq 12, 3) := by decide +kernel
theorem dX12_faults_2 : decode cX12_faults 2 = .ok (.putfield 139, 3) := by decide +kernel
theorem dX12_faults_22 : decode cX12_faults 22 = .ok (.iconst (-1), 1) := by decide +kernel
theorem dX12_faults_23 : decode cX12_faults 23 = .ok (.ireturn, 1) := by decide +kernel
theorem dX12_faults_5 : decode cX12_faults 5 = .ok (.aload_n 0, 1) := by decide +kernel
theorem dX12_faults_6 : decode cX12_faults 6 = .ok (.iload_n 1, 1) := by decide +kernel
theorem dX12_faults_7 : decode cX12_faults 7 = .ok (.invokevirtual 160, 3) := by decide +kernel
theorem dX12_findPlan_0 : decode cX12_findPlan 0 = .ok (.iload_n 1, 1) := by decide +kernel
theorem dX12_findPlan_1 : decode cX12_findPlan 1 = .ok (.iconst 1, 1) := by decide +kernel
theorem dX12_findPlan_10 : decode cX12_findPlan 10 = .ok (.invokestatic 145, 3) := by decide +kernel
theorem dX12_findPlan_13 : decode cX12_findPlan 13 = .ok (.ifCond .eq 35, 3) := by decide +kernel
theorem dX12_findPlan_2 : decode cX12_findPlan 2 = .ok (.iconst 1, 1) := by decide +kernel
theorem dX12_findPlan_3 : decode cX12_findPlan 3 = .ok (.aload_n 0, 1) := by decide +kernel
theorem dX12_findPlan_4 : decode cX12_findPlan 4 = .ok (.getfield 149, 3) := by decide +kernel
theorem dX12_findPlan_48 : decode cX12_findPlan 48 = .ok (.iconst (-1), 1) := by decide +kernel
theorem dX12_findPlan_49 : decode cX12_findPlan 49 = .ok (.ireturn, 1) := by decide +kernel
theorem dX12_findPlan_7 : decode cX12_findPlan 7 = .ok (.ishl, 1) := by decide +kernel
theorem dX12_findPlan_8 : decode cX12_findPlan 8 = .ok (.iconst 1, 1) := by decide +kernel
theorem dX12_findPlan_9 : decode cX12_findPlan 9 = .ok (.isub, 1) := by decide +kernel
theorem dX12_fine_0 : decode cX12_fine 0 = .ok (.aload_n 0, 1) := by decide +kernel
theorem dX12_fine_1 : decode cX12_fine 1 = .ok (.getfield 200, 3) := by decide +kernel
theorem dX12_fine_12 : decode cX12_fine 12 = .ok (.iconst 0, 1) := by decide +kernel
theorem dX12_fine_13 : decode cX12_fine 13 = .ok (.ireturn, 1) := by decide +kernel
theorem dX12_fine_4 : decode cX12_fine 4 = .ok (.iconst (-1), 1) := by decide +kernel
theorem dX12_fine_5 : decode cX12_fine 5 = .ok (.if_icmp .ne 7, 3) := by decide +kernel
theorem dX12_goMinute_0 : decode cX12_goMinute 0 = .ok (.iconst 0, 1) := by decide +kernel
theorem dX12_goMinute_1 : decode cX12_goMinute 1 = .ok (.istore_n 1, 1) := by decide +kernel
theorem dX12_goMinute_126 : decode cX12_goMinute 126 = .ok (.iconst 0, 1) := by decide +kernel
theorem dX12_goMinute_127 : decode cX12_goMinute 127 = .ok (.istore_n 1, 1) := by decide +kernel
theorem dX12_goMinute_128 : decode cX12_goMinute 128 = .ok (.iload_n 1, 1) := by decide +kernel
theorem dX12_goMinute_129 : decode cX12_goMinute 129 = .ok (.aload_n 0, 1) := by decide +kernel
theorem dX12_goMinute_130 : decode cX12_goMinute 130 = .ok (.getfield 142, 3) := by decide +kernel
theorem dX12_goMinute_133 : decode cX12_goMinute 133 = .ok (.if_icmp .ge 163, 3) := by decide +kernel
theorem dX12_goMinute_2 : decode cX12_goMinute 2 = .ok (.iload_n 1, 1) := by decide +kernel
theorem dX12_goMinute_296 : decode cX12_goMinute 296 = .ok (.aload_n 0, 1) := by decide +kernel
theorem dX12_goMinute_297 : decode cX12_goMinute 297 = .ok (.getfield 107, 3) := by decide +kernel
theorem dX12_goMinute_3 : decode cX12_goMinute 3 = .ok (.aload_n 0, 1) := by decide +kernel
theorem dX12_goMinute_300 : decode cX12_goMinute 300 = .ok (.iconst 0, 1) := by decide +kernel
theorem dX12_goMinute_301 : decode cX12_goMinute 301 = .ok (.dup2, 1) := by decide +kernel
theorem dX12_goMinute_302 : decode cX12_goMinute 302 = .ok (.iaload, 1) := by decide +kernel
theorem dX12_goMinute_303 : decode cX12_goMinute 303 = .ok (.iconst 1, 1) := by decide +kernel
theorem dX12_goMinute_304 : decode cX12_goMinute 304 = .ok (.iadd, 1) := by decide +kernel
theorem dX12_goMinute_305 : decode cX12_goMinute 305 = .ok (.iastore, 1) := by decide +kernel
theorem dX12_goMinute_306 : decode cX12_goMinute 306 = .ok (.return_, 1) := by decide +kernel
theorem dX12_goMinute_4 : decode cX12_goMinute 4 = .ok (.getfield 142, 3) := by decide +kernel
theorem dX12_goMinute_7 : decode cX12_goMinute 7 = .ok (.if_icmp .ge 119, 3) := by decide +kernel
theorem dX12_go_0 : decode cX12_go 0 = .ok (.iconst 0, 1) := by decide +kernel
theorem dX12_go_1 : decode cX12_go 1 = .ok (.istore_n 2, 1) := by decide +kernel
theorem dX12_go_11 : decode cX12_go 11 = .ok (.iinc 2 1, 3) := by decide +kernel
theorem dX12_go_14 : decode cX12_go 14 = .ok (.goto (-12), 3) := by decide +kernel
theorem dX12_go_17 : decode cX12_go 17 = .ok (.return_, 1) := by decide +kernel
theorem dX12_go_2 : decode cX12_go 2 = .ok (.iload_n 2, 1) := by decide +kernel
theorem dX12_go_3 : decode cX12_go 3 = .ok (.iload_n 1, 1) := by decide +kernel
theorem dX12_go_4 : decode cX12_go 4 = .ok (.if_icmp .ge 13, 3) := by decide +kernel
theorem dX12_go_7 : decode cX12_go 7 = .ok (.aload_n 0, 1) := by decide +kernel
theorem dX12_go_8 : decode cX12_go 8 = .ok (.invokevirtual 302, 3) := by decide +kernel
theorem dX12_goes_0 : decode cX12_goes 0 = .ok (.aload_n 0, 1) := by decide +kernel
theorem dX12_goes_1 : decode cX12_goes 1 = .ok (.iconst 0, 1) := by decide +kernel
theorem dX12_goes_10 : decode cX12_goes 10 = .ok (.ifCond .eq 20, 3) := by decide +kernel
theorem dX12_goes_2 : decode cX12_goes 2 = .ok (.putfield 139, 3) := by decide +kernel
theorem dX12_goes_30 : decode cX12_goes 30 = .ok (.iconst (-1), 1) := by decide +kernel
theorem dX12_goes_31 : decode cX12_goes 31 = .ok (.ireturn, 1) := by decide +kernel
theorem dX12_goes_5 : decode cX12_goes 5 = .ok (.aload_n 0, 1) := by decide +kernel
theorem dX12_goes_6 : decode cX12_goes 6 = .ok (.iload_n 1, 1) := by decide +kernel
theorem dX12_goes_7 : decode cX12_goes 7 = .ok (.invokevirtual 315, 3) := by decide +kernel
theorem dX12_hand_0 : decode cX12_hand 0 = .ok (.aload_n 0, 1) := by decide +kernel
theorem dX12_hand_1 : decode cX12_hand 1 = .ok (.iconst 0, 1) := by decide +kernel
theorem dX12_hand_100 : decode cX12_hand 100 = .ok (.aload_n 0, 1) := by decide +kernel
theorem dX12_hand_101 : decode cX12_hand 101 = .ok (.aload_n 0, 1) := by decide +kernel
theorem dX12_hand_102 : decode cX12_hand 102 = .ok (.getfield 142, 3) := by decide +kernel
theorem dX12_hand_105 : decode cX12_hand 105 = .ok (.iconst 1, 1) := by decide +kernel
theorem dX12_hand_106 : decode cX12_hand 106 = .ok (.iconst (-1), 1) := by decide +kernel
theorem dX12_hand_107 : decode cX12_hand 107 = .ok (.invokevirtual 156, 3) := by decide +kernel
theorem dX12_hand_11 : decode cX12_hand 11 = .ok (.invokestatic 145, 3) := by decide +kernel
theorem dX12_hand_110 : decode cX12_hand 110 = .ok (.aload_n 0, 1) := by decide +kernel
theorem dX12_hand_111 : decode cX12_hand 111 = .ok (.aload_n 0, 1) := by decide +kernel
theorem dX12_hand_112 : decode cX12_hand 112 = .ok (.getfield 142, 3) := by decide +kernel
theorem dX12_hand_115 : decode cX12_hand 115 = .ok (.iconst 2, 1) := by decide +kernel
theorem dX12_hand_116 : decode cX12_hand 116 = .ok (.iload_n 3, 1) := by decide +kernel
theorem dX12_hand_117 : decode cX12_hand 117 = .ok (.invokevirtual 156, 3) := by decide +kernel
theorem dX12_hand_120 : decode cX12_hand 120 = .ok (.aload_n 0, 1) := by decide +kernel
theorem dX12_hand_121 : decode cX12_hand 121 = .ok (.dup, 1) := by decide +kernel
theorem dX12_hand_122 : decode cX12_hand 122 = .ok (.getfield 142, 3) := by decide +kernel
theorem dX12_hand_125 : decode cX12_hand 125 = .ok (.iconst 1, 1) := by decide +kernel
theorem dX12_hand_126 : decode cX12_hand 126 = .ok (.iadd, 1) := by decide +kernel
theorem dX12_hand_127 : decode cX12_hand 127 = .ok (.putfield 142, 3) := by decide +kernel
theorem dX12_hand_130 : decode cX12_hand 130 = .ok (.aload_n 0, 1) := by decide +kernel
theorem dX12_hand_131 : decode cX12_hand 131 = .ok (.getfield 142, 3) := by decide +kernel
theorem dX12_hand_134 : decode cX12_hand 134 = .ok (.iconst 1, 1) := by decide +kernel
theorem dX12_hand_135 : decode cX12_hand 135 = .ok (.isub, 1) := by decide +kernel
theorem dX12_hand_136 : decode cX12_hand 136 = .ok (.ireturn, 1) := by decide +kernel
theorem dX12_hand_14 : decode cX12_hand 14 = .ok (.ifCond .eq 43, 3) := by decide +kernel
theorem dX12_hand_17 : decode cX12_hand 17 = .ok (.iload_n 2, 1) := by decide +kernel
theorem dX12_hand_18 : decode cX12_hand 18 = .ok (.iconst 0, 1) := by decide +kernel
theorem dX12_hand_19 : decode cX12_hand 19 = .ok (.sipush 255, 3) := by decide +kernel
theorem dX12_hand_2 : decode cX12_hand 2 = .ok (.putfield 139, 3) := by decide +kernel
theorem dX12_hand_22 : decode cX12_hand 22 = .ok (.invokestatic 145, 3) := by decide +kernel
theorem dX12_hand_25 : decode cX12_hand 25 = .ok (.ifCond .eq 32, 3) := by decide +kernel
theorem dX12_hand_28 : decode cX12_hand 28 = .ok (.iload_n 3, 1) := by decide +kernel
theorem dX12_hand_29 : decode cX12_hand 29 = .ok (.iconst 0, 1) := by decide +kernel
theorem dX12_hand_30 : decode cX12_hand 30 = .ok (.ldc 155, 2) := by decide +kernel
theorem dX12_hand_32 : decode cX12_hand 32 = .ok (.invokestatic 145, 3) := by decide +kernel
theorem dX12_hand_35 : decode cX12_hand 35 = .ok (.ifCond .eq 22, 3) := by decide +kernel
theorem dX12_hand_38 : decode cX12_hand 38 = .ok (.iload 4, 2) := by decide +kernel
theorem dX12_hand_40 : decode cX12_hand 40 = .ok (.iconst 0, 1) := by decide +kernel
theorem dX12_hand_41 : decode cX12_hand 41 = .ok (.iconst 3, 1) := by decide +kernel
theorem dX12_hand_42 : decode cX12_hand 42 = .ok (.invokestatic 145, 3) := by decide +kernel
theorem dX12_hand_45 : decode cX12_hand 45 = .ok (.ifCond .eq 12, 3) := by decide +kernel
theorem dX12_hand_48 : decode cX12_hand 48 = .ok (.aload_n 0, 1) := by decide +kernel
theorem dX12_hand_49 : decode cX12_hand 49 = .ok (.getfield 142, 3) := by decide +kernel
theorem dX12_hand_5 : decode cX12_hand 5 = .ok (.iload_n 1, 1) := by decide +kernel
theorem dX12_hand_52 : decode cX12_hand 52 = .ok (.bipush 8, 2) := by decide +kernel
theorem dX12_hand_54 : decode cX12_hand 54 = .ok (.if_icmp .ne 5, 3) := by decide +kernel
theorem dX12_hand_57 : decode cX12_hand 57 = .ok (.iconst (-1), 1) := by decide +kernel
theorem dX12_hand_58 : decode cX12_hand 58 = .ok (.ireturn, 1) := by decide +kernel
theorem dX12_hand_59 : decode cX12_hand 59 = .ok (.aload_n 0, 1) := by decide +kernel
theorem dX12_hand_6 : decode cX12_hand 6 = .ok (.bipush 10, 2) := by decide +kernel
theorem dX12_hand_60 : decode cX12_hand 60 = .ok (.getfield 13, 3) := by decide +kernel
theorem dX12_hand_63 : decode cX12_hand 63 = .ok (.aload_n 0, 1) := by decide +kernel
theorem dX12_hand_64 : decode cX12_hand 64 = .ok (.getfield 142, 3) := by decide +kernel
theorem dX12_hand_67 : decode cX12_hand 67 = .ok (.iload_n 1, 1) := by decide +kernel
theorem dX12_hand_68 : decode cX12_hand 68 = .ok (.iastore, 1) := by decide +kernel
theorem dX12_hand_69 : decode cX12_hand 69 = .ok (.aload_n 0, 1) := by decide +kernel
theorem dX12_hand_70 : decode cX12_hand 70 = .ok (.getfield 16, 3) := by decide +kernel
theorem dX12_hand_73 : decode cX12_hand 73 = .ok (.aload_n 0, 1) := by decide +kernel
theorem dX12_hand_74 : decode cX12_hand 74 = .ok (.getfield 142, 3) := by decide +kernel
theorem dX12_hand_77 : decode cX12_hand 77 = .ok (.iload_n 2, 1) := by decide +kernel
theorem dX12_hand_78 : decode cX12_hand 78 = .ok (.iastore, 1) := by decide +kernel
theorem dX12_hand_79 : decode cX12_hand 79 = .ok (.aload_n 0, 1) := by decide +kernel
theorem dX12_hand_8 : decode cX12_hand 8 = .ok (.sipush 200, 3) := by decide +kernel
theorem dX12_hand_80 : decode cX12_hand 80 = .ok (.getfield 19, 3) := by decide +kernel
theorem dX12_hand_83 : decode cX12_hand 83 = .ok (.aload_n 0, 1) := by decide +kernel
theorem dX12_hand_84 : decode cX12_hand 84 = .ok (.getfield 142, 3) := by decide +kernel
theorem dX12_hand_87 : decode cX12_hand 87 = .ok (.iload 4, 2) := by decide +kernel
theorem dX12_hand_89 : decode cX12_hand 89 = .ok (.iastore, 1) := by decide +kernel
theorem dX12_hand_90 : decode cX12_hand 90 = .ok (.aload_n 0, 1) := by decide +kernel
theorem dX12_hand_91 : decode cX12_hand 91 = .ok (.aload_n 0, 1) := by decide +kernel
theorem dX12_hand_92 : decode cX12_hand 92 = .ok (.getfield 142, 3) := by decide +kernel
theorem dX12_hand_95 : decode cX12_hand 95 = .ok (.iconst 0, 1) := by decide +kernel
theorem dX12_hand_96 : decode cX12_hand 96 = .ok (.iconst (-1), 1) := by decide +kernel
theorem dX12_hand_97 : decode cX12_hand 97 = .ok (.invokevirtual 156, 3) := by decide +kernel
theorem dX12_held_0 : decode cX12_held 0 = .ok (.aload_n 0, 1) := by decide +kernel
theorem dX12_held_1 : decode cX12_held 1 = .ok (.iload_n 1, 1) := by decide +kernel
theorem dX12_held_10 : decode cX12_held 10 = .ok (.ifCond .ne 5, 3) := by decide +kernel
theorem dX12_held_13 : decode cX12_held 13 = .ok (.iconst 0, 1) := by decide +kernel
theorem dX12_held_14 : decode cX12_held 14 = .ok (.ireturn, 1) := by decide +kernel
theorem dX12_held_2 : decode cX12_held 2 = .ok (.invokevirtual 227, 3) := by decide +kernel
theorem dX12_held_5 : decode cX12_held 5 = .ok (.istore_n 2, 1) := by decide +kernel
theorem dX12_held_6 : decode cX12_held 6 = .ok (.aload_n 0, 1) := by decide +kernel
theorem dX12_held_7 : decode cX12_held 7 = .ok (.invokevirtual 217, 3) := by decide +kernel
theorem dX12_here_0 : decode cX12_here 0 = .ok (.aload_n 0, 1) := by decide +kernel
theorem dX12_here_1 : decode cX12_here 1 = .ok (.getfield 197, 3) := by decide +kernel
theorem dX12_here_4 : decode cX12_here 4 = .ok (.aload_n 0, 1) := by decide +kernel
theorem dX12_here_41 : decode cX12_here 41 = .ok (.iconst (-1), 1) := by decide +kernel
theorem dX12_here_42 : decode cX12_here 42 = .ok (.ireturn, 1) := by decide +kernel
theorem dX12_here_5 : decode cX12_here 5 = .ok (.getfield 194, 3) := by decide +kernel
theorem dX12_here_8 : decode cX12_here 8 = .ok (.if_icmp .ge 33, 3) := by decide +kernel
theorem dX12_ill_0 : decode cX12_ill 0 = .ok (.aload_n 0, 1) := by decide +kernel
theorem dX12_ill_1 : decode cX12_ill 1 = .ok (.iconst 0, 1) := by decide +kernel
theorem dX12_ill_10 : decode cX12_ill 10 = .ok (.ifCond .eq 12, 3) := by decide +kernel
theorem dX12_ill_2 : decode cX12_ill 2 = .ok (.putfield 139, 3) := by decide +kernel
theorem dX12_ill_22 : decode cX12_ill 22 = .ok (.aload_n 0, 1) := by decide +kernel
theorem dX12_ill_23 : decode cX12_ill 23 = .ok (.invokevirtual 312, 3) := by decide +kernel
theorem dX12_ill_26 : decode cX12_ill 26 = .ok (.ireturn, 1) := by decide +kernel
theorem dX12_ill_5 : decode cX12_ill 5 = .ok (.aload_n 0, 1) := by decide +kernel
theorem dX12_ill_6 : decode cX12_ill 6 = .ok (.iload_n 1, 1) := by decide +kernel
theorem dX12_ill_7 : decode cX12_ill 7 = .ok (.invokevirtual 160, 3) := by decide +kernel
theorem dX12_in_0 : decode cX12_in 0 = .ok (.iload_n 0, 1) := by decide +kernel
theorem dX12_in_1 : decode cX12_in 1 = .ok (.iload_n 1, 1) := by decide +kernel
theorem dX12_in_10 : decode cX12_in 10 = .ok (.iconst 1, 1) := by decide +kernel
theorem dX12_in_11 : decode cX12_in 11 = .ok (.goto 4, 3) := by decide +kernel
theorem dX12_in_14 : decode cX12_in 14 = .ok (.iconst 0, 1) := by decide +kernel
theorem dX12_in_15 : decode cX12_in 15 = .ok (.ireturn, 1) := by decide +kernel
theorem dX12_in_2 : decode cX12_in 2 = .ok (.if_icmp .lt 12, 3) := by decide +kernel
theorem dX12_in_5 : decode cX12_in 5 = .ok (.iload_n 0, 1) := by decide +kernel
theorem dX12_in_6 : decode cX12_in 6 = .ok (.iload_n 2, 1) := by decide +kernel
theorem dX12_in_7 : decode cX12_in 7 = .ok (.if_icmp .gt 7, 3) := by decide +kernel
theorem dX12_init_0 : decode cX12_init 0 = .ok (.aload_n 0, 1) := by decide +kernel
theorem dX12_init_1 : decode cX12_init 1 = .ok (.invokespecial 3, 3) := by decide +kernel
theorem dX12_init_100 : decode cX12_init 100 = .ok (.bipush 30, 2) := by decide +kernel
theorem dX12_init_102 : decode cX12_init 102 = .ok (.newarray .int, 2) := by decide +kernel
theorem dX12_init_104 : decode cX12_init 104 = .ok (.putfield 46, 3) := by decide +kernel
theorem dX12_init_107 : decode cX12_init 107 = .ok (.aload_n 0, 1) := by decide +kernel
theorem dX12_init_108 : decode cX12_init 108 = .ok (.bipush 30, 2) := by decide +kernel
theorem dX12_init_11 : decode cX12_init 11 = .ok (.aload_n 0, 1) := by decide +kernel
theorem dX12_init_110 : decode cX12_init 110 = .ok (.newarray .int, 2) := by decide +kernel
theorem dX12_init_112 : decode cX12_init 112 = .ok (.putfield 49, 3) := by decide +kernel
theorem dX12_init_115 : decode cX12_init 115 = .ok (.aload_n 0, 1) := by decide +kernel
theorem dX12_init_116 : decode cX12_init 116 = .ok (.bipush 30, 2) := by decide +kernel
theorem dX12_init_118 : decode cX12_init 118 = .ok (.newarray .int, 2) := by decide +kernel
theorem dX12_init_12 : decode cX12_init 12 = .ok (.bipush 8, 2) := by decide +kernel
theorem dX12_init_120 : decode cX12_init 120 = .ok (.putfield 52, 3) := by decide +kernel
theorem dX12_init_123 : decode cX12_init 123 = .ok (.aload_n 0, 1) := by decide +kernel
theorem dX12_init_124 : decode cX12_init 124 = .ok (.bipush 30, 2) := by decide +kernel
theorem dX12_init_126 : decode cX12_init 126 = .ok (.newarray .int, 2) := by decide +kernel
theorem dX12_init_128 : decode cX12_init 128 = .ok (.putfield 55, 3) := by decide +kernel
theorem dX12_init_131 : decode cX12_init 131 = .ok (.aload_n 0, 1) := by decide +kernel
theorem dX12_init_132 : decode cX12_init 132 = .ok (.sipush 1200, 3) := by decide +kernel
theorem dX12_init_135 : decode cX12_init 135 = .ok (.newarray .byte, 2) := by decide +kernel
theorem dX12_init_137 : decode cX12_init 137 = .ok (.putfield 58, 3) := by decide +kernel
theorem dX12_init_14 : decode cX12_init 14 = .ok (.newarray .int, 2) := by decide +kernel
theorem dX12_init_140 : decode cX12_init 140 = .ok (.aload_n 0, 1) := by decide +kernel
theorem dX12_init_141 : decode cX12_init 141 = .ok (.bipush 20, 2) := by decide +kernel
theorem dX12_init_143 : decode cX12_init 143 = .ok (.newarray .int, 2) := by decide +kernel
theorem dX12_init_145 : decode cX12_init 145 = .ok (.putfield 62, 3) := by decide +kernel
theorem dX12_init_148 : decode cX12_init 148 = .ok (.aload_n 0, 1) := by decide +kernel
theorem dX12_init_149 : decode cX12_init 149 = .ok (.bipush 20, 2) := by decide +kernel
theorem dX12_init_151 : decode cX12_init 151 = .ok (.newarray .int, 2) := by decide +kernel
theorem dX12_init_153 : decode cX12_init 153 = .ok (.putfield 65, 3) := by decide +kernel
theorem dX12_init_156 : decode cX12_init 156 = .ok (.aload_n 0, 1) := by decide +kernel
theorem dX12_init_157 : decode cX12_init 157 = .ok (.bipush 20, 2) := by decide +kernel
theorem dX12_init_159 : decode cX12_init 159 = .ok (.newarray .int, 2) := by decide +kernel
theorem dX12_init_16 : decode cX12_init 16 = .ok (.putfield 13, 3) := by decide +kernel
theorem dX12_init_161 : decode cX12_init 161 = .ok (.putfield 68, 3) := by decide +kernel
theorem dX12_init_164 : decode cX12_init 164 = .ok (.aload_n 0, 1) := by decide +kernel
theorem dX12_init_165 : decode cX12_init 165 = .ok (.ldc 71, 2) := by decide +kernel
theorem dX12_init_167 : decode cX12_init 167 = .ok (.invokevirtual 73, 3) := by decide +kernel
theorem dX12_init_170 : decode cX12_init 170 = .ok (.newarray .byte, 2) := by decide +kernel
theorem dX12_init_172 : decode cX12_init 172 = .ok (.putfield 79, 3) := by decide +kernel
theorem dX12_init_175 : decode cX12_init 175 = .ok (.aload_n 0, 1) := by decide +kernel
theorem dX12_init_176 : decode cX12_init 176 = .ok (.bipush 40, 2) := by decide +kernel
theorem dX12_init_178 : decode cX12_init 178 = .ok (.newarray .int, 2) := by decide +kernel
theorem dX12_init_180 : decode cX12_init 180 = .ok (.putfield 82, 3) := by decide +kernel
theorem dX12_init_183 : decode cX12_init 183 = .ok (.aload_n 0, 1) := by decide +kernel
theorem dX12_init_184 : decode cX12_init 184 = .ok (.bipush 40, 2) := by decide +kernel
theorem dX12_init_186 : decode cX12_init 186 = .ok (.newarray .int, 2) := by decide +kernel
theorem dX12_init_188 : decode cX12_init 188 = .ok (.putfield 85, 3) := by decide +kernel
theorem dX12_init_19 : decode cX12_init 19 = .ok (.aload_n 0, 1) := by decide +kernel
theorem dX12_init_191 : decode cX12_init 191 = .ok (.aload_n 0, 1) := by decide +kernel
theorem dX12_init_192 : decode cX12_init 192 = .ok (.bipush 40, 2) := by decide +kernel
theorem dX12_init_194 : decode cX12_init 194 = .ok (.newarray .int, 2) := by decide +kernel
theorem dX12_init_196 : decode cX12_init 196 = .ok (.putfield 88, 3) := by decide +kernel
theorem dX12_init_199 : decode cX12_init 199 = .ok (.aload_n 0, 1) := by decide +kernel
theorem dX12_init_20 : decode cX12_init 20 = .ok (.bipush 8, 2) := by decide +kernel
theorem dX12_init_200 : decode cX12_init 200 = .ok (.bipush 120, 2) := by decide +kernel
theorem dX12_init_202 : decode cX12_init 202 = .ok (.newarray .int, 2) := by decide +kernel
theorem dX12_init_204 : decode cX12_init 204 = .ok (.putfield 91, 3) := by decide +kernel
theorem dX12_init_207 : decode cX12_init 207 = .ok (.aload_n 0, 1) := by decide +kernel
theorem dX12_init_208 : decode cX12_init 208 = .ok (.bipush 99, 2) := by decide +kernel
theorem dX12_init_210 : decode cX12_init 210 = .ok (.putfield 94, 3) := by decide +kernel
theorem dX12_init_213 : decode cX12_init 213 = .ok (.aload_n 0, 1) := by decide +kernel
theorem dX12_init_214 : decode cX12_init 214 = .ok (.bipush 60, 2) := by decide +kernel
theorem dX12_init_216 : decode cX12_init 216 = .ok (.newarray .int, 2) := by decide +kernel
theorem dX12_init_218 : decode cX12_init 218 = .ok (.putfield 98, 3) := by decide +kernel
theorem dX12_init_22 : decode cX12_init 22 = .ok (.newarray .int, 2) := by decide +kernel
theorem dX12_init_221 : decode cX12_init 221 = .ok (.aload_n 0, 1) := by decide +kernel
theorem dX12_init_222 : decode cX12_init 222 = .ok (.bipush 100, 2) := by decide +kernel
theorem dX12_init_224 : decode cX12_init 224 = .ok (.newarray .byte, 2) := by decide +kernel
theorem dX12_init_226 : decode cX12_init 226 = .ok (.putfield 101, 3) := by decide +kernel
theorem dX12_init_229 : decode cX12_init 229 = .ok (.aload_n 0, 1) := by decide +kernel
theorem dX12_init_230 : decode cX12_init 230 = .ok (.bipush 16, 2) := by decide +kernel
theorem dX12_init_232 : decode cX12_init 232 = .ok (.newarray .int, 2) := by decide +kernel
theorem dX12_init_234 : decode cX12_init 234 = .ok (.putfield 104, 3) := by decide +kernel
theorem dX12_init_237 : decode cX12_init 237 = .ok (.aload_n 0, 1) := by decide +kernel
theorem dX12_init_238 : decode cX12_init 238 = .ok (.sipush 199, 3) := by decide +kernel
theorem dX12_init_24 : decode cX12_init 24 = .ok (.putfield 16, 3) := by decide +kernel
theorem dX12_init_241 : decode cX12_init 241 = .ok (.newarray .int, 2) := by decide +kernel
theorem dX12_init_243 : decode cX12_init 243 = .ok (.putfield 107, 3) := by decide +kernel
theorem dX12_init_246 : decode cX12_init 246 = .ok (.aload_n 0, 1) := by decide +kernel
theorem dX12_init_247 : decode cX12_init 247 = .ok (.sipush 199, 3) := by decide +kernel
theorem dX12_init_250 : decode cX12_init 250 = .ok (.newarray .int, 2) := by decide +kernel
theorem dX12_init_252 : decode cX12_init 252 = .ok (.putfield 110, 3) := by decide +kernel
theorem dX12_init_255 : decode cX12_init 255 = .ok (.aload_n 0, 1) := by decide +kernel
theorem dX12_init_256 : decode cX12_init 256 = .ok (.iconst (-1), 1) := by decide +kernel
theorem dX12_init_257 : decode cX12_init 257 = .ok (.putfield 113, 3) := by decide +kernel
theorem dX12_init_260 : decode cX12_init 260 = .ok (.aload_n 0, 1) := by decide +kernel
theorem dX12_init_261 : decode cX12_init 261 = .ok (.bipush 8, 2) := by decide +kernel
theorem dX12_init_263 : decode cX12_init 263 = .ok (.newarray .int, 2) := by decide +kernel
theorem dX12_init_265 : decode cX12_init 265 = .ok (.putfield 116, 3) := by decide +kernel
theorem dX12_init_268 : decode cX12_init 268 = .ok (.aload_n 0, 1) := by decide +kernel
theorem dX12_init_269 : decode cX12_init 269 = .ok (.ldc 119, 2) := by decide +kernel
theorem dX12_init_27 : decode cX12_init 27 = .ok (.aload_n 0, 1) := by decide +kernel
theorem dX12_init_271 : decode cX12_init 271 = .ok (.newarray .int, 2) := by decide +kernel
theorem dX12_init_273 : decode cX12_init 273 = .ok (.putfield 120, 3) := by decide +kernel
theorem dX12_init_276 : decode cX12_init 276 = .ok (.aload_n 0, 1) := by decide +kernel
theorem dX12_init_277 : decode cX12_init 277 = .ok (.iconst 5, 1) := by decide +kernel
theorem dX12_init_278 : decode cX12_init 278 = .ok (.newarray .int, 2) := by decide +kernel
theorem dX12_init_28 : decode cX12_init 28 = .ok (.bipush 8, 2) := by decide +kernel
theorem dX12_init_280 : decode cX12_init 280 = .ok (.putfield 123, 3) := by decide +kernel
theorem dX12_init_283 : decode cX12_init 283 = .ok (.aload_n 0, 1) := by decide +kernel
theorem dX12_init_284 : decode cX12_init 284 = .ok (.iconst 3, 1) := by decide +kernel
theorem dX12_init_285 : decode cX12_init 285 = .ok (.newarray .int, 2) := by decide +kernel
theorem dX12_init_287 : decode cX12_init 287 = .ok (.putfield 126, 3) := by decide +kernel
theorem dX12_init_290 : decode cX12_init 290 = .ok (.aload_n 0, 1) := by decide +kernel
theorem dX12_init_291 : decode cX12_init 291 = .ok (.bipush 8, 2) := by decide +kernel
theorem dX12_init_293 : decode cX12_init 293 = .ok (.newarray .int, 2) := by decide +kernel
theorem dX12_init_295 : decode cX12_init 295 = .ok (.putfield 129, 3) := by decide +kernel
theorem dX12_init_298 : decode cX12_init 298 = .ok (.aload_n 0, 1) := by decide +kernel
theorem dX12_init_299 : decode cX12_init 299 = .ok (.bipush 8, 2) := by decide +kernel
theorem dX12_init_30 : decode cX12_init 30 = .ok (.newarray .int, 2) := by decide +kernel
theorem dX12_init_301 : decode cX12_init 301 = .ok (.newarray .int, 2) := by decide +kernel
theorem dX12_init_303 : decode cX12_init 303 = .ok (.putfield 132, 3) := by decide +kernel
theorem dX12_init_306 : decode cX12_init 306 = .ok (.iconst 0, 1) := by decide +kernel
theorem dX12_init_307 : decode cX12_init 307 = .ok (.istore_n 1, 1) := by decide +kernel
theorem dX12_init_308 : decode cX12_init 308 = .ok (.iload_n 1, 1) := by decide +kernel
theorem dX12_init_309 : decode cX12_init 309 = .ok (.ldc 71, 2) := by decide +kernel
theorem dX12_init_311 : decode cX12_init 311 = .ok (.invokevirtual 73, 3) := by decide +kernel
theorem dX12_init_314 : decode cX12_init 314 = .ok (.if_icmp .ge 22, 3) := by decide +kernel
theorem dX12_init_317 : decode cX12_init 317 = .ok (.aload_n 0, 1) := by decide +kernel
theorem dX12_init_318 : decode cX12_init 318 = .ok (.getfield 79, 3) := by decide +kernel
theorem dX12_init_32 : decode cX12_init 32 = .ok (.putfield 19, 3) := by decide +kernel
theorem dX12_init_321 : decode cX12_init 321 = .ok (.iload_n 1, 1) := by decide +kernel
theorem dX12_init_322 : decode cX12_init 322 = .ok (.ldc 71, 2) := by decide +kernel
theorem dX12_init_324 : decode cX12_init 324 = .ok (.iload_n 1, 1) := by decide +kernel
theorem dX12_init_325 : decode cX12_init 325 = .ok (.invokevirtual 135, 3) := by decide +kernel
theorem dX12_init_328 : decode cX12_init 328 = .ok (.i2b, 1) := by decide +kernel
theorem dX12_init_329 : decode cX12_init 329 = .ok (.bastore, 1) := by decide +kernel
theorem dX12_init_330 : decode cX12_init 330 = .ok (.iinc 1 1, 3) := by decide +kernel
theorem dX12_init_333 : decode cX12_init 333 = .ok (.goto (-25), 3) := by decide +kernel
theorem dX12_init_336 : decode cX12_init 336 = .ok (.return_, 1) := by decide +kernel
theorem dX12_init_35 : decode cX12_init 35 = .ok (.aload_n 0, 1) := by decide +kernel
theorem dX12_init_36 : decode cX12_init 36 = .ok (.bipush 31, 2) := by decide +kernel
theorem dX12_init_38 : decode cX12_init 38 = .ok (.newarray .int, 2) := by decide +kernel
theorem dX12_init_4 : decode cX12_init 4 = .ok (.aload_n 0, 1) := by decide +kernel
theorem dX12_init_40 : decode cX12_init 40 = .ok (.putfield 22, 3) := by decide +kernel
theorem dX12_init_43 : decode cX12_init 43 = .ok (.aload_n 0, 1) := by decide +kernel
theorem dX12_init_44 : decode cX12_init 44 = .ok (.bipush 31, 2) := by decide +kernel
theorem dX12_init_46 : decode cX12_init 46 = .ok (.newarray .int, 2) := by decide +kernel
theorem dX12_init_48 : decode cX12_init 48 = .ok (.putfield 25, 3) := by decide +kernel
theorem dX12_init_5 : decode cX12_init 5 = .ok (.iconst 4, 1) := by decide +kernel
theorem dX12_init_51 : decode cX12_init 51 = .ok (.aload_n 0, 1) := by decide +kernel
theorem dX12_init_52 : decode cX12_init 52 = .ok (.bipush 31, 2) := by decide +kernel
theorem dX12_init_54 : decode cX12_init 54 = .ok (.newarray .int, 2) := by decide +kernel
theorem dX12_init_56 : decode cX12_init 56 = .ok (.putfield 28, 3) := by decide +kernel
theorem dX12_init_59 : decode cX12_init 59 = .ok (.aload_n 0, 1) := by decide +kernel
theorem dX12_init_6 : decode cX12_init 6 = .ok (.newarray .int, 2) := by decide +kernel
theorem dX12_init_60 : decode cX12_init 60 = .ok (.bipush 30, 2) := by decide +kernel
theorem dX12_init_62 : decode cX12_init 62 = .ok (.newarray .int, 2) := by decide +kernel
theorem dX12_init_64 : decode cX12_init 64 = .ok (.putfield 31, 3) := by decide +kernel
theorem dX12_init_67 : decode cX12_init 67 = .ok (.aload_n 0, 1) := by decide +kernel
theorem dX12_init_68 : decode cX12_init 68 = .ok (.bipush 30, 2) := by decide +kernel
theorem dX12_init_70 : decode cX12_init 70 = .ok (.newarray .int, 2) := by decide +kernel
theorem dX12_init_72 : decode cX12_init 72 = .ok (.putfield 34, 3) := by decide +kernel
theorem dX12_init_75 : decode cX12_init 75 = .ok (.aload_n 0, 1) := by decide +kernel
theorem dX12_init_76 : decode cX12_init 76 = .ok (.bipush 30, 2) := by decide +kernel
theorem dX12_init_78 : decode cX12_init 78 = .ok (.newarray .int, 2) := by decide +kernel
theorem dX12_init_8 : decode cX12_init 8 = .ok (.putfield 9, 3) := by decide +kernel
theorem dX12_init_80 : decode cX12_init 80 = .ok (.putfield 37, 3) := by decide +kernel
theorem dX12_init_83 : decode cX12_init 83 = .ok (.aload_n 0, 1) := by decide +kernel
theorem dX12_init_84 : decode cX12_init 84 = .ok (.bipush 30, 2) := by decide +kernel
theorem dX12_init_86 : decode cX12_init 86 = .ok (.newarray .int, 2) := by decide +kernel
theorem dX12_init_88 : decode cX12_init 88 = .ok (.putfield 40, 3) := by decide +kernel
theorem dX12_init_91 : decode cX12_init 91 = .ok (.aload_n 0, 1) := by decide +kernel
theorem dX12_init_92 : decode cX12_init 92 = .ok (.bipush 30, 2) := by decide +kernel
theorem dX12_init_94 : decode cX12_init 94 = .ok (.newarray .int, 2) := by decide +kernel
theorem dX12_init_96 : decode cX12_init 96 = .ok (.putfield 43, 3) := by decide +kernel
theorem dX12_init_99 : decode cX12_init 99 = .ok (.aload_n 0, 1) := by decide +kernel
theorem dX12_isDigit_0 : decode cX12_isDigit 0 = .ok (.aload_n 0, 1) := by decide +kernel
theorem dX12_isDigit_1 : decode cX12_isDigit 1 = .ok (.invokevirtual 211, 3) := by decide +kernel
theorem dX12_isDigit_22 : decode cX12_isDigit 22 = .ok (.iconst 0, 1) := by decide +kernel
theorem dX12_isDigit_23 : decode cX12_isDigit 23 = .ok (.ireturn, 1) := by decide +kernel
theorem dX12_isDigit_4 : decode cX12_isDigit 4 = .ok (.bipush 48, 2) := by decide +kernel
theorem dX12_isDigit_6 : decode cX12_isDigit 6 = .ok (.if_icmp .lt 16, 3) := by decide +kernel
theorem dX12_isHand_0 : decode cX12_isHand 0 = .ok (.iload_n 1, 1) := by decide +kernel
theorem dX12_isHand_1 : decode cX12_isHand 1 = .ok (.iconst 0, 1) := by decide +kernel
theorem dX12_isHand_11 : decode cX12_isHand 11 = .ok (.ireturn, 1) := by decide +kernel
theorem dX12_isHand_2 : decode cX12_isHand 2 = .ok (.aload_n 0, 1) := by decide +kernel
theorem dX12_isHand_3 : decode cX12_isHand 3 = .ok (.getfield 142, 3) := by decide +kernel
theorem dX12_isHand_6 : decode cX12_isHand 6 = .ok (.iconst 1, 1) := by decide +kernel
theorem dX12_isHand_7 : decode cX12_isHand 7 = .ok (.isub, 1) := by decide +kernel
theorem dX12_isHand_8 : decode cX12_isHand 8 = .ok (.invokestatic 145, 3) := by decide +kernel
theorem dX12_isPiece_0 : decode cX12_isPiece 0 = .ok (.iload_n 1, 1) := by decide +kernel
theorem dX12_isPiece_1 : decode cX12_isPiece 1 = .ok (.iconst 0, 1) := by decide +kernel
theorem dX12_isPiece_11 : decode cX12_isPiece 11 = .ok (.ireturn, 1) := by decide +kernel
theorem dX12_isPiece_2 : decode cX12_isPiece 2 = .ok (.aload_n 0, 1) := by decide +kernel
theorem dX12_isPiece_3 : decode cX12_isPiece 3 = .ok (.getfield 149, 3) := by decide +kernel
theorem dX12_isPiece_6 : decode cX12_isPiece 6 = .ok (.iconst 1, 1) := by decide +kernel
theorem dX12_isPiece_7 : decode cX12_isPiece 7 = .ok (.isub, 1) := by decide +kernel
theorem dX12_isPiece_8 : decode cX12_isPiece 8 = .ok (.invokestatic 145, 3) := by decide +kernel
theorem dX12_isWrong_0 : decode cX12_isWrong 0 = .ok (.aload_n 0, 1) := by decide +kernel
theorem dX12_isWrong_1 : decode cX12_isWrong 1 = .ok (.getfield 200, 3) := by decide +kernel
theorem dX12_isWrong_10 : decode cX12_isWrong 10 = .ok (.getfield 197, 3) := by decide +kernel
theorem dX12_isWrong_13 : decode cX12_isWrong 13 = .ok (.putfield 200, 3) := by decide +kernel
theorem dX12_isWrong_16 : decode cX12_isWrong 16 = .ok (.iconst 0, 1) := by decide +kernel
theorem dX12_isWrong_17 : decode cX12_isWrong 17 = .ok (.ireturn, 1) := by decide +kernel
theorem dX12_isWrong_4 : decode cX12_isWrong 4 = .ok (.iconst (-1), 1) := by decide +kernel
theorem dX12_isWrong_5 : decode cX12_isWrong 5 = .ok (.if_icmp .ne 11, 3) := by decide +kernel
theorem dX12_isWrong_8 : decode cX12_isWrong 8 = .ok (.aload_n 0, 1) := by decide +kernel
theorem dX12_isWrong_9 : decode cX12_isWrong 9 = .ok (.aload_n 0, 1) := by decide +kernel
theorem dX12_lateness_0 : decode cX12_lateness 0 = .ok (.aload_n 0, 1) := by decide +kernel
theorem dX12_lateness_1 : decode cX12_lateness 1 = .ok (.iconst 0, 1) := by decide +kernel
theorem dX12_lateness_11 : decode cX12_lateness 11 = .ok (.istore_n 3, 1) := by decide +kernel
theorem dX12_lateness_12 : decode cX12_lateness 12 = .ok (.iload_n 3, 1) := by decide +kernel
theorem dX12_lateness_13 : decode cX12_lateness 13 = .ok (.ifCond .ge 7, 3) := by decide +kernel
theorem dX12_lateness_16 : decode cX12_lateness 16 = .ok (.iload_n 3, 1) := by decide +kernel
theorem dX12_lateness_17 : decode cX12_lateness 17 = .ok (.goto 7, 3) := by decide +kernel
theorem dX12_lateness_2 : decode cX12_lateness 2 = .ok (.putfield 139, 3) := by decide +kernel
theorem dX12_lateness_24 : decode cX12_lateness 24 = .ok (.ireturn, 1) := by decide +kernel
theorem dX12_lateness_5 : decode cX12_lateness 5 = .ok (.aload_n 0, 1) := by decide +kernel
theorem dX12_lateness_6 : decode cX12_lateness 6 = .ok (.iload_n 1, 1) := by decide +kernel
theorem dX12_lateness_7 : decode cX12_lateness 7 = .ok (.iload_n 2, 1) := by decide +kernel
theorem dX12_lateness_8 : decode cX12_lateness 8 = .ok (.invokevirtual 376, 3) := by decide +kernel
theorem dX12_lates_0 : decode cX12_lates 0 = .ok (.iconst 0, 1) := by decide +kernel
theorem dX12_lates_1 : decode cX12_lates 1 = .ok (.istore_n 1, 1) := by decide +kernel
theorem dX12_lates_2 : decode cX12_lates 2 = .ok (.iconst 0, 1) := by decide +kernel
theorem dX12_lates_29 : decode cX12_lates 29 = .ok (.iload_n 1, 1) := by decide +kernel
theorem dX12_lates_3 : decode cX12_lates 3 = .ok (.istore_n 2, 1) := by decide +kernel
theorem dX12_lates_30 : decode cX12_lates 30 = .ok (.ireturn, 1) := by decide +kernel
theorem dX12_lates_4 : decode cX12_lates 4 = .ok (.iload_n 2, 1) := by decide +kernel
theorem dX12_lates_5 : decode cX12_lates 5 = .ok (.aload_n 0, 1) := by decide +kernel
theorem dX12_lates_6 : decode cX12_lates 6 = .ok (.getfield 149, 3) := by decide +kernel
theorem dX12_lates_9 : decode cX12_lates 9 = .ok (.if_icmp .ge 20, 3) := by decide +kernel
theorem dX12_left_0 : decode cX12_left 0 = .ok (.aload_n 0, 1) := by decide +kernel
theorem dX12_left_1 : decode cX12_left 1 = .ok (.iconst 0, 1) := by decide +kernel
theorem dX12_left_10 : decode cX12_left 10 = .ok (.ifCond .eq 12, 3) := by decide +kernel
theorem dX12_left_2 : decode cX12_left 2 = .ok (.putfield 139, 3) := by decide +kernel
theorem dX12_left_22 : decode cX12_left 22 = .ok (.iconst (-1), 1) := by decide +kernel
theorem dX12_left_23 : decode cX12_left 23 = .ok (.ireturn, 1) := by decide +kernel
theorem dX12_left_5 : decode cX12_left 5 = .ok (.aload_n 0, 1) := by decide +kernel
theorem dX12_left_6 : decode cX12_left 6 = .ok (.iload_n 1, 1) := by decide +kernel
theorem dX12_left_7 : decode cX12_left 7 = .ok (.invokevirtual 315, 3) := by decide +kernel
theorem dX12_lost_0 : decode cX12_lost 0 = .ok (.aload_n 0, 1) := by decide +kernel
theorem dX12_lost_1 : decode cX12_lost 1 = .ok (.iconst 1, 1) := by decide +kernel
theorem dX12_lost_2 : decode cX12_lost 2 = .ok (.putfield 139, 3) := by decide +kernel
theorem dX12_lost_5 : decode cX12_lost 5 = .ok (.iconst 0, 1) := by decide +kernel
theorem dX12_lost_6 : decode cX12_lost 6 = .ok (.ireturn, 1) := by decide +kernel
theorem dX12_may_0 : decode cX12_may 0 = .ok (.aload_n 0, 1) := by decide +kernel
theorem dX12_may_1 : decode cX12_may 1 = .ok (.iconst 0, 1) := by decide +kernel
theorem dX12_may_10 : decode cX12_may 10 = .ok (.ifCond .eq 28, 3) := by decide +kernel
theorem dX12_may_2 : decode cX12_may 2 = .ok (.putfield 139, 3) := by decide +kernel
theorem dX12_may_38 : decode cX12_may 38 = .ok (.iconst (-1), 1) := by decide +kernel
theorem dX12_may_39 : decode cX12_may 39 = .ok (.ireturn, 1) := by decide +kernel
theorem dX12_may_5 : decode cX12_may 5 = .ok (.aload_n 0, 1) := by decide +kernel
theorem dX12_may_6 : decode cX12_may 6 = .ok (.iload_n 1, 1) := by decide +kernel
theorem dX12_may_7 : decode cX12_may 7 = .ok (.invokevirtual 160, 3) := by decide +kernel
theorem dX12_names_0 : decode cX12_names 0 = .ok (.iload_n 0, 1) := by decide +kernel
theorem dX12_names_1 : decode cX12_names 1 = .ok (.tableswitch 36 0 2 #[27, 30, 33], 27) := by decide +kernel
theorem dX12_names_28 : decode cX12_names 28 = .ok (.ldc 180, 2) := by decide +kernel
theorem dX12_names_30 : decode cX12_names 30 = .ok (.areturn, 1) := by decide +kernel
theorem dX12_names_31 : decode cX12_names 31 = .ok (.ldc 182, 2) := by decide +kernel
theorem dX12_names_33 : decode cX12_names 33 = .ok (.areturn, 1) := by decide +kernel
theorem dX12_names_34 : decode cX12_names 34 = .ok (.ldc 184, 2) := by decide +kernel
theorem dX12_names_36 : decode cX12_names 36 = .ok (.areturn, 1) := by decide +kernel
theorem dX12_names_37 : decode cX12_names 37 = .ok (.ldc 186, 2) := by decide +kernel
theorem dX12_names_39 : decode cX12_names 39 = .ok (.areturn, 1) := by decide +kernel
theorem dX12_now_0 : decode cX12_now 0 = .ok (.aload_n 0, 1) := by decide +kernel
theorem dX12_now_1 : decode cX12_now 1 = .ok (.getfield 107, 3) := by decide +kernel
theorem dX12_now_4 : decode cX12_now 4 = .ok (.iconst 0, 1) := by decide +kernel
theorem dX12_now_5 : decode cX12_now 5 = .ok (.iaload, 1) := by decide +kernel
theorem dX12_now_6 : decode cX12_now 6 = .ok (.ireturn, 1) := by decide +kernel
theorem dX12_of_0 : decode cX12_of 0 = .ok (.aload_n 0, 1) := by decide +kernel
theorem dX12_of_1 : decode cX12_of 1 = .ok (.iconst 0, 1) := by decide +kernel
theorem dX12_of_10 : decode cX12_of 10 = .ok (.ifCond .eq 13, 3) := by decide +kernel
theorem dX12_of_2 : decode cX12_of 2 = .ok (.putfield 139, 3) := by decide +kernel
theorem dX12_of_23 : decode cX12_of 23 = .ok (.aload_n 0, 1) := by decide +kernel
theorem dX12_of_24 : decode cX12_of 24 = .ok (.invokevirtual 312, 3) := by decide +kernel
theorem dX12_of_27 : decode cX12_of 27 = .ok (.ireturn, 1) := by decide +kernel
theorem dX12_of_5 : decode cX12_of 5 = .ok (.aload_n 0, 1) := by decide +kernel
theorem dX12_of_6 : decode cX12_of 6 = .ok (.iload_n 1, 1) := by decide +kernel
theorem dX12_of_7 : decode cX12_of 7 = .ok (.invokevirtual 160, 3) := by decide +kernel
theorem dX12_open_0 : decode cX12_open 0 = .ok (.aload_n 0, 1) := by decide +kernel
theorem dX12_open_1 : decode cX12_open 1 = .ok (.aload_n 1, 1) := by decide +kernel
theorem dX12_open_10 : decode cX12_open 10 = .ok (.aload_n 0, 1) := by decide +kernel
theorem dX12_open_11 : decode cX12_open 11 = .ok (.iload_n 3, 1) := by decide +kernel
theorem dX12_open_12 : decode cX12_open 12 = .ok (.putfield 194, 3) := by decide +kernel
theorem dX12_open_15 : decode cX12_open 15 = .ok (.aload_n 0, 1) := by decide +kernel
theorem dX12_open_16 : decode cX12_open 16 = .ok (.iconst 0, 1) := by decide +kernel
theorem dX12_open_17 : decode cX12_open 17 = .ok (.putfield 197, 3) := by decide +kernel
theorem dX12_open_2 : decode cX12_open 2 = .ok (.putfield 188, 3) := by decide +kernel
theorem dX12_open_20 : decode cX12_open 20 = .ok (.aload_n 0, 1) := by decide +kernel
theorem dX12_open_21 : decode cX12_open 21 = .ok (.iconst (-1), 1) := by decide +kernel
theorem dX12_open_22 : decode cX12_open 22 = .ok (.putfield 200, 3) := by decide +kernel
theorem dX12_open_25 : decode cX12_open 25 = .ok (.aload_n 0, 1) := by decide +kernel
theorem dX12_open_26 : decode cX12_open 26 = .ok (.iload 4, 2) := by decide +kernel
theorem dX12_open_28 : decode cX12_open 28 = .ok (.invokestatic 203, 3) := by decide +kernel
theorem dX12_open_31 : decode cX12_open 31 = .ok (.putfield 207, 3) := by decide +kernel
theorem dX12_open_34 : decode cX12_open 34 = .ok (.return_, 1) := by decide +kernel
theorem dX12_open_5 : decode cX12_open 5 = .ok (.aload_n 0, 1) := by decide +kernel
theorem dX12_open_6 : decode cX12_open 6 = .ok (.iload_n 2, 1) := by decide +kernel
theorem dX12_open_7 : decode cX12_open 7 = .ok (.putfield 191, 3) := by decide +kernel
theorem dX12_order_0 : decode cX12_order 0 = .ok (.aload_n 0, 1) := by decide +kernel
theorem dX12_order_1 : decode cX12_order 1 = .ok (.iconst 0, 1) := by decide +kernel
theorem dX12_order_10 : decode cX12_order 10 = .ok (.ifCond .eq 20, 3) := by decide +kernel
theorem dX12_order_2 : decode cX12_order 2 = .ok (.putfield 139, 3) := by decide +kernel
theorem dX12_order_30 : decode cX12_order 30 = .ok (.aload_n 0, 1) := by decide +kernel
theorem dX12_order_31 : decode cX12_order 31 = .ok (.invokevirtual 312, 3) := by decide +kernel
theorem dX12_order_34 : decode cX12_order 34 = .ok (.ireturn, 1) := by decide +kernel
theorem dX12_order_5 : decode cX12_order 5 = .ok (.aload_n 0, 1) := by decide +kernel
theorem dX12_order_6 : decode cX12_order 6 = .ok (.iload_n 1, 1) := by decide +kernel
theorem dX12_order_7 : decode cX12_order 7 = .ok (.invokevirtual 160, 3) := by decide +kernel
theorem dX12_pay_0 : decode cX12_pay 0 = .ok (.aload_n 0, 1) := by decide +kernel
theorem dX12_pay_1 : decode cX12_pay 1 = .ok (.iconst 0, 1) := by decide +kernel
theorem dX12_pay_10 : decode cX12_pay 10 = .ok (.ifCond .eq 11, 3) := by decide +kernel
theorem dX12_pay_2 : decode cX12_pay 2 = .ok (.putfield 139, 3) := by decide +kernel
theorem dX12_pay_21 : decode cX12_pay 21 = .ok (.aload_n 0, 1) := by decide +kernel
theorem dX12_pay_22 : decode cX12_pay 22 = .ok (.invokevirtual 312, 3) := by decide +kernel
theorem dX12_pay_25 : decode cX12_pay 25 = .ok (.ireturn, 1) := by decide +kernel
theorem dX12_pay_5 : decode cX12_pay 5 = .ok (.aload_n 0, 1) := by decide +kernel
theorem dX12_pay_6 : decode cX12_pay 6 = .ok (.iload_n 1, 1) := by decide +kernel
theorem dX12_pay_7 : decode cX12_pay 7 = .ok (.invokevirtual 315, 3) := by decide +kernel
theorem dX12_piece__0 : decode cX12_piece_ 0 = .ok (.aload_n 0, 1) := by decide +kernel
theorem dX12_piece__1 : decode cX12_piece_ 1 = .ok (.getfield 107, 3) := by decide +kernel
theorem dX12_piece__10 : decode cX12_piece_ 10 = .ok (.iload_n 2, 1) := by decide +kernel
theorem dX12_piece__11 : decode cX12_piece_ 11 = .ok (.iadd, 1) := by decide +kernel
theorem dX12_piece__12 : decode cX12_piece_ 12 = .ok (.iload_n 3, 1) := by decide +kernel
theorem dX12_piece__13 : decode cX12_piece_ 13 = .ok (.iastore, 1) := by decide +kernel
theorem dX12_piece__14 : decode cX12_piece_ 14 = .ok (.return_, 1) := by decide +kernel
theorem dX12_piece__4 : decode cX12_piece_ 4 = .ok (.bipush 49, 2) := by decide +kernel
theorem dX12_piece__6 : decode cX12_piece_ 6 = .ok (.iconst 5, 1) := by decide +kernel
theorem dX12_piece__7 : decode cX12_piece_ 7 = .ok (.iload_n 1, 1) := by decide +kernel
theorem dX12_piece__8 : decode cX12_piece_ 8 = .ok (.imul, 1) := by decide +kernel
theorem dX12_piece__9 : decode cX12_piece_ 9 = .ok (.iadd, 1) := by decide +kernel
theorem dX12_piece___0 : decode cX12_piece__ 0 = .ok (.aload_n 0, 1) := by decide +kernel
theorem dX12_piece___1 : decode cX12_piece__ 1 = .ok (.iconst 0, 1) := by decide +kernel
theorem dX12_piece___101 : decode cX12_piece__ 101 = .ok (.invokestatic 145, 3) := by decide +kernel
theorem dX12_piece___104 : decode cX12_piece__ 104 = .ok (.ifCond .eq 12, 3) := by decide +kernel
theorem dX12_piece___107 : decode cX12_piece__ 107 = .ok (.aload_n 0, 1) := by decide +kernel
theorem dX12_piece___108 : decode cX12_piece__ 108 = .ok (.getfield 149, 3) := by decide +kernel
theorem dX12_piece___111 : decode cX12_piece__ 111 = .ok (.bipush 30, 2) := by decide +kernel
theorem dX12_piece___113 : decode cX12_piece__ 113 = .ok (.if_icmp .ne 5, 3) := by decide +kernel
theorem dX12_piece___116 : decode cX12_piece__ 116 = .ok (.iconst (-1), 1) := by decide +kernel
theorem dX12_piece___117 : decode cX12_piece__ 117 = .ok (.ireturn, 1) := by decide +kernel
theorem dX12_piece___118 : decode cX12_piece__ 118 = .ok (.aload_n 0, 1) := by decide +kernel
theorem dX12_piece___119 : decode cX12_piece__ 119 = .ok (.getfield 31, 3) := by decide +kernel
theorem dX12_piece___12 : decode cX12_piece__ 12 = .ok (.ifCond .eq 104, 3) := by decide +kernel
theorem dX12_piece___122 : decode cX12_piece__ 122 = .ok (.aload_n 0, 1) := by decide +kernel
theorem dX12_piece___123 : decode cX12_piece__ 123 = .ok (.getfield 149, 3) := by decide +kernel
theorem dX12_piece___126 : decode cX12_piece__ 126 = .ok (.iload_n 1, 1) := by decide +kernel
theorem dX12_piece___127 : decode cX12_piece__ 127 = .ok (.iastore, 1) := by decide +kernel
theorem dX12_piece___128 : decode cX12_piece__ 128 = .ok (.aload_n 0, 1) := by decide +kernel
theorem dX12_piece___129 : decode cX12_piece__ 129 = .ok (.getfield 34, 3) := by decide +kernel
theorem dX12_piece___132 : decode cX12_piece__ 132 = .ok (.aload_n 0, 1) := by decide +kernel
theorem dX12_piece___133 : decode cX12_piece__ 133 = .ok (.getfield 149, 3) := by decide +kernel
theorem dX12_piece___136 : decode cX12_piece__ 136 = .ok (.iload_n 2, 1) := by decide +kernel
theorem dX12_piece___137 : decode cX12_piece__ 137 = .ok (.iastore, 1) := by decide +kernel
theorem dX12_piece___138 : decode cX12_piece__ 138 = .ok (.aload_n 0, 1) := by decide +kernel
theorem dX12_piece___139 : decode cX12_piece__ 139 = .ok (.getfield 37, 3) := by decide +kernel
theorem dX12_piece___142 : decode cX12_piece__ 142 = .ok (.aload_n 0, 1) := by decide +kernel
theorem dX12_piece___143 : decode cX12_piece__ 143 = .ok (.getfield 149, 3) := by decide +kernel
theorem dX12_piece___146 : decode cX12_piece__ 146 = .ok (.iload_n 3, 1) := by decide +kernel
theorem dX12_piece___147 : decode cX12_piece__ 147 = .ok (.iastore, 1) := by decide +kernel
theorem dX12_piece___148 : decode cX12_piece__ 148 = .ok (.aload_n 0, 1) := by decide +kernel
theorem dX12_piece___149 : decode cX12_piece__ 149 = .ok (.getfield 40, 3) := by decide +kernel
theorem dX12_piece___15 : decode cX12_piece__ 15 = .ok (.iload_n 2, 1) := by decide +kernel
theorem dX12_piece___152 : decode cX12_piece__ 152 = .ok (.aload_n 0, 1) := by decide +kernel
theorem dX12_piece___153 : decode cX12_piece__ 153 = .ok (.getfield 149, 3) := by decide +kernel
theorem dX12_piece___156 : decode cX12_piece__ 156 = .ok (.iload 4, 2) := by decide +kernel
theorem dX12_piece___158 : decode cX12_piece__ 158 = .ok (.iastore, 1) := by decide +kernel
theorem dX12_piece___159 : decode cX12_piece__ 159 = .ok (.aload_n 0, 1) := by decide +kernel
theorem dX12_piece___16 : decode cX12_piece__ 16 = .ok (.iconst 0, 1) := by decide +kernel
theorem dX12_piece___160 : decode cX12_piece__ 160 = .ok (.getfield 43, 3) := by decide +kernel
theorem dX12_piece___163 : decode cX12_piece__ 163 = .ok (.aload_n 0, 1) := by decide +kernel
theorem dX12_piece___164 : decode cX12_piece__ 164 = .ok (.getfield 149, 3) := by decide +kernel
theorem dX12_piece___167 : decode cX12_piece__ 167 = .ok (.iload 5, 2) := by decide +kernel
theorem dX12_piece___169 : decode cX12_piece__ 169 = .ok (.iastore, 1) := by decide +kernel
theorem dX12_piece___17 : decode cX12_piece__ 17 = .ok (.bipush 7, 2) := by decide +kernel
theorem dX12_piece___170 : decode cX12_piece__ 170 = .ok (.aload_n 0, 1) := by decide +kernel
theorem dX12_piece___171 : decode cX12_piece__ 171 = .ok (.getfield 46, 3) := by decide +kernel
theorem dX12_piece___174 : decode cX12_piece__ 174 = .ok (.aload_n 0, 1) := by decide +kernel
theorem dX12_piece___175 : decode cX12_piece__ 175 = .ok (.getfield 149, 3) := by decide +kernel
theorem dX12_piece___178 : decode cX12_piece__ 178 = .ok (.iload 6, 2) := by decide +kernel
theorem dX12_piece___180 : decode cX12_piece__ 180 = .ok (.iastore, 1) := by decide +kernel
theorem dX12_piece___181 : decode cX12_piece__ 181 = .ok (.aload_n 0, 1) := by decide +kernel
theorem dX12_piece___182 : decode cX12_piece__ 182 = .ok (.getfield 49, 3) := by decide +kernel
theorem dX12_piece___185 : decode cX12_piece__ 185 = .ok (.aload_n 0, 1) := by decide +kernel
theorem dX12_piece___186 : decode cX12_piece__ 186 = .ok (.getfield 149, 3) := by decide +kernel
theorem dX12_piece___189 : decode cX12_piece__ 189 = .ok (.iload 7, 2) := by decide +kernel
theorem dX12_piece___19 : decode cX12_piece__ 19 = .ok (.invokestatic 145, 3) := by decide +kernel
theorem dX12_piece___191 : decode cX12_piece__ 191 = .ok (.iastore, 1) := by decide +kernel
theorem dX12_piece___192 : decode cX12_piece__ 192 = .ok (.aload_n 0, 1) := by decide +kernel
theorem dX12_piece___193 : decode cX12_piece__ 193 = .ok (.getfield 52, 3) := by decide +kernel
theorem dX12_piece___196 : decode cX12_piece__ 196 = .ok (.aload_n 0, 1) := by decide +kernel
theorem dX12_piece___197 : decode cX12_piece__ 197 = .ok (.getfield 149, 3) := by decide +kernel
theorem dX12_piece___2 : decode cX12_piece__ 2 = .ok (.putfield 139, 3) := by decide +kernel
theorem dX12_piece___200 : decode cX12_piece__ 200 = .ok (.iload 8, 2) := by decide +kernel
theorem dX12_piece___202 : decode cX12_piece__ 202 = .ok (.iastore, 1) := by decide +kernel
theorem dX12_piece___203 : decode cX12_piece__ 203 = .ok (.aload_n 0, 1) := by decide +kernel
theorem dX12_piece___204 : decode cX12_piece__ 204 = .ok (.getfield 55, 3) := by decide +kernel
theorem dX12_piece___207 : decode cX12_piece__ 207 = .ok (.aload_n 0, 1) := by decide +kernel
theorem dX12_piece___208 : decode cX12_piece__ 208 = .ok (.getfield 149, 3) := by decide +kernel
theorem dX12_piece___211 : decode cX12_piece__ 211 = .ok (.iload 9, 2) := by decide +kernel
theorem dX12_piece___213 : decode cX12_piece__ 213 = .ok (.iastore, 1) := by decide +kernel
theorem dX12_piece___214 : decode cX12_piece__ 214 = .ok (.aload_n 0, 1) := by decide +kernel
theorem dX12_piece___215 : decode cX12_piece__ 215 = .ok (.aload_n 0, 1) := by decide +kernel
theorem dX12_piece___216 : decode cX12_piece__ 216 = .ok (.getfield 149, 3) := by decide +kernel
theorem dX12_piece___219 : decode cX12_piece__ 219 = .ok (.iconst 0, 1) := by decide +kernel
theorem dX12_piece___22 : decode cX12_piece__ 22 = .ok (.ifCond .eq 94, 3) := by decide +kernel
theorem dX12_piece___220 : decode cX12_piece__ 220 = .ok (.iconst (-1), 1) := by decide +kernel
theorem dX12_piece___221 : decode cX12_piece__ 221 = .ok (.invokevirtual 170, 3) := by decide +kernel
theorem dX12_piece___224 : decode cX12_piece__ 224 = .ok (.aload_n 0, 1) := by decide +kernel
theorem dX12_piece___225 : decode cX12_piece__ 225 = .ok (.aload_n 0, 1) := by decide +kernel
theorem dX12_piece___226 : decode cX12_piece__ 226 = .ok (.getfield 149, 3) := by decide +kernel
theorem dX12_piece___229 : decode cX12_piece__ 229 = .ok (.iconst 1, 1) := by decide +kernel
theorem dX12_piece___230 : decode cX12_piece__ 230 = .ok (.iconst (-1), 1) := by decide +kernel
theorem dX12_piece___231 : decode cX12_piece__ 231 = .ok (.invokevirtual 170, 3) := by decide +kernel
theorem dX12_piece___234 : decode cX12_piece__ 234 = .ok (.aload_n 0, 1) := by decide +kernel
theorem dX12_piece___235 : decode cX12_piece__ 235 = .ok (.aload_n 0, 1) := by decide +kernel
theorem dX12_piece___236 : decode cX12_piece__ 236 = .ok (.getfield 149, 3) := by decide +kernel
theorem dX12_piece___239 : decode cX12_piece__ 239 = .ok (.iconst 2, 1) := by decide +kernel
theorem dX12_piece___240 : decode cX12_piece__ 240 = .ok (.iconst (-1), 1) := by decide +kernel
theorem dX12_piece___241 : decode cX12_piece__ 241 = .ok (.invokevirtual 170, 3) := by decide +kernel
theorem dX12_piece___244 : decode cX12_piece__ 244 = .ok (.aload_n 0, 1) := by decide +kernel
theorem dX12_piece___245 : decode cX12_piece__ 245 = .ok (.aload_n 0, 1) := by decide +kernel
theorem dX12_piece___246 : decode cX12_piece__ 246 = .ok (.getfield 149, 3) := by decide +kernel
theorem dX12_piece___249 : decode cX12_piece__ 249 = .ok (.iconst 3, 1) := by decide +kernel
theorem dX12_piece___25 : decode cX12_piece__ 25 = .ok (.iload_n 3, 1) := by decide +kernel
theorem dX12_piece___250 : decode cX12_piece__ 250 = .ok (.aload_n 0, 1) := by decide +kernel
theorem dX12_piece___251 : decode cX12_piece__ 251 = .ok (.aload_n 0, 1) := by decide +kernel
theorem dX12_piece___252 : decode cX12_piece__ 252 = .ok (.getfield 149, 3) := by decide +kernel
theorem dX12_piece___255 : decode cX12_piece__ 255 = .ok (.invokevirtual 173, 3) := by decide +kernel
theorem dX12_piece___258 : decode cX12_piece__ 258 = .ok (.invokevirtual 170, 3) := by decide +kernel
theorem dX12_piece___26 : decode cX12_piece__ 26 = .ok (.iconst 1, 1) := by decide +kernel
theorem dX12_piece___261 : decode cX12_piece__ 261 = .ok (.aload_n 0, 1) := by decide +kernel
theorem dX12_piece___262 : decode cX12_piece__ 262 = .ok (.dup, 1) := by decide +kernel
theorem dX12_piece___263 : decode cX12_piece__ 263 = .ok (.getfield 149, 3) := by decide +kernel
theorem dX12_piece___266 : decode cX12_piece__ 266 = .ok (.iconst 1, 1) := by decide +kernel
theorem dX12_piece___267 : decode cX12_piece__ 267 = .ok (.iadd, 1) := by decide +kernel
theorem dX12_piece___268 : decode cX12_piece__ 268 = .ok (.putfield 149, 3) := by decide +kernel
theorem dX12_piece___27 : decode cX12_piece__ 27 = .ok (.sipush 400, 3) := by decide +kernel
theorem dX12_piece___271 : decode cX12_piece__ 271 = .ok (.aload_n 0, 1) := by decide +kernel
theorem dX12_piece___272 : decode cX12_piece__ 272 = .ok (.getfield 149, 3) := by decide +kernel
theorem dX12_piece___275 : decode cX12_piece__ 275 = .ok (.iconst 1, 1) := by decide +kernel
theorem dX12_piece___276 : decode cX12_piece__ 276 = .ok (.isub, 1) := by decide +kernel
theorem dX12_piece___277 : decode cX12_piece__ 277 = .ok (.ireturn, 1) := by decide +kernel
theorem dX12_piece___30 : decode cX12_piece__ 30 = .ok (.invokestatic 145, 3) := by decide +kernel
theorem dX12_piece___33 : decode cX12_piece__ 33 = .ok (.ifCond .eq 83, 3) := by decide +kernel
theorem dX12_piece___36 : decode cX12_piece__ 36 = .ok (.iload 4, 2) := by decide +kernel
theorem dX12_piece___38 : decode cX12_piece__ 38 = .ok (.iconst 0, 1) := by decide +kernel
theorem dX12_piece___39 : decode cX12_piece__ 39 = .ok (.iconst 3, 1) := by decide +kernel
theorem dX12_piece___40 : decode cX12_piece__ 40 = .ok (.invokestatic 145, 3) := by decide +kernel
theorem dX12_piece___43 : decode cX12_piece__ 43 = .ok (.ifCond .eq 73, 3) := by decide +kernel
theorem dX12_piece___46 : decode cX12_piece__ 46 = .ok (.iload 5, 2) := by decide +kernel
theorem dX12_piece___48 : decode cX12_piece__ 48 = .ok (.iconst 0, 1) := by decide +kernel
theorem dX12_piece___49 : decode cX12_piece__ 49 = .ok (.bipush 9, 2) := by decide +kernel
theorem dX12_piece___5 : decode cX12_piece__ 5 = .ok (.iload_n 1, 1) := by decide +kernel
theorem dX12_piece___51 : decode cX12_piece__ 51 = .ok (.invokestatic 145, 3) := by decide +kernel
theorem dX12_piece___54 : decode cX12_piece__ 54 = .ok (.ifCond .eq 62, 3) := by decide +kernel
theorem dX12_piece___57 : decode cX12_piece__ 57 = .ok (.iload 6, 2) := by decide +kernel
theorem dX12_piece___59 : decode cX12_piece__ 59 = .ok (.aload_n 0, 1) := by decide +kernel
theorem dX12_piece___6 : decode cX12_piece__ 6 = .ok (.iconst 0, 1) := by decide +kernel
theorem dX12_piece___60 : decode cX12_piece__ 60 = .ok (.invokevirtual 164, 3) := by decide +kernel
theorem dX12_piece___63 : decode cX12_piece__ 63 = .ok (.sipush 4800, 3) := by decide +kernel
theorem dX12_piece___66 : decode cX12_piece__ 66 = .ok (.invokestatic 145, 3) := by decide +kernel
theorem dX12_piece___69 : decode cX12_piece__ 69 = .ok (.ifCond .eq 47, 3) := by decide +kernel
theorem dX12_piece___7 : decode cX12_piece__ 7 = .ok (.bipush 7, 2) := by decide +kernel
theorem dX12_piece___72 : decode cX12_piece__ 72 = .ok (.iload 7, 2) := by decide +kernel
theorem dX12_piece___74 : decode cX12_piece__ 74 = .ok (.iload 6, 2) := by decide +kernel
theorem dX12_piece___76 : decode cX12_piece__ 76 = .ok (.sipush 4800, 3) := by decide +kernel
theorem dX12_piece___79 : decode cX12_piece__ 79 = .ok (.invokestatic 145, 3) := by decide +kernel
theorem dX12_piece___82 : decode cX12_piece__ 82 = .ok (.ifCond .eq 34, 3) := by decide +kernel
theorem dX12_piece___85 : decode cX12_piece__ 85 = .ok (.iload 8, 2) := by decide +kernel
theorem dX12_piece___87 : decode cX12_piece__ 87 = .ok (.iconst 0, 1) := by decide +kernel
theorem dX12_piece___88 : decode cX12_piece__ 88 = .ok (.ldc 155, 2) := by decide +kernel
theorem dX12_piece___9 : decode cX12_piece__ 9 = .ok (.invokestatic 145, 3) := by decide +kernel
theorem dX12_piece___90 : decode cX12_piece__ 90 = .ok (.invokestatic 145, 3) := by decide +kernel
theorem dX12_piece___93 : decode cX12_piece__ 93 = .ok (.ifCond .eq 23, 3) := by decide +kernel
theorem dX12_piece___96 : decode cX12_piece__ 96 = .ok (.iload 9, 2) := by decide +kernel
theorem dX12_piece___98 : decode cX12_piece__ 98 = .ok (.iconst 0, 1) := by decide +kernel
theorem dX12_piece___99 : decode cX12_piece__ 99 = .ok (.bipush 6, 2) := by decide +kernel
theorem dX12_plan_0 : decode cX12_plan 0 = .ok (.aload_n 0, 1) := by decide +kernel
theorem dX12_plan_1 : decode cX12_plan 1 = .ok (.iconst 0, 1) := by decide +kernel
theorem dX12_plan_11 : decode cX12_plan 11 = .ok (.istore_n 3, 1) := by decide +kernel
theorem dX12_plan_12 : decode cX12_plan 12 = .ok (.iload_n 3, 1) := by decide +kernel
theorem dX12_plan_13 : decode cX12_plan 13 = .ok (.ifCond .ge 5, 3) := by decide +kernel
theorem dX12_plan_16 : decode cX12_plan 16 = .ok (.iload_n 3, 1) := by decide +kernel
theorem dX12_plan_17 : decode cX12_plan 17 = .ok (.ireturn, 1) := by decide +kernel
theorem dX12_plan_2 : decode cX12_plan 2 = .ok (.putfield 139, 3) := by decide +kernel
theorem dX12_plan_5 : decode cX12_plan 5 = .ok (.aload_n 0, 1) := by decide +kernel
theorem dX12_plan_6 : decode cX12_plan 6 = .ok (.iload_n 1, 1) := by decide +kernel
theorem dX12_plan_7 : decode cX12_plan 7 = .ok (.iload_n 2, 1) := by decide +kernel
theorem dX12_plan_8 : decode cX12_plan 8 = .ok (.invokevirtual 376, 3) := by decide +kernel
theorem dX12_post_0 : decode cX12_post 0 = .ok (.aload_n 0, 1) := by decide +kernel
theorem dX12_post_1 : decode cX12_post 1 = .ok (.iconst 0, 1) := by decide +kernel
theorem dX12_post_10 : decode cX12_post 10 = .ok (.invokestatic 145, 3) := by decide +kernel
theorem dX12_post_13 : decode cX12_post 13 = .ok (.ifCond .eq 11, 3) := by decide +kernel
theorem dX12_post_16 : decode cX12_post 16 = .ok (.aload_n 0, 1) := by decide +kernel
theorem dX12_post_17 : decode cX12_post 17 = .ok (.getfield 152, 3) := by decide +kernel
theorem dX12_post_2 : decode cX12_post 2 = .ok (.putfield 139, 3) := by decide +kernel
theorem dX12_post_20 : decode cX12_post 20 = .ok (.iconst 4, 1) := by decide +kernel
theorem dX12_post_21 : decode cX12_post 21 = .ok (.if_icmp .ne 5, 3) := by decide +kernel
theorem dX12_post_24 : decode cX12_post 24 = .ok (.iconst (-1), 1) := by decide +kernel
theorem dX12_post_25 : decode cX12_post 25 = .ok (.ireturn, 1) := by decide +kernel
theorem dX12_post_26 : decode cX12_post 26 = .ok (.aload_n 0, 1) := by decide +kernel
theorem dX12_post_27 : decode cX12_post 27 = .ok (.getfield 9, 3) := by decide +kernel
theorem dX12_post_30 : decode cX12_post 30 = .ok (.aload_n 0, 1) := by decide +kernel
theorem dX12_post_31 : decode cX12_post 31 = .ok (.getfield 152, 3) := by decide +kernel
theorem dX12_post_34 : decode cX12_post 34 = .ok (.iload_n 1, 1) := by decide +kernel
theorem dX12_post_35 : decode cX12_post 35 = .ok (.iastore, 1) := by decide +kernel
theorem dX12_post_36 : decode cX12_post 36 = .ok (.aload_n 0, 1) := by decide +kernel
theorem dX12_post_37 : decode cX12_post 37 = .ok (.dup, 1) := by decide +kernel
theorem dX12_post_38 : decode cX12_post 38 = .ok (.getfield 152, 3) := by decide +kernel
theorem dX12_post_41 : decode cX12_post 41 = .ok (.iconst 1, 1) := by decide +kernel
theorem dX12_post_42 : decode cX12_post 42 = .ok (.iadd, 1) := by decide +kernel
theorem dX12_post_43 : decode cX12_post 43 = .ok (.putfield 152, 3) := by decide +kernel
theorem dX12_post_46 : decode cX12_post 46 = .ok (.aload_n 0, 1) := by decide +kernel
theorem dX12_post_47 : decode cX12_post 47 = .ok (.getfield 152, 3) := by decide +kernel
theorem dX12_post_5 : decode cX12_post 5 = .ok (.iload_n 1, 1) := by decide +kernel
theorem dX12_post_50 : decode cX12_post 50 = .ok (.ireturn, 1) := by decide +kernel
theorem dX12_post_6 : decode cX12_post 6 = .ok (.iconst 0, 1) := by decide +kernel
theorem dX12_post_7 : decode cX12_post 7 = .ok (.sipush 479, 3) := by decide +kernel
theorem dX12_product_0 : decode cX12_product 0 = .ok (.aload_n 0, 1) := by decide +kernel
theorem dX12_product_1 : decode cX12_product 1 = .ok (.iload_n 1, 1) := by decide +kernel
theorem dX12_product_10 : decode cX12_product 10 = .ok (.ifCond .eq 23, 3) := by decide +kernel
theorem dX12_product_2 : decode cX12_product 2 = .ok (.invokevirtual 233, 3) := by decide +kernel
theorem dX12_product_33 : decode cX12_product 33 = .ok (.iload_n 2, 1) := by decide +kernel
theorem dX12_product_34 : decode cX12_product 34 = .ok (.ireturn, 1) := by decide +kernel
theorem dX12_product_5 : decode cX12_product 5 = .ok (.istore_n 2, 1) := by decide +kernel
theorem dX12_product_6 : decode cX12_product 6 = .ok (.aload_n 0, 1) := by decide +kernel
theorem dX12_product_7 : decode cX12_product 7 = .ok (.invokevirtual 217, 3) := by decide +kernel
theorem dX12_putAside_0 : decode cX12_putAside 0 = .ok (.iconst 0, 1) := by decide +kernel
theorem dX12_putAside_1 : decode cX12_putAside 1 = .ok (.istore_n 1, 1) := by decide +kernel
theorem dX12_putAside_10 : decode cX12_putAside 10 = .ok (.getfield 110, 3) := by decide +kernel
theorem dX12_putAside_13 : decode cX12_putAside 13 = .ok (.iload_n 1, 1) := by decide +kernel
theorem dX12_putAside_14 : decode cX12_putAside 14 = .ok (.aload_n 0, 1) := by decide +kernel
theorem dX12_putAside_15 : decode cX12_putAside 15 = .ok (.getfield 107, 3) := by decide +kernel
theorem dX12_putAside_18 : decode cX12_putAside 18 = .ok (.iload_n 1, 1) := by decide +kernel
theorem dX12_putAside_19 : decode cX12_putAside 19 = .ok (.iaload, 1) := by decide +kernel
theorem dX12_putAside_2 : decode cX12_putAside 2 = .ok (.iload_n 1, 1) := by decide +kernel
theorem dX12_putAside_20 : decode cX12_putAside 20 = .ok (.iastore, 1) := by decide +kernel
theorem dX12_putAside_21 : decode cX12_putAside 21 = .ok (.iinc 1 1, 3) := by decide +kernel
theorem dX12_putAside_24 : decode cX12_putAside 24 = .ok (.goto (-22), 3) := by decide +kernel
theorem dX12_putAside_27 : decode cX12_putAside 27 = .ok (.return_, 1) := by decide +kernel
theorem dX12_putAside_3 : decode cX12_putAside 3 = .ok (.sipush 199, 3) := by decide +kernel
theorem dX12_putAside_6 : decode cX12_putAside 6 = .ok (.if_icmp .ge 21, 3) := by decide +kernel
theorem dX12_putAside_9 : decode cX12_putAside 9 = .ok (.aload_n 0, 1) := by decide +kernel
theorem dX12_putBack_0 : decode cX12_putBack 0 = .ok (.iconst 0, 1) := by decide +kernel
theorem dX12_putBack_1 : decode cX12_putBack 1 = .ok (.istore_n 1, 1) := by decide +kernel
theorem dX12_putBack_10 : decode cX12_putBack 10 = .ok (.getfield 107, 3) := by decide +kernel
theorem dX12_putBack_13 : decode cX12_putBack 13 = .ok (.iload_n 1, 1) := by decide +kernel
theorem dX12_putBack_14 : decode cX12_putBack 14 = .ok (.aload_n 0, 1) := by decide +kernel
theorem dX12_putBack_15 : decode cX12_putBack 15 = .ok (.getfield 110, 3) := by decide +kernel
theorem dX12_putBack_18 : decode cX12_putBack 18 = .ok (.iload_n 1, 1) := by decide +kernel
theorem dX12_putBack_19 : decode cX12_putBack 19 = .ok (.iaload, 1) := by decide +kernel
theorem dX12_putBack_2 : decode cX12_putBack 2 = .ok (.iload_n 1, 1) := by decide +kernel
theorem dX12_putBack_20 : decode cX12_putBack 20 = .ok (.iastore, 1) := by decide +kernel
theorem dX12_putBack_21 : decode cX12_putBack 21 = .ok (.iinc 1 1, 3) := by decide +kernel
theorem dX12_putBack_24 : decode cX12_putBack 24 = .ok (.goto (-22), 3) := by decide +kernel
theorem dX12_putBack_27 : decode cX12_putBack 27 = .ok (.return_, 1) := by decide +kernel
theorem dX12_putBack_3 : decode cX12_putBack 3 = .ok (.sipush 199, 3) := by decide +kernel
theorem dX12_putBack_6 : decode cX12_putBack 6 = .ok (.if_icmp .ge 21, 3) := by decide +kernel
theorem dX12_putBack_9 : decode cX12_putBack 9 = .ok (.aload_n 0, 1) := by decide +kernel
theorem dX12_put_0 : decode cX12_put 0 = .ok (.aload_n 0, 1) := by decide +kernel
theorem dX12_put_1 : decode cX12_put 1 = .ok (.getfield 107, 3) := by decide +kernel
theorem dX12_put_10 : decode cX12_put 10 = .ok (.iload_n 2, 1) := by decide +kernel
theorem dX12_put_11 : decode cX12_put 11 = .ok (.iadd, 1) := by decide +kernel
theorem dX12_put_12 : decode cX12_put 12 = .ok (.iload_n 3, 1) := by decide +kernel
theorem dX12_put_13 : decode cX12_put 13 = .ok (.iastore, 1) := by decide +kernel
theorem dX12_put_14 : decode cX12_put 14 = .ok (.return_, 1) := by decide +kernel
theorem dX12_put_4 : decode cX12_put 4 = .ok (.iconst 1, 1) := by decide +kernel
theorem dX12_put_5 : decode cX12_put 5 = .ok (.bipush 6, 2) := by decide +kernel
theorem dX12_put_7 : decode cX12_put 7 = .ok (.iload_n 1, 1) := by decide +kernel
theorem dX12_put_8 : decode cX12_put 8 = .ok (.imul, 1) := by decide +kernel
theorem dX12_put_9 : decode cX12_put 9 = .ok (.iadd, 1) := by decide +kernel
theorem dX12_quick_0 : decode cX12_quick 0 = .ok (.aload_n 0, 1) := by decide +kernel
theorem dX12_quick_1 : decode cX12_quick 1 = .ok (.iconst 0, 1) := by decide +kernel
theorem dX12_quick_10 : decode cX12_quick 10 = .ok (.ifCond .eq 21, 3) := by decide +kernel
theorem dX12_quick_2 : decode cX12_quick 2 = .ok (.putfield 139, 3) := by decide +kernel
theorem dX12_quick_31 : decode cX12_quick 31 = .ok (.iconst (-1), 1) := by decide +kernel
theorem dX12_quick_32 : decode cX12_quick 32 = .ok (.ireturn, 1) := by decide +kernel
theorem dX12_quick_5 : decode cX12_quick 5 = .ok (.aload_n 0, 1) := by decide +kernel
theorem dX12_quick_6 : decode cX12_quick 6 = .ok (.iload_n 1, 1) := by decide +kernel
theorem dX12_quick_7 : decode cX12_quick 7 = .ok (.invokevirtual 160, 3) := by decide +kernel
theorem dX12_row_0 : decode cX12_row 0 = .ok (.aload_n 0, 1) := by decide +kernel
theorem dX12_row_1 : decode cX12_row 1 = .ok (.iconst 0, 1) := by decide +kernel
theorem dX12_row_11 : decode cX12_row 11 = .ok (.iconst 1, 1) := by decide +kernel
theorem dX12_row_12 : decode cX12_row 12 = .ok (.isub, 1) := by decide +kernel
theorem dX12_row_13 : decode cX12_row 13 = .ok (.invokestatic 145, 3) := by decide +kernel
theorem dX12_row_16 : decode cX12_row 16 = .ok (.ifCond .eq 12, 3) := by decide +kernel
theorem dX12_row_2 : decode cX12_row 2 = .ok (.putfield 139, 3) := by decide +kernel
theorem dX12_row_28 : decode cX12_row 28 = .ok (.aload_n 0, 1) := by decide +kernel
theorem dX12_row_29 : decode cX12_row 29 = .ok (.invokevirtual 312, 3) := by decide +kernel
theorem dX12_row_32 : decode cX12_row 32 = .ok (.ireturn, 1) := by decide +kernel
theorem dX12_row_5 : decode cX12_row 5 = .ok (.iload_n 1, 1) := by decide +kernel
theorem dX12_row_6 : decode cX12_row 6 = .ok (.iconst 0, 1) := by decide +kernel
theorem dX12_row_7 : decode cX12_row 7 = .ok (.aload_n 0, 1) := by decide +kernel
theorem dX12_row_8 : decode cX12_row 8 = .ok (.getfield 327, 3) := by decide +kernel
theorem dX12_rule_0 : decode cX12_rule 0 = .ok (.aload_n 0, 1) := by decide +kernel
theorem dX12_rule_1 : decode cX12_rule 1 = .ok (.iconst 0, 1) := by decide +kernel
theorem dX12_rule_10 : decode cX12_rule 10 = .ok (.aload_n 0, 1) := by decide +kernel
theorem dX12_rule_11 : decode cX12_rule 11 = .ok (.iconst 0, 1) := by decide +kernel
theorem dX12_rule_12 : decode cX12_rule 12 = .ok (.putfield 177, 3) := by decide +kernel
theorem dX12_rule_15 : decode cX12_rule 15 = .ok (.iload_n 1, 1) := by decide +kernel
theorem dX12_rule_16 : decode cX12_rule 16 = .ok (.iconst 0, 1) := by decide +kernel
theorem dX12_rule_17 : decode cX12_rule 17 = .ok (.iconst 3, 1) := by decide +kernel
theorem dX12_rule_18 : decode cX12_rule 18 = .ok (.invokestatic 145, 3) := by decide +kernel
theorem dX12_rule_2 : decode cX12_rule 2 = .ok (.putfield 139, 3) := by decide +kernel
theorem dX12_rule_21 : decode cX12_rule 21 = .ok (.ifCond .eq 22, 3) := by decide +kernel
theorem dX12_rule_24 : decode cX12_rule 24 = .ok (.iload_n 2, 1) := by decide +kernel
theorem dX12_rule_25 : decode cX12_rule 25 = .ok (.iconst 0, 1) := by decide +kernel
theorem dX12_rule_26 : decode cX12_rule 26 = .ok (.bipush 9, 2) := by decide +kernel
theorem dX12_rule_28 : decode cX12_rule 28 = .ok (.invokestatic 145, 3) := by decide +kernel
theorem dX12_rule_31 : decode cX12_rule 31 = .ok (.ifCond .eq 12, 3) := by decide +kernel
theorem dX12_rule_34 : decode cX12_rule 34 = .ok (.aload_n 0, 1) := by decide +kernel
theorem dX12_rule_35 : decode cX12_rule 35 = .ok (.getfield 248, 3) := by decide +kernel
theorem dX12_rule_38 : decode cX12_rule 38 = .ok (.bipush 20, 2) := by decide +kernel
theorem dX12_rule_40 : decode cX12_rule 40 = .ok (.if_icmp .ne 6, 3) := by decide +kernel
theorem dX12_rule_43 : decode cX12_rule 43 = .ok (.bipush (-100), 2) := by decide +kernel
theorem dX12_rule_45 : decode cX12_rule 45 = .ok (.ireturn, 1) := by decide +kernel
theorem dX12_rule_46 : decode cX12_rule 46 = .ok (.aload_n 0, 1) := by decide +kernel
theorem dX12_rule_47 : decode cX12_rule 47 = .ok (.aload_n 0, 1) := by decide +kernel
theorem dX12_rule_48 : decode cX12_rule 48 = .ok (.getfield 101, 3) := by decide +kernel
theorem dX12_rule_5 : decode cX12_rule 5 = .ok (.aload_n 0, 1) := by decide +kernel
theorem dX12_rule_51 : decode cX12_rule 51 = .ok (.iconst 0, 1) := by decide +kernel
theorem dX12_rule_52 : decode cX12_rule 52 = .ok (.iload_n 3, 1) := by decide +kernel
theorem dX12_rule_53 : decode cX12_rule 53 = .ok (.iload_n 1, 1) := by decide +kernel
theorem dX12_rule_54 : decode cX12_rule 54 = .ok (.invokevirtual 251, 3) := by decide +kernel
theorem dX12_rule_57 : decode cX12_rule 57 = .ok (.aload_n 0, 1) := by decide +kernel
theorem dX12_rule_58 : decode cX12_rule 58 = .ok (.iconst 0, 1) := by decide +kernel
theorem dX12_rule_59 : decode cX12_rule 59 = .ok (.invokevirtual 239, 3) := by decide +kernel
theorem dX12_rule_6 : decode cX12_rule 6 = .ok (.getfield 177, 3) := by decide +kernel
theorem dX12_rule_62 : decode cX12_rule 62 = .ok (.pop, 1) := by decide +kernel
theorem dX12_rule_63 : decode cX12_rule 63 = .ok (.aload_n 0, 1) := by decide +kernel
theorem dX12_rule_64 : decode cX12_rule 64 = .ok (.invokevirtual 217, 3) := by decide +kernel
theorem dX12_rule_67 : decode cX12_rule 67 = .ok (.ifCond .eq 16, 3) := by decide +kernel
theorem dX12_rule_83 : decode cX12_rule 83 = .ok (.aload_n 0, 1) := by decide +kernel
theorem dX12_rule_84 : decode cX12_rule 84 = .ok (.invokevirtual 217, 3) := by decide +kernel
theorem dX12_rule_87 : decode cX12_rule 87 = .ok (.ifCond .ne 10, 3) := by decide +kernel
theorem dX12_rule_9 : decode cX12_rule 9 = .ok (.istore_n 3, 1) := by decide +kernel
theorem dX12_rule_90 : decode cX12_rule 90 = .ok (.iconst (-1), 1) := by decide +kernel
theorem dX12_rule_91 : decode cX12_rule 91 = .ok (.aload_n 0, 1) := by decide +kernel
theorem dX12_rule_92 : decode cX12_rule 92 = .ok (.getfield 200, 3) := by decide +kernel
theorem dX12_rule_95 : decode cX12_rule 95 = .ok (.isub, 1) := by decide +kernel
theorem dX12_rule_96 : decode cX12_rule 96 = .ok (.ireturn, 1) := by decide +kernel
theorem dX12_sign_0 : decode cX12_sign 0 = .ok (.aload_n 0, 1) := by decide +kernel
theorem dX12_sign_1 : decode cX12_sign 1 = .ok (.iconst 0, 1) := by decide +kernel
theorem dX12_sign_10 : decode cX12_sign 10 = .ok (.iadd, 1) := by decide +kernel
theorem dX12_sign_11 : decode cX12_sign 11 = .ok (.bipush 100, 2) := by decide +kernel
theorem dX12_sign_13 : decode cX12_sign 13 = .ok (.if_icmp .le 5, 3) := by decide +kernel
theorem dX12_sign_18 : decode cX12_sign 18 = .ok (.iconst 3, 1) := by decide +kernel
theorem dX12_sign_19 : decode cX12_sign 19 = .ok (.istore_n 2, 1) := by decide +kernel
theorem dX12_sign_2 : decode cX12_sign 2 = .ok (.putfield 139, 3) := by decide +kernel
theorem dX12_sign_20 : decode cX12_sign 20 = .ok (.iload_n 2, 1) := by decide +kernel
theorem dX12_sign_21 : decode cX12_sign 21 = .ok (.ifCond .lt 32, 3) := by decide +kernel
theorem dX12_sign_24 : decode cX12_sign 24 = .ok (.aload_n 0, 1) := by decide +kernel
theorem dX12_sign_25 : decode cX12_sign 25 = .ok (.getfield 101, 3) := by decide +kernel
theorem dX12_sign_28 : decode cX12_sign 28 = .ok (.aload_n 0, 1) := by decide +kernel
theorem dX12_sign_29 : decode cX12_sign 29 = .ok (.dup, 1) := by decide +kernel
theorem dX12_sign_30 : decode cX12_sign 30 = .ok (.getfield 177, 3) := by decide +kernel
theorem dX12_sign_33 : decode cX12_sign 33 = .ok (.dup_x1, 1) := by decide +kernel
theorem dX12_sign_34 : decode cX12_sign 34 = .ok (.iconst 1, 1) := by decide +kernel
theorem dX12_sign_35 : decode cX12_sign 35 = .ok (.iadd, 1) := by decide +kernel
theorem dX12_sign_36 : decode cX12_sign 36 = .ok (.putfield 177, 3) := by decide +kernel
theorem dX12_sign_39 : decode cX12_sign 39 = .ok (.iload_n 1, 1) := by decide +kernel
theorem dX12_sign_40 : decode cX12_sign 40 = .ok (.bipush 8, 2) := by decide +kernel
theorem dX12_sign_42 : decode cX12_sign 42 = .ok (.iload_n 2, 1) := by decide +kernel
theorem dX12_sign_43 : decode cX12_sign 43 = .ok (.imul, 1) := by decide +kernel
theorem dX12_sign_44 : decode cX12_sign 44 = .ok (.ishr, 1) := by decide +kernel
theorem dX12_sign_45 : decode cX12_sign 45 = .ok (.i2b, 1) := by decide +kernel
theorem dX12_sign_46 : decode cX12_sign 46 = .ok (.bastore, 1) := by decide +kernel
theorem dX12_sign_47 : decode cX12_sign 47 = .ok (.iinc 2 (-1), 3) := by decide +kernel
theorem dX12_sign_5 : decode cX12_sign 5 = .ok (.aload_n 0, 1) := by decide +kernel
theorem dX12_sign_50 : decode cX12_sign 50 = .ok (.goto (-30), 3) := by decide +kernel
theorem dX12_sign_53 : decode cX12_sign 53 = .ok (.aload_n 0, 1) := by decide +kernel
theorem dX12_sign_54 : decode cX12_sign 54 = .ok (.getfield 177, 3) := by decide +kernel
theorem dX12_sign_57 : decode cX12_sign 57 = .ok (.ireturn, 1) := by decide +kernel
theorem dX12_sign_6 : decode cX12_sign 6 = .ok (.getfield 177, 3) := by decide +kernel
theorem dX12_sign_9 : decode cX12_sign 9 = .ok (.iconst 4, 1) := by decide +kernel
theorem dX12_slips_0 : decode cX12_slips 0 = .ok (.aload_n 0, 1) := by decide +kernel
theorem dX12_slips_1 : decode cX12_slips 1 = .ok (.iconst 0, 1) := by decide +kernel
theorem dX12_slips_10 : decode cX12_slips 10 = .ok (.ifCond .eq 22, 3) := by decide +kernel
theorem dX12_slips_2 : decode cX12_slips 2 = .ok (.putfield 139, 3) := by decide +kernel
theorem dX12_slips_32 : decode cX12_slips 32 = .ok (.iconst 0, 1) := by decide +kernel
theorem dX12_slips_33 : decode cX12_slips 33 = .ok (.ireturn, 1) := by decide +kernel
theorem dX12_slips_5 : decode cX12_slips 5 = .ok (.aload_n 0, 1) := by decide +kernel
theorem dX12_slips_6 : decode cX12_slips 6 = .ok (.iload_n 1, 1) := by decide +kernel
theorem dX12_slips_7 : decode cX12_slips 7 = .ok (.invokevirtual 315, 3) := by decide +kernel
theorem dX12_step_0 : decode cX12_step 0 = .ok (.aload_n 0, 1) := by decide +kernel
theorem dX12_step_1 : decode cX12_step 1 = .ok (.iconst 0, 1) := by decide +kernel
theorem dX12_step_11 : decode cX12_step 11 = .ok (.ifCond .ne 5, 3) := by decide +kernel
theorem dX12_step_14 : decode cX12_step 14 = .ok (.iconst (-1), 1) := by decide +kernel
theorem dX12_step_15 : decode cX12_step 15 = .ok (.ireturn, 1) := by decide +kernel
theorem dX12_step_16 : decode cX12_step 16 = .ok (.aload_n 0, 1) := by decide +kernel
theorem dX12_step_17 : decode cX12_step 17 = .ok (.iload_n 1, 1) := by decide +kernel
theorem dX12_step_18 : decode cX12_step 18 = .ok (.invokevirtual 308, 3) := by decide +kernel
theorem dX12_step_2 : decode cX12_step 2 = .ok (.putfield 139, 3) := by decide +kernel
theorem dX12_step_21 : decode cX12_step 21 = .ok (.aload_n 0, 1) := by decide +kernel
theorem dX12_step_22 : decode cX12_step 22 = .ok (.invokevirtual 164, 3) := by decide +kernel
theorem dX12_step_25 : decode cX12_step 25 = .ok (.ireturn, 1) := by decide +kernel
theorem dX12_step_5 : decode cX12_step 5 = .ok (.aload_n 0, 1) := by decide +kernel
theorem dX12_step_6 : decode cX12_step 6 = .ok (.iload_n 1, 1) := by decide +kernel
theorem dX12_step_7 : decode cX12_step 7 = .ok (.iconst 0, 1) := by decide +kernel
theorem dX12_step_8 : decode cX12_step 8 = .ok (.invokevirtual 305, 3) := by decide +kernel
theorem dX12_sum_0 : decode cX12_sum 0 = .ok (.aload_n 0, 1) := by decide +kernel
theorem dX12_sum_1 : decode cX12_sum 1 = .ok (.iload_n 1, 1) := by decide +kernel
theorem dX12_sum_10 : decode cX12_sum 10 = .ok (.ifCond .eq 43, 3) := by decide +kernel
theorem dX12_sum_2 : decode cX12_sum 2 = .ok (.invokevirtual 230, 3) := by decide +kernel
theorem dX12_sum_5 : decode cX12_sum 5 = .ok (.istore_n 2, 1) := by decide +kernel
theorem dX12_sum_53 : decode cX12_sum 53 = .ok (.iload_n 2, 1) := by decide +kernel
theorem dX12_sum_54 : decode cX12_sum 54 = .ok (.ireturn, 1) := by decide +kernel
theorem dX12_sum_6 : decode cX12_sum 6 = .ok (.aload_n 0, 1) := by decide +kernel
theorem dX12_sum_7 : decode cX12_sum 7 = .ok (.invokevirtual 217, 3) := by decide +kernel
theorem dX12_thing_0 : decode cX12_thing 0 = .ok (.aload_n 0, 1) := by decide +kernel
theorem dX12_thing_1 : decode cX12_thing 1 = .ok (.bipush 33, 2) := by decide +kernel
theorem dX12_thing_100 : decode cX12_thing 100 = .ok (.aload_n 0, 1) := by decide +kernel
theorem dX12_thing_101 : decode cX12_thing 101 = .ok (.invokevirtual 242, 3) := by decide +kernel
theorem dX12_thing_104 : decode cX12_thing 104 = .ok (.ifCond .eq 50, 3) := by decide +kernel
theorem dX12_thing_154 : decode cX12_thing 154 = .ok (.aload_n 0, 1) := by decide +kernel
theorem dX12_thing_155 : decode cX12_thing 155 = .ok (.invokevirtual 211, 3) := by decide +kernel
theorem dX12_thing_158 : decode cX12_thing 158 = .ok (.iconst (-1), 1) := by decide +kernel
theorem dX12_thing_159 : decode cX12_thing 159 = .ok (.if_icmp .ne 7, 3) := by decide +kernel
theorem dX12_thing_162 : decode cX12_thing 162 = .ok (.iconst (-1), 1) := by decide +kernel
theorem dX12_thing_163 : decode cX12_thing 163 = .ok (.goto 15, 3) := by decide +kernel
theorem dX12_thing_178 : decode cX12_thing 178 = .ok (.istore_n 2, 1) := by decide +kernel
theorem dX12_thing_179 : decode cX12_thing 179 = .ok (.iload_n 2, 1) := by decide +kernel
theorem dX12_thing_180 : decode cX12_thing 180 = .ok (.ifCond .ge 8, 3) := by decide +kernel
theorem dX12_thing_183 : decode cX12_thing 183 = .ok (.aload_n 0, 1) := by decide +kernel
theorem dX12_thing_184 : decode cX12_thing 184 = .ok (.invokevirtual 236, 3) := by decide +kernel
theorem dX12_thing_187 : decode cX12_thing 187 = .ok (.ireturn, 1) := by decide +kernel
theorem dX12_thing_23 : decode cX12_thing 23 = .ok (.aload_n 0, 1) := by decide +kernel
theorem dX12_thing_24 : decode cX12_thing 24 = .ok (.bipush 45, 2) := by decide +kernel
theorem dX12_thing_26 : decode cX12_thing 26 = .ok (.invokevirtual 221, 3) := by decide +kernel
theorem dX12_thing_29 : decode cX12_thing 29 = .ok (.ifCond .eq 10, 3) := by decide +kernel
theorem dX12_thing_3 : decode cX12_thing 3 = .ok (.invokevirtual 221, 3) := by decide +kernel
theorem dX12_thing_39 : decode cX12_thing 39 = .ok (.aload_n 0, 1) := by decide +kernel
theorem dX12_thing_40 : decode cX12_thing 40 = .ok (.invokevirtual 211, 3) := by decide +kernel
theorem dX12_thing_43 : decode cX12_thing 43 = .ok (.bipush 40, 2) := by decide +kernel
theorem dX12_thing_45 : decode cX12_thing 45 = .ok (.if_icmp .ne 55, 3) := by decide +kernel
theorem dX12_thing_6 : decode cX12_thing 6 = .ok (.ifCond .eq 17, 3) := by decide +kernel
theorem dX12_thrown_0 : decode cX12_thrown 0 = .ok (.aload_n 0, 1) := by decide +kernel
theorem dX12_thrown_1 : decode cX12_thrown 1 = .ok (.getfield 139, 3) := by decide +kernel
theorem dX12_thrown_4 : decode cX12_thrown 4 = .ok (.ireturn, 1) := by decide +kernel
theorem dX12_tried_0 : decode cX12_tried 0 = .ok (.aload_n 0, 1) := by decide +kernel
theorem dX12_tried_1 : decode cX12_tried 1 = .ok (.iconst 0, 1) := by decide +kernel
theorem dX12_tried_10 : decode cX12_tried 10 = .ok (.iload_n 1, 1) := by decide +kernel
theorem dX12_tried_101 : decode cX12_tried 101 = .ok (.putfield 327, 3) := by decide +kernel
theorem dX12_tried_104 : decode cX12_tried 104 = .ok (.aload_n 0, 1) := by decide +kernel
theorem dX12_tried_105 : decode cX12_tried 105 = .ok (.invokevirtual 382, 3) := by decide +kernel
theorem dX12_tried_108 : decode cX12_tried 108 = .ok (.iload_n 3, 1) := by decide +kernel
theorem dX12_tried_109 : decode cX12_tried 109 = .ok (.ireturn, 1) := by decide +kernel
theorem dX12_tried_11 : decode cX12_tried 11 = .ok (.iconst 0, 1) := by decide +kernel
theorem dX12_tried_12 : decode cX12_tried 12 = .ok (.aload_n 0, 1) := by decide +kernel
theorem dX12_tried_13 : decode cX12_tried 13 = .ok (.getfield 248, 3) := by decide +kernel
theorem dX12_tried_16 : decode cX12_tried 16 = .ok (.iconst 1, 1) := by decide +kernel
theorem dX12_tried_17 : decode cX12_tried 17 = .ok (.isub, 1) := by decide +kernel
theorem dX12_tried_18 : decode cX12_tried 18 = .ok (.invokestatic 145, 3) := by decide +kernel
theorem dX12_tried_2 : decode cX12_tried 2 = .ok (.putfield 139, 3) := by decide +kernel
theorem dX12_tried_21 : decode cX12_tried 21 = .ok (.ifCond .eq 22, 3) := by decide +kernel
theorem dX12_tried_34 : decode cX12_tried 34 = .ok (.aload_n 0, 1) := by decide +kernel
theorem dX12_tried_35 : decode cX12_tried 35 = .ok (.iload_n 2, 1) := by decide +kernel
theorem dX12_tried_36 : decode cX12_tried 36 = .ok (.iconst 0, 1) := by decide +kernel
theorem dX12_tried_37 : decode cX12_tried 37 = .ok (.invokevirtual 305, 3) := by decide +kernel
theorem dX12_tried_40 : decode cX12_tried 40 = .ok (.ifCond .ne 5, 3) := by decide +kernel
theorem dX12_tried_43 : decode cX12_tried 43 = .ok (.iconst (-1), 1) := by decide +kernel
theorem dX12_tried_44 : decode cX12_tried 44 = .ok (.ireturn, 1) := by decide +kernel
theorem dX12_tried_45 : decode cX12_tried 45 = .ok (.aload_n 0, 1) := by decide +kernel
theorem dX12_tried_46 : decode cX12_tried 46 = .ok (.invokevirtual 379, 3) := by decide +kernel
theorem dX12_tried_49 : decode cX12_tried 49 = .ok (.aload_n 0, 1) := by decide +kernel
theorem dX12_tried_5 : decode cX12_tried 5 = .ok (.iload_n 1, 1) := by decide +kernel
theorem dX12_tried_50 : decode cX12_tried 50 = .ok (.iload_n 1, 1) := by decide +kernel
theorem dX12_tried_51 : decode cX12_tried 51 = .ok (.putfield 113, 3) := by decide +kernel
theorem dX12_tried_54 : decode cX12_tried 54 = .ok (.aload_n 0, 1) := by decide +kernel
theorem dX12_tried_55 : decode cX12_tried 55 = .ok (.iload_n 2, 1) := by decide +kernel
theorem dX12_tried_56 : decode cX12_tried 56 = .ok (.invokevirtual 308, 3) := by decide +kernel
theorem dX12_tried_59 : decode cX12_tried 59 = .ok (.aload_n 0, 1) := by decide +kernel
theorem dX12_tried_6 : decode cX12_tried 6 = .ok (.iconst (-1), 1) := by decide +kernel
theorem dX12_tried_60 : decode cX12_tried 60 = .ok (.iconst (-1), 1) := by decide +kernel
theorem dX12_tried_61 : decode cX12_tried 61 = .ok (.putfield 113, 3) := by decide +kernel
theorem dX12_tried_64 : decode cX12_tried 64 = .ok (.aload_n 0, 1) := by decide +kernel
theorem dX12_tried_65 : decode cX12_tried 65 = .ok (.invokevirtual 324, 3) := by decide +kernel
theorem dX12_tried_68 : decode cX12_tried 68 = .ok (.istore_n 3, 1) := by decide +kernel
theorem dX12_tried_69 : decode cX12_tried 69 = .ok (.iconst 0, 1) := by decide +kernel
theorem dX12_tried_7 : decode cX12_tried 7 = .ok (.if_icmp .eq 27, 3) := by decide +kernel
theorem dX12_tried_70 : decode cX12_tried 70 = .ok (.istore 4, 2) := by decide +kernel
theorem dX12_tried_72 : decode cX12_tried 72 = .ok (.iload 4, 2) := by decide +kernel
theorem dX12_tried_74 : decode cX12_tried 74 = .ok (.bipush 8, 2) := by decide +kernel
theorem dX12_tried_76 : decode cX12_tried 76 = .ok (.if_icmp .ge 22, 3) := by decide +kernel
theorem dX12_tried_79 : decode cX12_tried 79 = .ok (.aload_n 0, 1) := by decide +kernel
theorem dX12_tried_80 : decode cX12_tried 80 = .ok (.getfield 104, 3) := by decide +kernel
theorem dX12_tried_83 : decode cX12_tried 83 = .ok (.iload 4, 2) := by decide +kernel
theorem dX12_tried_85 : decode cX12_tried 85 = .ok (.aload_n 0, 1) := by decide +kernel
theorem dX12_tried_86 : decode cX12_tried 86 = .ok (.iload 4, 2) := by decide +kernel
theorem dX12_tried_88 : decode cX12_tried 88 = .ok (.invokevirtual 339, 3) := by decide +kernel
theorem dX12_tried_91 : decode cX12_tried 91 = .ok (.iastore, 1) := by decide +kernel
theorem dX12_tried_92 : decode cX12_tried 92 = .ok (.iinc 4 1, 3) := by decide +kernel
theorem dX12_tried_95 : decode cX12_tried 95 = .ok (.goto (-23), 3) := by decide +kernel
theorem dX12_tried_98 : decode cX12_tried 98 = .ok (.aload_n 0, 1) := by decide +kernel
theorem dX12_tried_99 : decode cX12_tried 99 = .ok (.bipush 8, 2) := by decide +kernel
theorem dX12_undo_0 : decode cX12_undo 0 = .ok (.aload_n 0, 1) := by decide +kernel
theorem dX12_undo_1 : decode cX12_undo 1 = .ok (.iconst 0, 1) := by decide +kernel
theorem dX12_undo_11 : decode cX12_undo 11 = .ok (.iconst 1, 1) := by decide +kernel
theorem dX12_undo_12 : decode cX12_undo 12 = .ok (.isub, 1) := by decide +kernel
theorem dX12_undo_13 : decode cX12_undo 13 = .ok (.invokestatic 145, 3) := by decide +kernel
theorem dX12_undo_16 : decode cX12_undo 16 = .ok (.ifCond .eq 13, 3) := by decide +kernel
theorem dX12_undo_2 : decode cX12_undo 2 = .ok (.putfield 139, 3) := by decide +kernel
theorem dX12_undo_29 : decode cX12_undo 29 = .ok (.iconst 0, 1) := by decide +kernel
theorem dX12_undo_30 : decode cX12_undo 30 = .ok (.ireturn, 1) := by decide +kernel
theorem dX12_undo_5 : decode cX12_undo 5 = .ok (.iload_n 1, 1) := by decide +kernel
theorem dX12_undo_6 : decode cX12_undo 6 = .ok (.iconst 0, 1) := by decide +kernel
theorem dX12_undo_7 : decode cX12_undo 7 = .ok (.aload_n 0, 1) := by decide +kernel
theorem dX12_undo_8 : decode cX12_undo 8 = .ok (.getfield 321, 3) := by decide +kernel
theorem dX12_waited_0 : decode cX12_waited 0 = .ok (.iconst 0, 1) := by decide +kernel
theorem dX12_waited_1 : decode cX12_waited 1 = .ok (.istore_n 2, 1) := by decide +kernel
theorem dX12_waited_2 : decode cX12_waited 2 = .ok (.iconst 0, 1) := by decide +kernel
theorem dX12_waited_3 : decode cX12_waited 3 = .ok (.istore_n 3, 1) := by decide +kernel
theorem dX12_waited_4 : decode cX12_waited 4 = .ok (.iload_n 3, 1) := by decide +kernel
theorem dX12_waited_5 : decode cX12_waited 5 = .ok (.aload_n 0, 1) := by decide +kernel
theorem dX12_waited_54 : decode cX12_waited 54 = .ok (.iload_n 2, 1) := by decide +kernel
theorem dX12_waited_55 : decode cX12_waited 55 = .ok (.ireturn, 1) := by decide +kernel
theorem dX12_waited_6 : decode cX12_waited 6 = .ok (.getfield 149, 3) := by decide +kernel
theorem dX12_waited_9 : decode cX12_waited 9 = .ok (.if_icmp .ge 45, 3) := by decide +kernel
theorem dX12_work_0 : decode cX12_work 0 = .ok (.bipush 60, 2) := by decide +kernel
theorem dX12_work_10 : decode cX12_work 10 = .ok (.aload_n 0, 1) := by decide +kernel
theorem dX12_work_11 : decode cX12_work 11 = .ok (.getfield 37, 3) := by decide +kernel
theorem dX12_work_14 : decode cX12_work 14 = .ok (.iload_n 1, 1) := by decide +kernel
theorem dX12_work_15 : decode cX12_work 15 = .ok (.iaload, 1) := by decide +kernel
theorem dX12_work_16 : decode cX12_work 16 = .ok (.imul, 1) := by decide +kernel
theorem dX12_work_17 : decode cX12_work 17 = .ok (.aload_n 0, 1) := by decide +kernel
theorem dX12_work_18 : decode cX12_work 18 = .ok (.getfield 55, 3) := by decide +kernel
theorem dX12_work_2 : decode cX12_work 2 = .ok (.aload_n 0, 1) := by decide +kernel
theorem dX12_work_21 : decode cX12_work 21 = .ok (.iload_n 1, 1) := by decide +kernel
theorem dX12_work_22 : decode cX12_work 22 = .ok (.iaload, 1) := by decide +kernel
theorem dX12_work_23 : decode cX12_work 23 = .ok (.imul, 1) := by decide +kernel
theorem dX12_work_24 : decode cX12_work 24 = .ok (.iadd, 1) := by decide +kernel
theorem dX12_work_25 : decode cX12_work 25 = .ok (.ireturn, 1) := by decide +kernel
theorem dX12_work_3 : decode cX12_work 3 = .ok (.getfield 37, 3) := by decide +kernel
theorem dX12_work_6 : decode cX12_work 6 = .ok (.iload_n 1, 1) := by decide +kernel
theorem dX12_work_7 : decode cX12_work 7 = .ok (.iaload, 1) := by decide +kernel
theorem dX12_work_8 : decode cX12_work 8 = .ok (.imul, 1) := by decide +kernel
theorem dX12_work_9 : decode cX12_work 9 = .ok (.iconst 2, 1) := by decide +kernel
