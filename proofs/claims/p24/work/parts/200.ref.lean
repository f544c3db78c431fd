theorem dX12_any_0 : decode cX12_any 0 = .ok (.aload_n 0, 1) := by decide +kernel
theorem dX12_any_1 : decode cX12_any 1 = .ok (.iload_n 1, 1) := by decide +kernel
theorem dX12_any_10 : decode cX12_any 10 = .ok (.ifCond .eq 47, 3) := by decide +kernel
theorem dX12_any_13 : decode cX12_any 13 = .ok (.aload_n 0, 1) := by decide +kernel
theorem dX12_any_14 : decode cX12_any 14 = .ok (.bipush 124, 2) := by decide +kernel
theorem dX12_any_16 : decode cX12_any 16 = .ok (.invokevirtual 221, 3) := by decide +kernel
theorem dX12_any_19 : decode cX12_any 19 = .ok (.ifCond .eq 38, 3) := by decide +kernel
theorem dX12_any_2 : decode cX12_any 2 = .ok (.invokevirtual 214, 3) := by decide +kernel
theorem dX12_any_22 : decode cX12_any 22 = .ok (.aload_n 0, 1) := by decide +kernel
theorem dX12_any_23 : decode cX12_any 23 = .ok (.iload_n 1, 1) := by decide +kernel
theorem dX12_any_24 : decode cX12_any 24 = .ok (.invokevirtual 214, 3) := by decide +kernel
theorem dX12_any_27 : decode cX12_any 27 = .ok (.ifCond .eq 7, 3) := by decide +kernel
theorem dX12_any_30 : decode cX12_any 30 = .ok (.iconst 1, 1) := by decide +kernel
theorem dX12_any_31 : decode cX12_any 31 = .ok (.goto 4, 3) := by decide +kernel
theorem dX12_any_34 : decode cX12_any 34 = .ok (.iconst 0, 1) := by decide +kernel
theorem dX12_any_35 : decode cX12_any 35 = .ok (.iload_n 2, 1) := by decide +kernel
theorem dX12_any_36 : decode cX12_any 36 = .ok (.ifCond .eq 7, 3) := by decide +kernel
theorem dX12_any_39 : decode cX12_any 39 = .ok (.iconst 1, 1) := by decide +kernel
theorem dX12_any_40 : decode cX12_any 40 = .ok (.goto 4, 3) := by decide +kernel
theorem dX12_any_43 : decode cX12_any 43 = .ok (.iconst 0, 1) := by decide +kernel
theorem dX12_any_44 : decode cX12_any 44 = .ok (.ior, 1) := by decide +kernel
theorem dX12_any_45 : decode cX12_any 45 = .ok (.ifCond .eq 7, 3) := by decide +kernel
theorem dX12_any_48 : decode cX12_any 48 = .ok (.iconst 1, 1) := by decide +kernel
theorem dX12_any_49 : decode cX12_any 49 = .ok (.goto 4, 3) := by decide +kernel
theorem dX12_any_5 : decode cX12_any 5 = .ok (.istore_n 2, 1) := by decide +kernel
theorem dX12_any_52 : decode cX12_any 52 = .ok (.iconst 0, 1) := by decide +kernel
theorem dX12_any_53 : decode cX12_any 53 = .ok (.istore_n 2, 1) := by decide +kernel
theorem dX12_any_54 : decode cX12_any 54 = .ok (.goto (-48), 3) := by decide +kernel
theorem dX12_any_57 : decode cX12_any 57 = .ok (.iload_n 2, 1) := by decide +kernel
theorem dX12_any_58 : decode cX12_any 58 = .ok (.ireturn, 1) := by decide +kernel
theorem dX12_any_6 : decode cX12_any 6 = .ok (.aload_n 0, 1) := by decide +kernel
theorem dX12_any_7 : decode cX12_any 7 = .ok (.invokevirtual 217, 3) := by decide +kernel
theorem dX12_away_0 : decode cX12_away 0 = .ok (.aload_n 0, 1) := by decide +kernel
theorem dX12_away_1 : decode cX12_away 1 = .ok (.iconst 0, 1) := by decide +kernel
theorem dX12_away_10 : decode cX12_away 10 = .ok (.ifCond .eq 32, 3) := by decide +kernel
theorem dX12_away_13 : decode cX12_away 13 = .ok (.iload_n 2, 1) := by decide +kernel
theorem dX12_away_14 : decode cX12_away 14 = .ok (.aload_n 0, 1) := by decide +kernel
theorem dX12_away_15 : decode cX12_away 15 = .ok (.invokevirtual 164, 3) := by decide +kernel
theorem dX12_away_18 : decode cX12_away 18 = .ok (.if_icmp .lt 24, 3) := by decide +kernel
theorem dX12_away_2 : decode cX12_away 2 = .ok (.putfield 139, 3) := by decide +kernel
theorem dX12_away_21 : decode cX12_away 21 = .ok (.iload_n 3, 1) := by decide +kernel
theorem dX12_away_22 : decode cX12_away 22 = .ok (.iload_n 2, 1) := by decide +kernel
theorem dX12_away_23 : decode cX12_away 23 = .ok (.if_icmp .le 19, 3) := by decide +kernel
theorem dX12_away_26 : decode cX12_away 26 = .ok (.iload_n 3, 1) := by decide +kernel
theorem dX12_away_27 : decode cX12_away 27 = .ok (.sipush 4800, 3) := by decide +kernel
theorem dX12_away_30 : decode cX12_away 30 = .ok (.if_icmp .gt 12, 3) := by decide +kernel
theorem dX12_away_33 : decode cX12_away 33 = .ok (.aload_n 0, 1) := by decide +kernel
theorem dX12_away_34 : decode cX12_away 34 = .ok (.getfield 167, 3) := by decide +kernel
theorem dX12_away_37 : decode cX12_away 37 = .ok (.bipush 30, 2) := by decide +kernel
theorem dX12_away_39 : decode cX12_away 39 = .ok (.if_icmp .ne 5, 3) := by decide +kernel
theorem dX12_away_42 : decode cX12_away 42 = .ok (.iconst (-1), 1) := by decide +kernel
theorem dX12_away_43 : decode cX12_away 43 = .ok (.ireturn, 1) := by decide +kernel
theorem dX12_away_44 : decode cX12_away 44 = .ok (.aload_n 0, 1) := by decide +kernel
theorem dX12_away_45 : decode cX12_away 45 = .ok (.getfield 22, 3) := by decide +kernel
theorem dX12_away_48 : decode cX12_away 48 = .ok (.aload_n 0, 1) := by decide +kernel
theorem dX12_away_49 : decode cX12_away 49 = .ok (.getfield 167, 3) := by decide +kernel
theorem dX12_away_5 : decode cX12_away 5 = .ok (.aload_n 0, 1) := by decide +kernel
theorem dX12_away_52 : decode cX12_away 52 = .ok (.iload_n 1, 1) := by decide +kernel
theorem dX12_away_53 : decode cX12_away 53 = .ok (.iastore, 1) := by decide +kernel
theorem dX12_away_54 : decode cX12_away 54 = .ok (.aload_n 0, 1) := by decide +kernel
theorem dX12_away_55 : decode cX12_away 55 = .ok (.getfield 25, 3) := by decide +kernel
theorem dX12_away_58 : decode cX12_away 58 = .ok (.aload_n 0, 1) := by decide +kernel
theorem dX12_away_59 : decode cX12_away 59 = .ok (.getfield 167, 3) := by decide +kernel
theorem dX12_away_6 : decode cX12_away 6 = .ok (.iload_n 1, 1) := by decide +kernel
theorem dX12_away_62 : decode cX12_away 62 = .ok (.iload_n 2, 1) := by decide +kernel
theorem dX12_away_63 : decode cX12_away 63 = .ok (.iastore, 1) := by decide +kernel
theorem dX12_away_64 : decode cX12_away 64 = .ok (.aload_n 0, 1) := by decide +kernel
theorem dX12_away_65 : decode cX12_away 65 = .ok (.getfield 28, 3) := by decide +kernel
theorem dX12_away_68 : decode cX12_away 68 = .ok (.aload_n 0, 1) := by decide +kernel
theorem dX12_away_69 : decode cX12_away 69 = .ok (.getfield 167, 3) := by decide +kernel
theorem dX12_away_7 : decode cX12_away 7 = .ok (.invokevirtual 160, 3) := by decide +kernel
theorem dX12_away_72 : decode cX12_away 72 = .ok (.iload_n 3, 1) := by decide +kernel
theorem dX12_away_73 : decode cX12_away 73 = .ok (.iastore, 1) := by decide +kernel
theorem dX12_away_74 : decode cX12_away 74 = .ok (.aload_n 0, 1) := by decide +kernel
theorem dX12_away_75 : decode cX12_away 75 = .ok (.dup, 1) := by decide +kernel
theorem dX12_away_76 : decode cX12_away 76 = .ok (.getfield 167, 3) := by decide +kernel
theorem dX12_away_79 : decode cX12_away 79 = .ok (.iconst 1, 1) := by decide +kernel
theorem dX12_away_80 : decode cX12_away 80 = .ok (.iadd, 1) := by decide +kernel
theorem dX12_away_81 : decode cX12_away 81 = .ok (.putfield 167, 3) := by decide +kernel
theorem dX12_away_84 : decode cX12_away 84 = .ok (.aload_n 0, 1) := by decide +kernel
theorem dX12_away_85 : decode cX12_away 85 = .ok (.getfield 167, 3) := by decide +kernel
theorem dX12_away_88 : decode cX12_away 88 = .ok (.ireturn, 1) := by decide +kernel
theorem dX12_bits_0 : decode cX12_bits 0 = .ok (.iload_n 0, 1) := by decide +kernel
theorem dX12_bits_1 : decode cX12_bits 1 = .ok (.invokestatic 264, 3) := by decide +kernel
theorem dX12_bits_4 : decode cX12_bits 4 = .ok (.ireturn, 1) := by decide +kernel
theorem dX12_both_0 : decode cX12_both 0 = .ok (.aload_n 0, 1) := by decide +kernel
theorem dX12_both_1 : decode cX12_both 1 = .ok (.iload_n 1, 1) := by decide +kernel
theorem dX12_both_10 : decode cX12_both 10 = .ok (.ifCond .eq 47, 3) := by decide +kernel
theorem dX12_both_13 : decode cX12_both 13 = .ok (.aload_n 0, 1) := by decide +kernel
theorem dX12_both_14 : decode cX12_both 14 = .ok (.bipush 38, 2) := by decide +kernel
theorem dX12_both_16 : decode cX12_both 16 = .ok (.invokevirtual 221, 3) := by decide +kernel
theorem dX12_both_19 : decode cX12_both 19 = .ok (.ifCond .eq 38, 3) := by decide +kernel
theorem dX12_both_2 : decode cX12_both 2 = .ok (.invokevirtual 224, 3) := by decide +kernel
theorem dX12_both_22 : decode cX12_both 22 = .ok (.aload_n 0, 1) := by decide +kernel
theorem dX12_both_23 : decode cX12_both 23 = .ok (.iload_n 1, 1) := by decide +kernel
theorem dX12_both_24 : decode cX12_both 24 = .ok (.invokevirtual 224, 3) := by decide +kernel
theorem dX12_both_27 : decode cX12_both 27 = .ok (.ifCond .eq 7, 3) := by decide +kernel
theorem dX12_both_30 : decode cX12_both 30 = .ok (.iconst 1, 1) := by decide +kernel
theorem dX12_both_31 : decode cX12_both 31 = .ok (.goto 4, 3) := by decide +kernel
theorem dX12_both_34 : decode cX12_both 34 = .ok (.iconst 0, 1) := by decide +kernel
theorem dX12_both_35 : decode cX12_both 35 = .ok (.iload_n 2, 1) := by decide +kernel
theorem dX12_both_36 : decode cX12_both 36 = .ok (.ifCond .eq 7, 3) := by decide +kernel
theorem dX12_both_39 : decode cX12_both 39 = .ok (.iconst 1, 1) := by decide +kernel
theorem dX12_both_40 : decode cX12_both 40 = .ok (.goto 4, 3) := by decide +kernel
theorem dX12_both_43 : decode cX12_both 43 = .ok (.iconst 0, 1) := by decide +kernel
theorem dX12_both_44 : decode cX12_both 44 = .ok (.iand, 1) := by decide +kernel
theorem dX12_both_45 : decode cX12_both 45 = .ok (.ifCond .eq 7, 3) := by decide +kernel
theorem dX12_both_48 : decode cX12_both 48 = .ok (.iconst 1, 1) := by decide +kernel
theorem dX12_both_49 : decode cX12_both 49 = .ok (.goto 4, 3) := by decide +kernel
theorem dX12_both_5 : decode cX12_both 5 = .ok (.istore_n 2, 1) := by decide +kernel
theorem dX12_both_52 : decode cX12_both 52 = .ok (.iconst 0, 1) := by decide +kernel
theorem dX12_both_53 : decode cX12_both 53 = .ok (.istore_n 2, 1) := by decide +kernel
theorem dX12_both_54 : decode cX12_both 54 = .ok (.goto (-48), 3) := by decide +kernel
theorem dX12_both_57 : decode cX12_both 57 = .ok (.iload_n 2, 1) := by decide +kernel
theorem dX12_both_58 : decode cX12_both 58 = .ok (.ireturn, 1) := by decide +kernel
theorem dX12_both_6 : decode cX12_both 6 = .ok (.aload_n 0, 1) := by decide +kernel
theorem dX12_both_7 : decode cX12_both 7 = .ok (.invokevirtual 217, 3) := by decide +kernel
theorem dX12_comes_0 : decode cX12_comes 0 = .ok (.aload_n 0, 1) := by decide +kernel
theorem dX12_comes_1 : decode cX12_comes 1 = .ok (.invokevirtual 211, 3) := by decide +kernel
theorem dX12_comes_10 : decode cX12_comes 10 = .ok (.aload_n 0, 1) := by decide +kernel
theorem dX12_comes_11 : decode cX12_comes 11 = .ok (.dup, 1) := by decide +kernel
theorem dX12_comes_12 : decode cX12_comes 12 = .ok (.getfield 197, 3) := by decide +kernel
theorem dX12_comes_15 : decode cX12_comes 15 = .ok (.iconst 1, 1) := by decide +kernel
theorem dX12_comes_16 : decode cX12_comes 16 = .ok (.iadd, 1) := by decide +kernel
theorem dX12_comes_17 : decode cX12_comes 17 = .ok (.putfield 197, 3) := by decide +kernel
theorem dX12_comes_20 : decode cX12_comes 20 = .ok (.iconst 1, 1) := by decide +kernel
theorem dX12_comes_21 : decode cX12_comes 21 = .ok (.ireturn, 1) := by decide +kernel
theorem dX12_comes_4 : decode cX12_comes 4 = .ok (.iload_n 1, 1) := by decide +kernel
theorem dX12_comes_5 : decode cX12_comes 5 = .ok (.if_icmp .eq 5, 3) := by decide +kernel
theorem dX12_comes_8 : decode cX12_comes 8 = .ok (.iconst 0, 1) := by decide +kernel
theorem dX12_comes_9 : decode cX12_comes 9 = .ok (.ireturn, 1) := by decide +kernel
theorem dX12_end_0 : decode cX12_end 0 = .ok (.aload_n 0, 1) := by decide +kernel
theorem dX12_end_1 : decode cX12_end 1 = .ok (.iconst 0, 1) := by decide +kernel
theorem dX12_end_11 : decode cX12_end 11 = .ok (.invokestatic 145, 3) := by decide +kernel
theorem dX12_end_14 : decode cX12_end 14 = .ok (.ifCond .ne 5, 3) := by decide +kernel
theorem dX12_end_17 : decode cX12_end 17 = .ok (.iconst 0, 1) := by decide +kernel
theorem dX12_end_18 : decode cX12_end 18 = .ok (.ireturn, 1) := by decide +kernel
theorem dX12_end_19 : decode cX12_end 19 = .ok (.aload_n 0, 1) := by decide +kernel
theorem dX12_end_2 : decode cX12_end 2 = .ok (.putfield 139, 3) := by decide +kernel
theorem dX12_end_20 : decode cX12_end 20 = .ok (.iload_n 1, 1) := by decide +kernel
theorem dX12_end_21 : decode cX12_end 21 = .ok (.putfield 177, 3) := by decide +kernel
theorem dX12_end_24 : decode cX12_end 24 = .ok (.iconst 1, 1) := by decide +kernel
theorem dX12_end_25 : decode cX12_end 25 = .ok (.ireturn, 1) := by decide +kernel
theorem dX12_end_5 : decode cX12_end 5 = .ok (.iload_n 1, 1) := by decide +kernel
theorem dX12_end_6 : decode cX12_end 6 = .ok (.iconst 0, 1) := by decide +kernel
theorem dX12_end_7 : decode cX12_end 7 = .ok (.aload_n 0, 1) := by decide +kernel
theorem dX12_end_8 : decode cX12_end 8 = .ok (.getfield 177, 3) := by decide +kernel
theorem dX12_fine_0 : decode cX12_fine 0 = .ok (.aload_n 0, 1) := by decide +kernel
theorem dX12_fine_1 : decode cX12_fine 1 = .ok (.getfield 200, 3) := by decide +kernel
theorem dX12_fine_12 : decode cX12_fine 12 = .ok (.iconst 0, 1) := by decide +kernel
theorem dX12_fine_13 : decode cX12_fine 13 = .ok (.ireturn, 1) := by decide +kernel
theorem dX12_fine_4 : decode cX12_fine 4 = .ok (.iconst (-1), 1) := by decide +kernel
theorem dX12_fine_5 : decode cX12_fine 5 = .ok (.if_icmp .ne 7, 3) := by decide +kernel
theorem dX12_fine_8 : decode cX12_fine 8 = .ok (.iconst 1, 1) := by decide +kernel
theorem dX12_fine_9 : decode cX12_fine 9 = .ok (.goto 4, 3) := by decide +kernel
theorem dX12_get_0 : decode cX12_get 0 = .ok (.aload_n 0, 1) := by decide +kernel
theorem dX12_get_1 : decode cX12_get 1 = .ok (.getfield 107, 3) := by decide +kernel
theorem dX12_get_10 : decode cX12_get 10 = .ok (.iload_n 2, 1) := by decide +kernel
theorem dX12_get_11 : decode cX12_get 11 = .ok (.iadd, 1) := by decide +kernel
theorem dX12_get_12 : decode cX12_get 12 = .ok (.iaload, 1) := by decide +kernel
theorem dX12_get_13 : decode cX12_get 13 = .ok (.ireturn, 1) := by decide +kernel
theorem dX12_get_4 : decode cX12_get 4 = .ok (.iconst 1, 1) := by decide +kernel
theorem dX12_get_5 : decode cX12_get 5 = .ok (.bipush 6, 2) := by decide +kernel
theorem dX12_get_7 : decode cX12_get 7 = .ok (.iload_n 1, 1) := by decide +kernel
theorem dX12_get_8 : decode cX12_get 8 = .ok (.imul, 1) := by decide +kernel
theorem dX12_get_9 : decode cX12_get 9 = .ok (.iadd, 1) := by decide +kernel
theorem dX12_hand_0 : decode cX12_hand 0 = .ok (.aload_n 0, 1) := by decide +kernel
theorem dX12_hand_1 : decode cX12_hand 1 = .ok (.iconst 0, 1) := by decide +kernel
theorem dX12_hand_100 : decode cX12_hand 100 = .ok (.aload_n 0, 1) := by decide +kernel
theorem dX12_hand_101 : decode cX12_hand 101 = .ok (.aload_n 0, 1) := by decide +kernel
theorem dX12_hand_102 : decode cX12_hand 102 = .ok (.getfield 142, 3) := by decide +kernel
theorem dX12_hand_105 : decode cX12_hand 105 = .ok (.iconst 1, 1) := by decide +kernel
theorem dX12_hand_106 : decode cX12_hand 106 = .ok (.iconst (-1), 1) := by decide +kernel
theorem dX12_hand_107 : decode cX12_hand 107 = .ok (.invokevirtual 156, 3) := by decide +kernel
theorem dX12_hand_11 : decode cX12_hand 11 = .ok (.invokestatic 145, 3) := by decide +kernel
theorem dX12_hand_110 : decode cX12_hand 110 = .ok (.aload_n 0, 1) := by decide +kernel
theorem dX12_hand_111 : decode cX12_hand 111 = .ok (.aload_n 0, 1) := by decide +kernel
theorem dX12_hand_112 : decode cX12_hand 112 = .ok (.getfield 142, 3) := by decide +kernel
theorem dX12_hand_115 : decode cX12_hand 115 = .ok (.iconst 2, 1) := by decide +kernel
theorem dX12_hand_116 : decode cX12_hand 116 = .ok (.iload_n 3, 1) := by decide +kernel
theorem dX12_hand_117 : decode cX12_hand 117 = .ok (.invokevirtual 156, 3) := by decide +kernel
theorem dX12_hand_120 : decode cX12_hand 120 = .ok (.aload_n 0, 1) := by decide +kernel
theorem dX12_hand_121 : decode cX12_hand 121 = .ok (.dup, 1) := by decide +kernel
theorem dX12_hand_122 : decode cX12_hand 122 = .ok (.getfield 142, 3) := by decide +kernel
theorem dX12_hand_125 : decode cX12_hand 125 = .ok (.iconst 1, 1) := by decide +kernel
theorem dX12_hand_126 : decode cX12_hand 126 = .ok (.iadd, 1) := by decide +kernel
theorem dX12_hand_127 : decode cX12_hand 127 = .ok (.putfield 142, 3) := by decide +kernel
theorem dX12_hand_130 : decode cX12_hand 130 = .ok (.aload_n 0, 1) := by decide +kernel
theorem dX12_hand_131 : decode cX12_hand 131 = .ok (.getfield 142, 3) := by decide +kernel
theorem dX12_hand_134 : decode cX12_hand 134 = .ok (.iconst 1, 1) := by decide +kernel
theorem dX12_hand_135 : decode cX12_hand 135 = .ok (.isub, 1) := by decide +kernel
theorem dX12_hand_136 : decode cX12_hand 136 = .ok (.ireturn, 1) := by decide +kernel
theorem dX12_hand_14 : decode cX12_hand 14 = .ok (.ifCond .eq 43, 3) := by decide +kernel
theorem dX12_hand_17 : decode cX12_hand 17 = .ok (.iload_n 2, 1) := by decide +kernel
theorem dX12_hand_18 : decode cX12_hand 18 = .ok (.iconst 0, 1) := by decide +kernel
theorem dX12_hand_19 : decode cX12_hand 19 = .ok (.sipush 255, 3) := by decide +kernel
theorem dX12_hand_2 : decode cX12_hand 2 = .ok (.putfield 139, 3) := by decide +kernel
theorem dX12_hand_22 : decode cX12_hand 22 = .ok (.invokestatic 145, 3) := by decide +kernel
theorem dX12_hand_25 : decode cX12_hand 25 = .ok (.ifCond .eq 32, 3) := by decide +kernel
theorem dX12_hand_28 : decode cX12_hand 28 = .ok (.iload_n 3, 1) := by decide +kernel
theorem dX12_hand_29 : decode cX12_hand 29 = .ok (.iconst 0, 1) := by decide +kernel
theorem dX12_hand_30 : decode cX12_hand 30 = .ok (.ldc 155, 2) := by decide +kernel
theorem dX12_hand_32 : decode cX12_hand 32 = .ok (.invokestatic 145, 3) := by decide +kernel
theorem dX12_hand_35 : decode cX12_hand 35 = .ok (.ifCond .eq 22, 3) := by decide +kernel
theorem dX12_hand_38 : decode cX12_hand 38 = .ok (.iload 4, 2) := by decide +kernel
theorem dX12_hand_40 : decode cX12_hand 40 = .ok (.iconst 0, 1) := by decide +kernel
theorem dX12_hand_41 : decode cX12_hand 41 = .ok (.iconst 3, 1) := by decide +kernel
theorem dX12_hand_42 : decode cX12_hand 42 = .ok (.invokestatic 145, 3) := by decide +kernel
theorem dX12_hand_45 : decode cX12_hand 45 = .ok (.ifCond .eq 12, 3) := by decide +kernel
theorem dX12_hand_48 : decode cX12_hand 48 = .ok (.aload_n 0, 1) := by decide +kernel
theorem dX12_hand_49 : decode cX12_hand 49 = .ok (.getfield 142, 3) := by decide +kernel
theorem dX12_hand_5 : decode cX12_hand 5 = .ok (.iload_n 1, 1) := by decide +kernel
theorem dX12_hand_52 : decode cX12_hand 52 = .ok (.bipush 8, 2) := by decide +kernel
theorem dX12_hand_54 : decode cX12_hand 54 = .ok (.if_icmp .ne 5, 3) := by decide +kernel
theorem dX12_hand_57 : decode cX12_hand 57 = .ok (.iconst (-1), 1) := by decide +kernel
theorem dX12_hand_58 : decode cX12_hand 58 = .ok (.ireturn, 1) := by decide +kernel
theorem dX12_hand_59 : decode cX12_hand 59 = .ok (.aload_n 0, 1) := by decide +kernel
theorem dX12_hand_6 : decode cX12_hand 6 = .ok (.bipush 10, 2) := by decide +kernel
theorem dX12_hand_60 : decode cX12_hand 60 = .ok (.getfield 13, 3) := by decide +kernel
theorem dX12_hand_63 : decode cX12_hand 63 = .ok (.aload_n 0, 1) := by decide +kernel
theorem dX12_hand_64 : decode cX12_hand 64 = .ok (.getfield 142, 3) := by decide +kernel
theorem dX12_hand_67 : decode cX12_hand 67 = .ok (.iload_n 1, 1) := by decide +kernel
theorem dX12_hand_68 : decode cX12_hand 68 = .ok (.iastore, 1) := by decide +kernel
theorem dX12_hand_69 : decode cX12_hand 69 = .ok (.aload_n 0, 1) := by decide +kernel
theorem dX12_hand_70 : decode cX12_hand 70 = .ok (.getfield 16, 3) := by decide +kernel
theorem dX12_hand_73 : decode cX12_hand 73 = .ok (.aload_n 0, 1) := by decide +kernel
theorem dX12_hand_74 : decode cX12_hand 74 = .ok (.getfield 142, 3) := by decide +kernel
theorem dX12_hand_77 : decode cX12_hand 77 = .ok (.iload_n 2, 1) := by decide +kernel
theorem dX12_hand_78 : decode cX12_hand 78 = .ok (.iastore, 1) := by decide +kernel
theorem dX12_hand_79 : decode cX12_hand 79 = .ok (.aload_n 0, 1) := by decide +kernel
theorem dX12_hand_8 : decode cX12_hand 8 = .ok (.sipush 200, 3) := by decide +kernel
theorem dX12_hand_80 : decode cX12_hand 80 = .ok (.getfield 19, 3) := by decide +kernel
theorem dX12_hand_83 : decode cX12_hand 83 = .ok (.aload_n 0, 1) := by decide +kernel
theorem dX12_hand_84 : decode cX12_hand 84 = .ok (.getfield 142, 3) := by decide +kernel
theorem dX12_hand_87 : decode cX12_hand 87 = .ok (.iload 4, 2) := by decide +kernel
theorem dX12_hand_89 : decode cX12_hand 89 = .ok (.iastore, 1) := by decide +kernel
theorem dX12_hand_90 : decode cX12_hand 90 = .ok (.aload_n 0, 1) := by decide +kernel
theorem dX12_hand_91 : decode cX12_hand 91 = .ok (.aload_n 0, 1) := by decide +kernel
theorem dX12_hand_92 : decode cX12_hand 92 = .ok (.getfield 142, 3) := by decide +kernel
theorem dX12_hand_95 : decode cX12_hand 95 = .ok (.iconst 0, 1) := by decide +kernel
theorem dX12_hand_96 : decode cX12_hand 96 = .ok (.iconst (-1), 1) := by decide +kernel
theorem dX12_hand_97 : decode cX12_hand 97 = .ok (.invokevirtual 156, 3) := by decide +kernel
theorem dX12_held_0 : decode cX12_held 0 = .ok (.aload_n 0, 1) := by decide +kernel
theorem dX12_held_1 : decode cX12_held 1 = .ok (.iload_n 1, 1) := by decide +kernel
theorem dX12_held_10 : decode cX12_held 10 = .ok (.ifCond .ne 5, 3) := by decide +kernel
theorem dX12_held_13 : decode cX12_held 13 = .ok (.iconst 0, 1) := by decide +kernel
theorem dX12_held_14 : decode cX12_held 14 = .ok (.ireturn, 1) := by decide +kernel
theorem dX12_held_15 : decode cX12_held 15 = .ok (.aload_n 0, 1) := by decide +kernel
theorem dX12_held_16 : decode cX12_held 16 = .ok (.bipush 60, 2) := by decide +kernel
theorem dX12_held_18 : decode cX12_held 18 = .ok (.invokevirtual 221, 3) := by decide +kernel
theorem dX12_held_2 : decode cX12_held 2 = .ok (.invokevirtual 227, 3) := by decide +kernel
theorem dX12_held_21 : decode cX12_held 21 = .ok (.ifCond .eq 18, 3) := by decide +kernel
theorem dX12_held_24 : decode cX12_held 24 = .ok (.iload_n 2, 1) := by decide +kernel
theorem dX12_held_25 : decode cX12_held 25 = .ok (.aload_n 0, 1) := by decide +kernel
theorem dX12_held_26 : decode cX12_held 26 = .ok (.iload_n 1, 1) := by decide +kernel
theorem dX12_held_27 : decode cX12_held 27 = .ok (.invokevirtual 227, 3) := by decide +kernel
theorem dX12_held_30 : decode cX12_held 30 = .ok (.if_icmp .ge 7, 3) := by decide +kernel
theorem dX12_held_33 : decode cX12_held 33 = .ok (.iconst 1, 1) := by decide +kernel
theorem dX12_held_34 : decode cX12_held 34 = .ok (.goto 4, 3) := by decide +kernel
theorem dX12_held_37 : decode cX12_held 37 = .ok (.iconst 0, 1) := by decide +kernel
theorem dX12_held_38 : decode cX12_held 38 = .ok (.ireturn, 1) := by decide +kernel
theorem dX12_held_39 : decode cX12_held 39 = .ok (.aload_n 0, 1) := by decide +kernel
theorem dX12_held_40 : decode cX12_held 40 = .ok (.bipush 62, 2) := by decide +kernel
theorem dX12_held_42 : decode cX12_held 42 = .ok (.invokevirtual 221, 3) := by decide +kernel
theorem dX12_held_45 : decode cX12_held 45 = .ok (.ifCond .eq 18, 3) := by decide +kernel
theorem dX12_held_48 : decode cX12_held 48 = .ok (.iload_n 2, 1) := by decide +kernel
theorem dX12_held_49 : decode cX12_held 49 = .ok (.aload_n 0, 1) := by decide +kernel
theorem dX12_held_5 : decode cX12_held 5 = .ok (.istore_n 2, 1) := by decide +kernel
theorem dX12_held_50 : decode cX12_held 50 = .ok (.iload_n 1, 1) := by decide +kernel
theorem dX12_held_51 : decode cX12_held 51 = .ok (.invokevirtual 227, 3) := by decide +kernel
theorem dX12_held_54 : decode cX12_held 54 = .ok (.if_icmp .le 7, 3) := by decide +kernel
theorem dX12_held_57 : decode cX12_held 57 = .ok (.iconst 1, 1) := by decide +kernel
theorem dX12_held_58 : decode cX12_held 58 = .ok (.goto 4, 3) := by decide +kernel
theorem dX12_held_6 : decode cX12_held 6 = .ok (.aload_n 0, 1) := by decide +kernel
theorem dX12_held_61 : decode cX12_held 61 = .ok (.iconst 0, 1) := by decide +kernel
theorem dX12_held_62 : decode cX12_held 62 = .ok (.ireturn, 1) := by decide +kernel
theorem dX12_held_63 : decode cX12_held 63 = .ok (.aload_n 0, 1) := by decide +kernel
theorem dX12_held_64 : decode cX12_held 64 = .ok (.bipush 61, 2) := by decide +kernel
theorem dX12_held_66 : decode cX12_held 66 = .ok (.invokevirtual 221, 3) := by decide +kernel
theorem dX12_held_69 : decode cX12_held 69 = .ok (.ifCond .eq 18, 3) := by decide +kernel
theorem dX12_held_7 : decode cX12_held 7 = .ok (.invokevirtual 217, 3) := by decide +kernel
theorem dX12_held_72 : decode cX12_held 72 = .ok (.iload_n 2, 1) := by decide +kernel
theorem dX12_held_73 : decode cX12_held 73 = .ok (.aload_n 0, 1) := by decide +kernel
theorem dX12_held_74 : decode cX12_held 74 = .ok (.iload_n 1, 1) := by decide +kernel
theorem dX12_held_75 : decode cX12_held 75 = .ok (.invokevirtual 227, 3) := by decide +kernel
theorem dX12_held_78 : decode cX12_held 78 = .ok (.if_icmp .ne 7, 3) := by decide +kernel
theorem dX12_held_81 : decode cX12_held 81 = .ok (.iconst 1, 1) := by decide +kernel
theorem dX12_held_82 : decode cX12_held 82 = .ok (.goto 4, 3) := by decide +kernel
theorem dX12_held_85 : decode cX12_held 85 = .ok (.iconst 0, 1) := by decide +kernel
theorem dX12_held_86 : decode cX12_held 86 = .ok (.ireturn, 1) := by decide +kernel
theorem dX12_held_87 : decode cX12_held 87 = .ok (.iload_n 2, 1) := by decide +kernel
theorem dX12_held_88 : decode cX12_held 88 = .ok (.ireturn, 1) := by decide +kernel
theorem dX12_here_0 : decode cX12_here 0 = .ok (.aload_n 0, 1) := by decide +kernel
theorem dX12_here_1 : decode cX12_here 1 = .ok (.getfield 197, 3) := by decide +kernel
theorem dX12_here_11 : decode cX12_here 11 = .ok (.aload_n 0, 1) := by decide +kernel
theorem dX12_here_12 : decode cX12_here 12 = .ok (.getfield 197, 3) := by decide +kernel
theorem dX12_here_15 : decode cX12_here 15 = .ok (.bipush 60, 2) := by decide +kernel
theorem dX12_here_17 : decode cX12_here 17 = .ok (.if_icmp .ge 24, 3) := by decide +kernel
theorem dX12_here_20 : decode cX12_here 20 = .ok (.aload_n 0, 1) := by decide +kernel
theorem dX12_here_21 : decode cX12_here 21 = .ok (.getfield 188, 3) := by decide +kernel
theorem dX12_here_24 : decode cX12_here 24 = .ok (.aload_n 0, 1) := by decide +kernel
theorem dX12_here_25 : decode cX12_here 25 = .ok (.getfield 191, 3) := by decide +kernel
theorem dX12_here_28 : decode cX12_here 28 = .ok (.aload_n 0, 1) := by decide +kernel
theorem dX12_here_29 : decode cX12_here 29 = .ok (.getfield 197, 3) := by decide +kernel
theorem dX12_here_32 : decode cX12_here 32 = .ok (.iadd, 1) := by decide +kernel
theorem dX12_here_33 : decode cX12_here 33 = .ok (.baload, 1) := by decide +kernel
theorem dX12_here_34 : decode cX12_here 34 = .ok (.sipush 255, 3) := by decide +kernel
theorem dX12_here_37 : decode cX12_here 37 = .ok (.iand, 1) := by decide +kernel
theorem dX12_here_38 : decode cX12_here 38 = .ok (.goto 4, 3) := by decide +kernel
theorem dX12_here_4 : decode cX12_here 4 = .ok (.aload_n 0, 1) := by decide +kernel
theorem dX12_here_41 : decode cX12_here 41 = .ok (.iconst (-1), 1) := by decide +kernel
theorem dX12_here_42 : decode cX12_here 42 = .ok (.ireturn, 1) := by decide +kernel
theorem dX12_here_5 : decode cX12_here 5 = .ok (.getfield 194, 3) := by decide +kernel
theorem dX12_here_8 : decode cX12_here 8 = .ok (.if_icmp .ge 33, 3) := by decide +kernel
theorem dX12_in_0 : decode cX12_in 0 = .ok (.iload_n 0, 1) := by decide +kernel
theorem dX12_in_1 : decode cX12_in 1 = .ok (.iload_n 1, 1) := by decide +kernel
theorem dX12_in_10 : decode cX12_in 10 = .ok (.iconst 1, 1) := by decide +kernel
theorem dX12_in_11 : decode cX12_in 11 = .ok (.goto 4, 3) := by decide +kernel
theorem dX12_in_14 : decode cX12_in 14 = .ok (.iconst 0, 1) := by decide +kernel
theorem dX12_in_15 : decode cX12_in 15 = .ok (.ireturn, 1) := by decide +kernel
theorem dX12_in_2 : decode cX12_in 2 = .ok (.if_icmp .lt 12, 3) := by decide +kernel
theorem dX12_in_5 : decode cX12_in 5 = .ok (.iload_n 0, 1) := by decide +kernel
theorem dX12_in_6 : decode cX12_in 6 = .ok (.iload_n 2, 1) := by decide +kernel
theorem dX12_in_7 : decode cX12_in 7 = .ok (.if_icmp .gt 7, 3) := by decide +kernel
theorem dX12_isAway_0 : decode cX12_isAway 0 = .ok (.iconst 0, 1) := by decide +kernel
theorem dX12_isAway_1 : decode cX12_isAway 1 = .ok (.istore_n 3, 1) := by decide +kernel
theorem dX12_isAway_10 : decode cX12_isAway 10 = .ok (.aload_n 0, 1) := by decide +kernel
theorem dX12_isAway_11 : decode cX12_isAway 11 = .ok (.getfield 22, 3) := by decide +kernel
theorem dX12_isAway_14 : decode cX12_isAway 14 = .ok (.iload_n 3, 1) := by decide +kernel
theorem dX12_isAway_15 : decode cX12_isAway 15 = .ok (.iaload, 1) := by decide +kernel
theorem dX12_isAway_16 : decode cX12_isAway 16 = .ok (.iload_n 1, 1) := by decide +kernel
theorem dX12_isAway_17 : decode cX12_isAway 17 = .ok (.if_icmp .ne 26, 3) := by decide +kernel
theorem dX12_isAway_2 : decode cX12_isAway 2 = .ok (.iload_n 3, 1) := by decide +kernel
theorem dX12_isAway_20 : decode cX12_isAway 20 = .ok (.iload_n 2, 1) := by decide +kernel
theorem dX12_isAway_21 : decode cX12_isAway 21 = .ok (.aload_n 0, 1) := by decide +kernel
theorem dX12_isAway_22 : decode cX12_isAway 22 = .ok (.getfield 25, 3) := by decide +kernel
theorem dX12_isAway_25 : decode cX12_isAway 25 = .ok (.iload_n 3, 1) := by decide +kernel
theorem dX12_isAway_26 : decode cX12_isAway 26 = .ok (.iaload, 1) := by decide +kernel
theorem dX12_isAway_27 : decode cX12_isAway 27 = .ok (.aload_n 0, 1) := by decide +kernel
theorem dX12_isAway_28 : decode cX12_isAway 28 = .ok (.getfield 28, 3) := by decide +kernel
theorem dX12_isAway_3 : decode cX12_isAway 3 = .ok (.aload_n 0, 1) := by decide +kernel
theorem dX12_isAway_31 : decode cX12_isAway 31 = .ok (.iload_n 3, 1) := by decide +kernel
theorem dX12_isAway_32 : decode cX12_isAway 32 = .ok (.iaload, 1) := by decide +kernel
theorem dX12_isAway_33 : decode cX12_isAway 33 = .ok (.iconst 1, 1) := by decide +kernel
theorem dX12_isAway_34 : decode cX12_isAway 34 = .ok (.isub, 1) := by decide +kernel
theorem dX12_isAway_35 : decode cX12_isAway 35 = .ok (.invokestatic 145, 3) := by decide +kernel
theorem dX12_isAway_38 : decode cX12_isAway 38 = .ok (.ifCond .eq 5, 3) := by decide +kernel
theorem dX12_isAway_4 : decode cX12_isAway 4 = .ok (.getfield 167, 3) := by decide +kernel
theorem dX12_isAway_41 : decode cX12_isAway 41 = .ok (.iconst 1, 1) := by decide +kernel
theorem dX12_isAway_42 : decode cX12_isAway 42 = .ok (.ireturn, 1) := by decide +kernel
theorem dX12_isAway_43 : decode cX12_isAway 43 = .ok (.iinc 3 1, 3) := by decide +kernel
theorem dX12_isAway_46 : decode cX12_isAway 46 = .ok (.goto (-44), 3) := by decide +kernel
theorem dX12_isAway_49 : decode cX12_isAway 49 = .ok (.iconst 0, 1) := by decide +kernel
theorem dX12_isAway_50 : decode cX12_isAway 50 = .ok (.ireturn, 1) := by decide +kernel
theorem dX12_isAway_7 : decode cX12_isAway 7 = .ok (.if_icmp .ge 42, 3) := by decide +kernel
theorem dX12_isDigit_0 : decode cX12_isDigit 0 = .ok (.aload_n 0, 1) := by decide +kernel
theorem dX12_isDigit_1 : decode cX12_isDigit 1 = .ok (.invokevirtual 211, 3) := by decide +kernel
theorem dX12_isDigit_10 : decode cX12_isDigit 10 = .ok (.invokevirtual 211, 3) := by decide +kernel
theorem dX12_isDigit_13 : decode cX12_isDigit 13 = .ok (.bipush 57, 2) := by decide +kernel
theorem dX12_isDigit_15 : decode cX12_isDigit 15 = .ok (.if_icmp .gt 7, 3) := by decide +kernel
theorem dX12_isDigit_18 : decode cX12_isDigit 18 = .ok (.iconst 1, 1) := by decide +kernel
theorem dX12_isDigit_19 : decode cX12_isDigit 19 = .ok (.goto 4, 3) := by decide +kernel
theorem dX12_isDigit_22 : decode cX12_isDigit 22 = .ok (.iconst 0, 1) := by decide +kernel
theorem dX12_isDigit_23 : decode cX12_isDigit 23 = .ok (.ireturn, 1) := by decide +kernel
theorem dX12_isDigit_4 : decode cX12_isDigit 4 = .ok (.bipush 48, 2) := by decide +kernel
theorem dX12_isDigit_6 : decode cX12_isDigit 6 = .ok (.if_icmp .lt 16, 3) := by decide +kernel
theorem dX12_isDigit_9 : decode cX12_isDigit 9 = .ok (.aload_n 0, 1) := by decide +kernel
theorem dX12_isHand_0 : decode cX12_isHand 0 = .ok (.iload_n 1, 1) := by decide +kernel
theorem dX12_isHand_1 : decode cX12_isHand 1 = .ok (.iconst 0, 1) := by decide +kernel
theorem dX12_isHand_11 : decode cX12_isHand 11 = .ok (.ireturn, 1) := by decide +kernel
theorem dX12_isHand_2 : decode cX12_isHand 2 = .ok (.aload_n 0, 1) := by decide +kernel
theorem dX12_isHand_3 : decode cX12_isHand 3 = .ok (.getfield 142, 3) := by decide +kernel
theorem dX12_isHand_6 : decode cX12_isHand 6 = .ok (.iconst 1, 1) := by decide +kernel
theorem dX12_isHand_7 : decode cX12_isHand 7 = .ok (.isub, 1) := by decide +kernel
theorem dX12_isHand_8 : decode cX12_isHand 8 = .ok (.invokestatic 145, 3) := by decide +kernel
theorem dX12_isPiece_0 : decode cX12_isPiece 0 = .ok (.iload_n 1, 1) := by decide +kernel
theorem dX12_isPiece_1 : decode cX12_isPiece 1 = .ok (.iconst 0, 1) := by decide +kernel
theorem dX12_isPiece_11 : decode cX12_isPiece 11 = .ok (.ireturn, 1) := by decide +kernel
theorem dX12_isPiece_2 : decode cX12_isPiece 2 = .ok (.aload_n 0, 1) := by decide +kernel
theorem dX12_isPiece_3 : decode cX12_isPiece 3 = .ok (.getfield 149, 3) := by decide +kernel
theorem dX12_isPiece_6 : decode cX12_isPiece 6 = .ok (.iconst 1, 1) := by decide +kernel
theorem dX12_isPiece_7 : decode cX12_isPiece 7 = .ok (.isub, 1) := by decide +kernel
theorem dX12_isPiece_8 : decode cX12_isPiece 8 = .ok (.invokestatic 145, 3) := by decide +kernel
theorem dX12_isWrong_0 : decode cX12_isWrong 0 = .ok (.aload_n 0, 1) := by decide +kernel
theorem dX12_isWrong_1 : decode cX12_isWrong 1 = .ok (.getfield 200, 3) := by decide +kernel
theorem dX12_isWrong_10 : decode cX12_isWrong 10 = .ok (.getfield 197, 3) := by decide +kernel
theorem dX12_isWrong_13 : decode cX12_isWrong 13 = .ok (.putfield 200, 3) := by decide +kernel
theorem dX12_isWrong_16 : decode cX12_isWrong 16 = .ok (.iconst 0, 1) := by decide +kernel
theorem dX12_isWrong_17 : decode cX12_isWrong 17 = .ok (.ireturn, 1) := by decide +kernel
theorem dX12_isWrong_4 : decode cX12_isWrong 4 = .ok (.iconst (-1), 1) := by decide +kernel
theorem dX12_isWrong_5 : decode cX12_isWrong 5 = .ok (.if_icmp .ne 11, 3) := by decide +kernel
theorem dX12_isWrong_8 : decode cX12_isWrong 8 = .ok (.aload_n 0, 1) := by decide +kernel
theorem dX12_isWrong_9 : decode cX12_isWrong 9 = .ok (.aload_n 0, 1) := by decide +kernel
theorem dX12_lost_0 : decode cX12_lost 0 = .ok (.aload_n 0, 1) := by decide +kernel
theorem dX12_lost_1 : decode cX12_lost 1 = .ok (.iconst 1, 1) := by decide +kernel
theorem dX12_lost_2 : decode cX12_lost 2 = .ok (.putfield 139, 3) := by decide +kernel
theorem dX12_lost_5 : decode cX12_lost 5 = .ok (.iconst 0, 1) := by decide +kernel
theorem dX12_lost_6 : decode cX12_lost 6 = .ok (.ireturn, 1) := by decide +kernel
theorem dX12_minutes_0 : decode cX12_minutes 0 = .ok (.iload_n 0, 1) := by decide +kernel
theorem dX12_minutes_1 : decode cX12_minutes 1 = .ok (.iload_n 1, 1) := by decide +kernel
theorem dX12_minutes_2 : decode cX12_minutes 2 = .ok (.iadd, 1) := by decide +kernel
theorem dX12_minutes_3 : decode cX12_minutes 3 = .ok (.iconst 1, 1) := by decide +kernel
theorem dX12_minutes_4 : decode cX12_minutes 4 = .ok (.isub, 1) := by decide +kernel
theorem dX12_minutes_5 : decode cX12_minutes 5 = .ok (.iload_n 1, 1) := by decide +kernel
theorem dX12_minutes_6 : decode cX12_minutes 6 = .ok (.idiv, 1) := by decide +kernel
theorem dX12_minutes_7 : decode cX12_minutes 7 = .ok (.ireturn, 1) := by decide +kernel
theorem dX12_names_0 : decode cX12_names 0 = .ok (.iload_n 0, 1) := by decide +kernel
theorem dX12_names_1 : decode cX12_names 1 = .ok (.tableswitch 36 0 2 #[27, 30, 33], 27) := by decide +kernel
theorem dX12_names_28 : decode cX12_names 28 = .ok (.ldc 180, 2) := by decide +kernel
theorem dX12_names_30 : decode cX12_names 30 = .ok (.areturn, 1) := by decide +kernel
theorem dX12_names_31 : decode cX12_names 31 = .ok (.ldc 182, 2) := by decide +kernel
theorem dX12_names_33 : decode cX12_names 33 = .ok (.areturn, 1) := by decide +kernel
theorem dX12_names_34 : decode cX12_names 34 = .ok (.ldc 184, 2) := by decide +kernel
theorem dX12_names_36 : decode cX12_names 36 = .ok (.areturn, 1) := by decide +kernel
theorem dX12_names_37 : decode cX12_names 37 = .ok (.ldc 186, 2) := by decide +kernel
theorem dX12_names_39 : decode cX12_names 39 = .ok (.areturn, 1) := by decide +kernel
theorem dX12_now_0 : decode cX12_now 0 = .ok (.aload_n 0, 1) := by decide +kernel
theorem dX12_now_1 : decode cX12_now 1 = .ok (.getfield 107, 3) := by decide +kernel
theorem dX12_now_4 : decode cX12_now 4 = .ok (.iconst 0, 1) := by decide +kernel
theorem dX12_now_5 : decode cX12_now 5 = .ok (.iaload, 1) := by decide +kernel
theorem dX12_now_6 : decode cX12_now 6 = .ok (.ireturn, 1) := by decide +kernel
theorem dX12_open_0 : decode cX12_open 0 = .ok (.aload_n 0, 1) := by decide +kernel
theorem dX12_open_1 : decode cX12_open 1 = .ok (.aload_n 1, 1) := by decide +kernel
theorem dX12_open_10 : decode cX12_open 10 = .ok (.aload_n 0, 1) := by decide +kernel
theorem dX12_open_11 : decode cX12_open 11 = .ok (.iload_n 3, 1) := by decide +kernel
theorem dX12_open_12 : decode cX12_open 12 = .ok (.putfield 194, 3) := by decide +kernel
theorem dX12_open_15 : decode cX12_open 15 = .ok (.aload_n 0, 1) := by decide +kernel
theorem dX12_open_16 : decode cX12_open 16 = .ok (.iconst 0, 1) := by decide +kernel
theorem dX12_open_17 : decode cX12_open 17 = .ok (.putfield 197, 3) := by decide +kernel
theorem dX12_open_2 : decode cX12_open 2 = .ok (.putfield 188, 3) := by decide +kernel
theorem dX12_open_20 : decode cX12_open 20 = .ok (.aload_n 0, 1) := by decide +kernel
theorem dX12_open_21 : decode cX12_open 21 = .ok (.iconst (-1), 1) := by decide +kernel
theorem dX12_open_22 : decode cX12_open 22 = .ok (.putfield 200, 3) := by decide +kernel
theorem dX12_open_25 : decode cX12_open 25 = .ok (.aload_n 0, 1) := by decide +kernel
theorem dX12_open_26 : decode cX12_open 26 = .ok (.iload 4, 2) := by decide +kernel
theorem dX12_open_28 : decode cX12_open 28 = .ok (.invokestatic 203, 3) := by decide +kernel
theorem dX12_open_31 : decode cX12_open 31 = .ok (.putfield 207, 3) := by decide +kernel
theorem dX12_open_34 : decode cX12_open 34 = .ok (.return_, 1) := by decide +kernel
theorem dX12_open_5 : decode cX12_open 5 = .ok (.aload_n 0, 1) := by decide +kernel
theorem dX12_open_6 : decode cX12_open 6 = .ok (.iload_n 2, 1) := by decide +kernel
theorem dX12_open_7 : decode cX12_open 7 = .ok (.putfield 191, 3) := by decide +kernel
theorem dX12_piece_0 : decode cX12_piece 0 = .ok (.aload_n 0, 1) := by decide +kernel
theorem dX12_piece_1 : decode cX12_piece 1 = .ok (.getfield 107, 3) := by decide +kernel
theorem dX12_piece_10 : decode cX12_piece 10 = .ok (.iload_n 2, 1) := by decide +kernel
theorem dX12_piece_11 : decode cX12_piece 11 = .ok (.iadd, 1) := by decide +kernel
theorem dX12_piece_12 : decode cX12_piece 12 = .ok (.iaload, 1) := by decide +kernel
theorem dX12_piece_13 : decode cX12_piece 13 = .ok (.ireturn, 1) := by decide +kernel
theorem dX12_piece_4 : decode cX12_piece 4 = .ok (.bipush 49, 2) := by decide +kernel
theorem dX12_piece_6 : decode cX12_piece 6 = .ok (.iconst 5, 1) := by decide +kernel
theorem dX12_piece_7 : decode cX12_piece 7 = .ok (.iload_n 1, 1) := by decide +kernel
theorem dX12_piece_8 : decode cX12_piece 8 = .ok (.imul, 1) := by decide +kernel
theorem dX12_piece_9 : decode cX12_piece 9 = .ok (.iadd, 1) := by decide +kernel
theorem dX12_piece__0 : decode cX12_piece_ 0 = .ok (.aload_n 0, 1) := by decide +kernel
theorem dX12_piece__1 : decode cX12_piece_ 1 = .ok (.getfield 107, 3) := by decide +kernel
theorem dX12_piece__10 : decode cX12_piece_ 10 = .ok (.iload_n 2, 1) := by decide +kernel
theorem dX12_piece__11 : decode cX12_piece_ 11 = .ok (.iadd, 1) := by decide +kernel
theorem dX12_piece__12 : decode cX12_piece_ 12 = .ok (.iload_n 3, 1) := by decide +kernel
theorem dX12_piece__13 : decode cX12_piece_ 13 = .ok (.iastore, 1) := by decide +kernel
theorem dX12_piece__14 : decode cX12_piece_ 14 = .ok (.return_, 1) := by decide +kernel
theorem dX12_piece__4 : decode cX12_piece_ 4 = .ok (.bipush 49, 2) := by decide +kernel
theorem dX12_piece__6 : decode cX12_piece_ 6 = .ok (.iconst 5, 1) := by decide +kernel
theorem dX12_piece__7 : decode cX12_piece_ 7 = .ok (.iload_n 1, 1) := by decide +kernel
theorem dX12_piece__8 : decode cX12_piece_ 8 = .ok (.imul, 1) := by decide +kernel
theorem dX12_piece__9 : decode cX12_piece_ 9 = .ok (.iadd, 1) := by decide +kernel
theorem dX12_piece___0 : decode cX12_piece__ 0 = .ok (.aload_n 0, 1) := by decide +kernel
theorem dX12_piece___1 : decode cX12_piece__ 1 = .ok (.iconst 0, 1) := by decide +kernel
theorem dX12_piece___101 : decode cX12_piece__ 101 = .ok (.invokestatic 145, 3) := by decide +kernel
theorem dX12_piece___104 : decode cX12_piece__ 104 = .ok (.ifCond .eq 12, 3) := by decide +kernel
theorem dX12_piece___107 : decode cX12_piece__ 107 = .ok (.aload_n 0, 1) := by decide +kernel
theorem dX12_piece___108 : decode cX12_piece__ 108 = .ok (.getfield 149, 3) := by decide +kernel
theorem dX12_piece___111 : decode cX12_piece__ 111 = .ok (.bipush 30, 2) := by decide +kernel
theorem dX12_piece___113 : decode cX12_piece__ 113 = .ok (.if_icmp .ne 5, 3) := by decide +kernel
theorem dX12_piece___116 : decode cX12_piece__ 116 = .ok (.iconst (-1), 1) := by decide +kernel
theorem dX12_piece___117 : decode cX12_piece__ 117 = .ok (.ireturn, 1) := by decide +kernel
theorem dX12_piece___118 : decode cX12_piece__ 118 = .ok (.aload_n 0, 1) := by decide +kernel
theorem dX12_piece___119 : decode cX12_piece__ 119 = .ok (.getfield 31, 3) := by decide +kernel
theorem dX12_piece___12 : decode cX12_piece__ 12 = .ok (.ifCond .eq 104, 3) := by decide +kernel
theorem dX12_piece___122 : decode cX12_piece__ 122 = .ok (.aload_n 0, 1) := by decide +kernel
theorem dX12_piece___123 : decode cX12_piece__ 123 = .ok (.getfield 149, 3) := by decide +kernel
theorem dX12_piece___126 : decode cX12_piece__ 126 = .ok (.iload_n 1, 1) := by decide +kernel
theorem dX12_piece___127 : decode cX12_piece__ 127 = .ok (.iastore, 1) := by decide +kernel
theorem dX12_piece___128 : decode cX12_piece__ 128 = .ok (.aload_n 0, 1) := by decide +kernel
theorem dX12_piece___129 : decode cX12_piece__ 129 = .ok (.getfield 34, 3) := by decide +kernel
theorem dX12_piece___132 : decode cX12_piece__ 132 = .ok (.aload_n 0, 1) := by decide +kernel
theorem dX12_piece___133 : decode cX12_piece__ 133 = .ok (.getfield 149, 3) := by decide +kernel
theorem dX12_piece___136 : decode cX12_piece__ 136 = .ok (.iload_n 2, 1) := by decide +kernel
theorem dX12_piece___137 : decode cX12_piece__ 137 = .ok (.iastore, 1) := by decide +kernel
theorem dX12_piece___138 : decode cX12_piece__ 138 = .ok (.aload_n 0, 1) := by decide +kernel
theorem dX12_piece___139 : decode cX12_piece__ 139 = .ok (.getfield 37, 3) := by decide +kernel
theorem dX12_piece___142 : decode cX12_piece__ 142 = .ok (.aload_n 0, 1) := by decide +kernel
theorem dX12_piece___143 : decode cX12_piece__ 143 = .ok (.getfield 149, 3) := by decide +kernel
theorem dX12_piece___146 : decode cX12_piece__ 146 = .ok (.iload_n 3, 1) := by decide +kernel
theorem dX12_piece___147 : decode cX12_piece__ 147 = .ok (.iastore, 1) := by decide +kernel
theorem dX12_piece___148 : decode cX12_piece__ 148 = .ok (.aload_n 0, 1) := by decide +kernel
theorem dX12_piece___149 : decode cX12_piece__ 149 = .ok (.getfield 40, 3) := by decide +kernel
theorem dX12_piece___15 : decode cX12_piece__ 15 = .ok (.iload_n 2, 1) := by decide +kernel
theorem dX12_piece___152 : decode cX12_piece__ 152 = .ok (.aload_n 0, 1) := by decide +kernel
theorem dX12_piece___153 : decode cX12_piece__ 153 = .ok (.getfield 149, 3) := by decide +kernel
theorem dX12_piece___156 : decode cX12_piece__ 156 = .ok (.iload 4, 2) := by decide +kernel
theorem dX12_piece___158 : decode cX12_piece__ 158 = .ok (.iastore, 1) := by decide +kernel
theorem dX12_piece___159 : decode cX12_piece__ 159 = .ok (.aload_n 0, 1) := by decide +kernel
theorem dX12_piece___16 : decode cX12_piece__ 16 = .ok (.iconst 0, 1) := by decide +kernel
theorem dX12_piece___160 : decode cX12_piece__ 160 = .ok (.getfield 43, 3) := by decide +kernel
theorem dX12_piece___163 : decode cX12_piece__ 163 = .ok (.aload_n 0, 1) := by decide +kernel
theorem dX12_piece___164 : decode cX12_piece__ 164 = .ok (.getfield 149, 3) := by decide +kernel
theorem dX12_piece___167 : decode cX12_piece__ 167 = .ok (.iload 5, 2) := by decide +kernel
theorem dX12_piece___169 : decode cX12_piece__ 169 = .ok (.iastore, 1) := by decide +kernel
theorem dX12_piece___17 : decode cX12_piece__ 17 = .ok (.bipush 7, 2) := by decide +kernel
theorem dX12_piece___170 : decode cX12_piece__ 170 = .ok (.aload_n 0, 1) := by decide +kernel
theorem dX12_piece___171 : decode cX12_piece__ 171 = .ok (.getfield 46, 3) := by decide +kernel
theorem dX12_piece___174 : decode cX12_piece__ 174 = .ok (.aload_n 0, 1) := by decide +kernel
theorem dX12_piece___175 : decode cX12_piece__ 175 = .ok (.getfield 149, 3) := by decide +kernel
theorem dX12_piece___178 : decode cX12_piece__ 178 = .ok (.iload 6, 2) := by decide +kernel
theorem dX12_piece___180 : decode cX12_piece__ 180 = .ok (.iastore, 1) := by decide +kernel
theorem dX12_piece___181 : decode cX12_piece__ 181 = .ok (.aload_n 0, 1) := by decide +kernel
theorem dX12_piece___182 : decode cX12_piece__ 182 = .ok (.getfield 49, 3) := by decide +kernel
theorem dX12_piece___185 : decode cX12_piece__ 185 = .ok (.aload_n 0, 1) := by decide +kernel
theorem dX12_piece___186 : decode cX12_piece__ 186 = .ok (.getfield 149, 3) := by decide +kernel
theorem dX12_piece___189 : decode cX12_piece__ 189 = .ok (.iload 7, 2) := by decide +kernel
theorem dX12_piece___19 : decode cX12_piece__ 19 = .ok (.invokestatic 145, 3) := by decide +kernel
theorem dX12_piece___191 : decode cX12_piece__ 191 = .ok (.iastore, 1) := by decide +kernel
theorem dX12_piece___192 : decode cX12_piece__ 192 = .ok (.aload_n 0, 1) := by decide +kernel
theorem dX12_piece___193 : decode cX12_piece__ 193 = .ok (.getfield 52, 3) := by decide +kernel
theorem dX12_piece___196 : decode cX12_piece__ 196 = .ok (.aload_n 0, 1) := by decide +kernel
theorem dX12_piece___197 : decode cX12_piece__ 197 = .ok (.getfield 149, 3) := by decide +kernel
theorem dX12_piece___2 : decode cX12_piece__ 2 = .ok (.putfield 139, 3) := by decide +kernel
theorem dX12_piece___200 : decode cX12_piece__ 200 = .ok (.iload 8, 2) := by decide +kernel
theorem dX12_piece___202 : decode cX12_piece__ 202 = .ok (.iastore, 1) := by decide +kernel
theorem dX12_piece___203 : decode cX12_piece__ 203 = .ok (.aload_n 0, 1) := by decide +kernel
theorem dX12_piece___204 : decode cX12_piece__ 204 = .ok (.getfield 55, 3) := by decide +kernel
theorem dX12_piece___207 : decode cX12_piece__ 207 = .ok (.aload_n 0, 1) := by decide +kernel
theorem dX12_piece___208 : decode cX12_piece__ 208 = .ok (.getfield 149, 3) := by decide +kernel
theorem dX12_piece___211 : decode cX12_piece__ 211 = .ok (.iload 9, 2) := by decide +kernel
theorem dX12_piece___213 : decode cX12_piece__ 213 = .ok (.iastore, 1) := by decide +kernel
theorem dX12_piece___214 : decode cX12_piece__ 214 = .ok (.aload_n 0, 1) := by decide +kernel
theorem dX12_piece___215 : decode cX12_piece__ 215 = .ok (.aload_n 0, 1) := by decide +kernel
theorem dX12_piece___216 : decode cX12_piece__ 216 = .ok (.getfield 149, 3) := by decide +kernel
theorem dX12_piece___219 : decode cX12_piece__ 219 = .ok (.iconst 0, 1) := by decide +kernel
theorem dX12_piece___22 : decode cX12_piece__ 22 = .ok (.ifCond .eq 94, 3) := by decide +kernel
theorem dX12_piece___220 : decode cX12_piece__ 220 = .ok (.iconst (-1), 1) := by decide +kernel
theorem dX12_piece___221 : decode cX12_piece__ 221 = .ok (.invokevirtual 170, 3) := by decide +kernel
theorem dX12_piece___224 : decode cX12_piece__ 224 = .ok (.aload_n 0, 1) := by decide +kernel
theorem dX12_piece___225 : decode cX12_piece__ 225 = .ok (.aload_n 0, 1) := by decide +kernel
theorem dX12_piece___226 : decode cX12_piece__ 226 = .ok (.getfield 149, 3) := by decide +kernel
theorem dX12_piece___229 : decode cX12_piece__ 229 = .ok (.iconst 1, 1) := by decide +kernel
theorem dX12_piece___230 : decode cX12_piece__ 230 = .ok (.iconst (-1), 1) := by decide +kernel
theorem dX12_piece___231 : decode cX12_piece__ 231 = .ok (.invokevirtual 170, 3) := by decide +kernel
theorem dX12_piece___234 : decode cX12_piece__ 234 = .ok (.aload_n 0, 1) := by decide +kernel
theorem dX12_piece___235 : decode cX12_piece__ 235 = .ok (.aload_n 0, 1) := by decide +kernel
theorem dX12_piece___236 : decode cX12_piece__ 236 = .ok (.getfield 149, 3) := by decide +kernel
theorem dX12_piece___239 : decode cX12_piece__ 239 = .ok (.iconst 2, 1) := by decide +kernel
theorem dX12_piece___240 : decode cX12_piece__ 240 = .ok (.iconst (-1), 1) := by decide +kernel
theorem dX12_piece___241 : decode cX12_piece__ 241 = .ok (.invokevirtual 170, 3) := by decide +kernel
theorem dX12_piece___244 : decode cX12_piece__ 244 = .ok (.aload_n 0, 1) := by decide +kernel
theorem dX12_piece___245 : decode cX12_piece__ 245 = .ok (.aload_n 0, 1) := by decide +kernel
theorem dX12_piece___246 : decode cX12_piece__ 246 = .ok (.getfield 149, 3) := by decide +kernel
theorem dX12_piece___249 : decode cX12_piece__ 249 = .ok (.iconst 3, 1) := by decide +kernel
theorem dX12_piece___25 : decode cX12_piece__ 25 = .ok (.iload_n 3, 1) := by decide +kernel
theorem dX12_piece___250 : decode cX12_piece__ 250 = .ok (.aload_n 0, 1) := by decide +kernel
theorem dX12_piece___251 : decode cX12_piece__ 251 = .ok (.aload_n 0, 1) := by decide +kernel
theorem dX12_piece___252 : decode cX12_piece__ 252 = .ok (.getfield 149, 3) := by decide +kernel
theorem dX12_piece___255 : decode cX12_piece__ 255 = .ok (.invokevirtual 173, 3) := by decide +kernel
theorem dX12_piece___258 : decode cX12_piece__ 258 = .ok (.invokevirtual 170, 3) := by decide +kernel
theorem dX12_piece___26 : decode cX12_piece__ 26 = .ok (.iconst 1, 1) := by decide +kernel
theorem dX12_piece___261 : decode cX12_piece__ 261 = .ok (.aload_n 0, 1) := by decide +kernel
theorem dX12_piece___262 : decode cX12_piece__ 262 = .ok (.dup, 1) := by decide +kernel
theorem dX12_piece___263 : decode cX12_piece__ 263 = .ok (.getfield 149, 3) := by decide +kernel
theorem dX12_piece___266 : decode cX12_piece__ 266 = .ok (.iconst 1, 1) := by decide +kernel
theorem dX12_piece___267 : decode cX12_piece__ 267 = .ok (.iadd, 1) := by decide +kernel
theorem dX12_piece___268 : decode cX12_piece__ 268 = .ok (.putfield 149, 3) := by decide +kernel
theorem dX12_piece___27 : decode cX12_piece__ 27 = .ok (.sipush 400, 3) := by decide +kernel
theorem dX12_piece___271 : decode cX12_piece__ 271 = .ok (.aload_n 0, 1) := by decide +kernel
theorem dX12_piece___272 : decode cX12_piece__ 272 = .ok (.getfield 149, 3) := by decide +kernel
theorem dX12_piece___275 : decode cX12_piece__ 275 = .ok (.iconst 1, 1) := by decide +kernel
theorem dX12_piece___276 : decode cX12_piece__ 276 = .ok (.isub, 1) := by decide +kernel
theorem dX12_piece___277 : decode cX12_piece__ 277 = .ok (.ireturn, 1) := by decide +kernel
theorem dX12_piece___30 : decode cX12_piece__ 30 = .ok (.invokestatic 145, 3) := by decide +kernel
theorem dX12_piece___33 : decode cX12_piece__ 33 = .ok (.ifCond .eq 83, 3) := by decide +kernel
theorem dX12_piece___36 : decode cX12_piece__ 36 = .ok (.iload 4, 2) := by decide +kernel
theorem dX12_piece___38 : decode cX12_piece__ 38 = .ok (.iconst 0, 1) := by decide +kernel
theorem dX12_piece___39 : decode cX12_piece__ 39 = .ok (.iconst 3, 1) := by decide +kernel
theorem dX12_piece___40 : decode cX12_piece__ 40 = .ok (.invokestatic 145, 3) := by decide +kernel
theorem dX12_piece___43 : decode cX12_piece__ 43 = .ok (.ifCond .eq 73, 3) := by decide +kernel
theorem dX12_piece___46 : decode cX12_piece__ 46 = .ok (.iload 5, 2) := by decide +kernel
theorem dX12_piece___48 : decode cX12_piece__ 48 = .ok (.iconst 0, 1) := by decide +kernel
theorem dX12_piece___49 : decode cX12_piece__ 49 = .ok (.bipush 9, 2) := by decide +kernel
theorem dX12_piece___5 : decode cX12_piece__ 5 = .ok (.iload_n 1, 1) := by decide +kernel
theorem dX12_piece___51 : decode cX12_piece__ 51 = .ok (.invokestatic 145, 3) := by decide +kernel
theorem dX12_piece___54 : decode cX12_piece__ 54 = .ok (.ifCond .eq 62, 3) := by decide +kernel
theorem dX12_piece___57 : decode cX12_piece__ 57 = .ok (.iload 6, 2) := by decide +kernel
theorem dX12_piece___59 : decode cX12_piece__ 59 = .ok (.aload_n 0, 1) := by decide +kernel
theorem dX12_piece___6 : decode cX12_piece__ 6 = .ok (.iconst 0, 1) := by decide +kernel
theorem dX12_piece___60 : decode cX12_piece__ 60 = .ok (.invokevirtual 164, 3) := by decide +kernel
theorem dX12_piece___63 : decode cX12_piece__ 63 = .ok (.sipush 4800, 3) := by decide +kernel
theorem dX12_piece___66 : decode cX12_piece__ 66 = .ok (.invokestatic 145, 3) := by decide +kernel
theorem dX12_piece___69 : decode cX12_piece__ 69 = .ok (.ifCond .eq 47, 3) := by decide +kernel
theorem dX12_piece___7 : decode cX12_piece__ 7 = .ok (.bipush 7, 2) := by decide +kernel
theorem dX12_piece___72 : decode cX12_piece__ 72 = .ok (.iload 7, 2) := by decide +kernel
theorem dX12_piece___74 : decode cX12_piece__ 74 = .ok (.iload 6, 2) := by decide +kernel
theorem dX12_piece___76 : decode cX12_piece__ 76 = .ok (.sipush 4800, 3) := by decide +kernel
theorem dX12_piece___79 : decode cX12_piece__ 79 = .ok (.invokestatic 145, 3) := by decide +kernel
theorem dX12_piece___82 : decode cX12_piece__ 82 = .ok (.ifCond .eq 34, 3) := by decide +kernel
theorem dX12_piece___85 : decode cX12_piece__ 85 = .ok (.iload 8, 2) := by decide +kernel
theorem dX12_piece___87 : decode cX12_piece__ 87 = .ok (.iconst 0, 1) := by decide +kernel
theorem dX12_piece___88 : decode cX12_piece__ 88 = .ok (.ldc 155, 2) := by decide +kernel
theorem dX12_piece___9 : decode cX12_piece__ 9 = .ok (.invokestatic 145, 3) := by decide +kernel
theorem dX12_piece___90 : decode cX12_piece__ 90 = .ok (.invokestatic 145, 3) := by decide +kernel
theorem dX12_piece___93 : decode cX12_piece__ 93 = .ok (.ifCond .eq 23, 3) := by decide +kernel
theorem dX12_piece___96 : decode cX12_piece__ 96 = .ok (.iload 9, 2) := by decide +kernel
theorem dX12_piece___98 : decode cX12_piece__ 98 = .ok (.iconst 0, 1) := by decide +kernel
theorem dX12_piece___99 : decode cX12_piece__ 99 = .ok (.bipush 6, 2) := by decide +kernel
theorem dX12_post_0 : decode cX12_post 0 = .ok (.aload_n 0, 1) := by decide +kernel
theorem dX12_post_1 : decode cX12_post 1 = .ok (.iconst 0, 1) := by decide +kernel
theorem dX12_post_10 : decode cX12_post 10 = .ok (.invokestatic 145, 3) := by decide +kernel
theorem dX12_post_13 : decode cX12_post 13 = .ok (.ifCond .eq 11, 3) := by decide +kernel
theorem dX12_post_16 : decode cX12_post 16 = .ok (.aload_n 0, 1) := by decide +kernel
theorem dX12_post_17 : decode cX12_post 17 = .ok (.getfield 152, 3) := by decide +kernel
theorem dX12_post_2 : decode cX12_post 2 = .ok (.putfield 139, 3) := by decide +kernel
theorem dX12_post_20 : decode cX12_post 20 = .ok (.iconst 4, 1) := by decide +kernel
theorem dX12_post_21 : decode cX12_post 21 = .ok (.if_icmp .ne 5, 3) := by decide +kernel
theorem dX12_post_24 : decode cX12_post 24 = .ok (.iconst (-1), 1) := by decide +kernel
theorem dX12_post_25 : decode cX12_post 25 = .ok (.ireturn, 1) := by decide +kernel
theorem dX12_post_26 : decode cX12_post 26 = .ok (.aload_n 0, 1) := by decide +kernel
theorem dX12_post_27 : decode cX12_post 27 = .ok (.getfield 9, 3) := by decide +kernel
theorem dX12_post_30 : decode cX12_post 30 = .ok (.aload_n 0, 1) := by decide +kernel
theorem dX12_post_31 : decode cX12_post 31 = .ok (.getfield 152, 3) := by decide +kernel
theorem dX12_post_34 : decode cX12_post 34 = .ok (.iload_n 1, 1) := by decide +kernel
theorem dX12_post_35 : decode cX12_post 35 = .ok (.iastore, 1) := by decide +kernel
theorem dX12_post_36 : decode cX12_post 36 = .ok (.aload_n 0, 1) := by decide +kernel
theorem dX12_post_37 : decode cX12_post 37 = .ok (.dup, 1) := by decide +kernel
theorem dX12_post_38 : decode cX12_post 38 = .ok (.getfield 152, 3) := by decide +kernel
theorem dX12_post_41 : decode cX12_post 41 = .ok (.iconst 1, 1) := by decide +kernel
theorem dX12_post_42 : decode cX12_post 42 = .ok (.iadd, 1) := by decide +kernel
theorem dX12_post_43 : decode cX12_post 43 = .ok (.putfield 152, 3) := by decide +kernel
theorem dX12_post_46 : decode cX12_post 46 = .ok (.aload_n 0, 1) := by decide +kernel
theorem dX12_post_47 : decode cX12_post 47 = .ok (.getfield 152, 3) := by decide +kernel
theorem dX12_post_5 : decode cX12_post 5 = .ok (.iload_n 1, 1) := by decide +kernel
theorem dX12_post_50 : decode cX12_post 50 = .ok (.ireturn, 1) := by decide +kernel
theorem dX12_post_6 : decode cX12_post 6 = .ok (.iconst 0, 1) := by decide +kernel
theorem dX12_post_7 : decode cX12_post 7 = .ok (.sipush 479, 3) := by decide +kernel
theorem dX12_product_0 : decode cX12_product 0 = .ok (.aload_n 0, 1) := by decide +kernel
theorem dX12_product_1 : decode cX12_product 1 = .ok (.iload_n 1, 1) := by decide +kernel
theorem dX12_product_10 : decode cX12_product 10 = .ok (.ifCond .eq 23, 3) := by decide +kernel
theorem dX12_product_13 : decode cX12_product 13 = .ok (.aload_n 0, 1) := by decide +kernel
theorem dX12_product_14 : decode cX12_product 14 = .ok (.bipush 42, 2) := by decide +kernel
theorem dX12_product_16 : decode cX12_product 16 = .ok (.invokevirtual 221, 3) := by decide +kernel
theorem dX12_product_19 : decode cX12_product 19 = .ok (.ifCond .eq 14, 3) := by decide +kernel
theorem dX12_product_2 : decode cX12_product 2 = .ok (.invokevirtual 233, 3) := by decide +kernel
theorem dX12_product_22 : decode cX12_product 22 = .ok (.iload_n 2, 1) := by decide +kernel
theorem dX12_product_23 : decode cX12_product 23 = .ok (.aload_n 0, 1) := by decide +kernel
theorem dX12_product_24 : decode cX12_product 24 = .ok (.iload_n 1, 1) := by decide +kernel
theorem dX12_product_25 : decode cX12_product 25 = .ok (.invokevirtual 233, 3) := by decide +kernel
theorem dX12_product_28 : decode cX12_product 28 = .ok (.imul, 1) := by decide +kernel
theorem dX12_product_29 : decode cX12_product 29 = .ok (.istore_n 2, 1) := by decide +kernel
theorem dX12_product_30 : decode cX12_product 30 = .ok (.goto (-24), 3) := by decide +kernel
theorem dX12_product_33 : decode cX12_product 33 = .ok (.iload_n 2, 1) := by decide +kernel
theorem dX12_product_34 : decode cX12_product 34 = .ok (.ireturn, 1) := by decide +kernel
theorem dX12_product_5 : decode cX12_product 5 = .ok (.istore_n 2, 1) := by decide +kernel
theorem dX12_product_6 : decode cX12_product 6 = .ok (.aload_n 0, 1) := by decide +kernel
theorem dX12_product_7 : decode cX12_product 7 = .ok (.invokevirtual 217, 3) := by decide +kernel
theorem dX12_put_0 : decode cX12_put 0 = .ok (.aload_n 0, 1) := by decide +kernel
theorem dX12_put_1 : decode cX12_put 1 = .ok (.getfield 107, 3) := by decide +kernel
theorem dX12_put_10 : decode cX12_put 10 = .ok (.iload_n 2, 1) := by decide +kernel
theorem dX12_put_11 : decode cX12_put 11 = .ok (.iadd, 1) := by decide +kernel
theorem dX12_put_12 : decode cX12_put 12 = .ok (.iload_n 3, 1) := by decide +kernel
theorem dX12_put_13 : decode cX12_put 13 = .ok (.iastore, 1) := by decide +kernel
theorem dX12_put_14 : decode cX12_put 14 = .ok (.return_, 1) := by decide +kernel
theorem dX12_put_4 : decode cX12_put 4 = .ok (.iconst 1, 1) := by decide +kernel
theorem dX12_put_5 : decode cX12_put 5 = .ok (.bipush 6, 2) := by decide +kernel
theorem dX12_put_7 : decode cX12_put 7 = .ok (.iload_n 1, 1) := by decide +kernel
theorem dX12_put_8 : decode cX12_put 8 = .ok (.imul, 1) := by decide +kernel
theorem dX12_put_9 : decode cX12_put 9 = .ok (.iadd, 1) := by decide +kernel
theorem dX12_rate_0 : decode cX12_rate 0 = .ok (.iconst 5, 1) := by decide +kernel
theorem dX12_rate_1 : decode cX12_rate 1 = .ok (.iload_n 0, 1) := by decide +kernel
theorem dX12_rate_12 : decode cX12_rate 12 = .ok (.ireturn, 1) := by decide +kernel
theorem dX12_rate_2 : decode cX12_rate 2 = .ok (.iconst 5, 1) := by decide +kernel
theorem dX12_rate_3 : decode cX12_rate 3 = .ok (.iload_n 1, 1) := by decide +kernel
theorem dX12_rate_4 : decode cX12_rate 4 = .ok (.invokestatic 275, 3) := by decide +kernel
theorem dX12_rate_7 : decode cX12_rate 7 = .ok (.imul, 1) := by decide +kernel
theorem dX12_rate_8 : decode cX12_rate 8 = .ok (.isub, 1) := by decide +kernel
theorem dX12_rate_9 : decode cX12_rate 9 = .ok (.invokestatic 281, 3) := by decide +kernel
theorem dX12_sign_0 : decode cX12_sign 0 = .ok (.aload_n 0, 1) := by decide +kernel
theorem dX12_sign_1 : decode cX12_sign 1 = .ok (.iconst 0, 1) := by decide +kernel
theorem dX12_sign_10 : decode cX12_sign 10 = .ok (.iadd, 1) := by decide +kernel
theorem dX12_sign_11 : decode cX12_sign 11 = .ok (.bipush 100, 2) := by decide +kernel
theorem dX12_sign_13 : decode cX12_sign 13 = .ok (.if_icmp .le 5, 3) := by decide +kernel
theorem dX12_sign_16 : decode cX12_sign 16 = .ok (.iconst (-1), 1) := by decide +kernel
theorem dX12_sign_17 : decode cX12_sign 17 = .ok (.ireturn, 1) := by decide +kernel
theorem dX12_sign_18 : decode cX12_sign 18 = .ok (.iconst 3, 1) := by decide +kernel
theorem dX12_sign_19 : decode cX12_sign 19 = .ok (.istore_n 2, 1) := by decide +kernel
theorem dX12_sign_2 : decode cX12_sign 2 = .ok (.putfield 139, 3) := by decide +kernel
theorem dX12_sign_20 : decode cX12_sign 20 = .ok (.iload_n 2, 1) := by decide +kernel
theorem dX12_sign_21 : decode cX12_sign 21 = .ok (.ifCond .lt 32, 3) := by decide +kernel
theorem dX12_sign_24 : decode cX12_sign 24 = .ok (.aload_n 0, 1) := by decide +kernel
theorem dX12_sign_25 : decode cX12_sign 25 = .ok (.getfield 101, 3) := by decide +kernel
theorem dX12_sign_28 : decode cX12_sign 28 = .ok (.aload_n 0, 1) := by decide +kernel
theorem dX12_sign_29 : decode cX12_sign 29 = .ok (.dup, 1) := by decide +kernel
theorem dX12_sign_30 : decode cX12_sign 30 = .ok (.getfield 177, 3) := by decide +kernel
theorem dX12_sign_33 : decode cX12_sign 33 = .ok (.dup_x1, 1) := by decide +kernel
theorem dX12_sign_34 : decode cX12_sign 34 = .ok (.iconst 1, 1) := by decide +kernel
theorem dX12_sign_35 : decode cX12_sign 35 = .ok (.iadd, 1) := by decide +kernel
theorem dX12_sign_36 : decode cX12_sign 36 = .ok (.putfield 177, 3) := by decide +kernel
theorem dX12_sign_39 : decode cX12_sign 39 = .ok (.iload_n 1, 1) := by decide +kernel
theorem dX12_sign_40 : decode cX12_sign 40 = .ok (.bipush 8, 2) := by decide +kernel
theorem dX12_sign_42 : decode cX12_sign 42 = .ok (.iload_n 2, 1) := by decide +kernel
theorem dX12_sign_43 : decode cX12_sign 43 = .ok (.imul, 1) := by decide +kernel
theorem dX12_sign_44 : decode cX12_sign 44 = .ok (.ishr, 1) := by decide +kernel
theorem dX12_sign_45 : decode cX12_sign 45 = .ok (.i2b, 1) := by decide +kernel
theorem dX12_sign_46 : decode cX12_sign 46 = .ok (.bastore, 1) := by decide +kernel
theorem dX12_sign_47 : decode cX12_sign 47 = .ok (.iinc 2 (-1), 3) := by decide +kernel
theorem dX12_sign_5 : decode cX12_sign 5 = .ok (.aload_n 0, 1) := by decide +kernel
theorem dX12_sign_50 : decode cX12_sign 50 = .ok (.goto (-30), 3) := by decide +kernel
theorem dX12_sign_53 : decode cX12_sign 53 = .ok (.aload_n 0, 1) := by decide +kernel
theorem dX12_sign_54 : decode cX12_sign 54 = .ok (.getfield 177, 3) := by decide +kernel
theorem dX12_sign_57 : decode cX12_sign 57 = .ok (.ireturn, 1) := by decide +kernel
theorem dX12_sign_6 : decode cX12_sign 6 = .ok (.getfield 177, 3) := by decide +kernel
theorem dX12_sign_9 : decode cX12_sign 9 = .ok (.iconst 4, 1) := by decide +kernel
theorem dX12_sum_0 : decode cX12_sum 0 = .ok (.aload_n 0, 1) := by decide +kernel
theorem dX12_sum_1 : decode cX12_sum 1 = .ok (.iload_n 1, 1) := by decide +kernel
theorem dX12_sum_10 : decode cX12_sum 10 = .ok (.ifCond .eq 43, 3) := by decide +kernel
theorem dX12_sum_13 : decode cX12_sum 13 = .ok (.aload_n 0, 1) := by decide +kernel
theorem dX12_sum_14 : decode cX12_sum 14 = .ok (.bipush 43, 2) := by decide +kernel
theorem dX12_sum_16 : decode cX12_sum 16 = .ok (.invokevirtual 221, 3) := by decide +kernel
theorem dX12_sum_19 : decode cX12_sum 19 = .ok (.ifCond .eq 14, 3) := by decide +kernel
theorem dX12_sum_2 : decode cX12_sum 2 = .ok (.invokevirtual 230, 3) := by decide +kernel
theorem dX12_sum_22 : decode cX12_sum 22 = .ok (.iload_n 2, 1) := by decide +kernel
theorem dX12_sum_23 : decode cX12_sum 23 = .ok (.aload_n 0, 1) := by decide +kernel
theorem dX12_sum_24 : decode cX12_sum 24 = .ok (.iload_n 1, 1) := by decide +kernel
theorem dX12_sum_25 : decode cX12_sum 25 = .ok (.invokevirtual 230, 3) := by decide +kernel
theorem dX12_sum_28 : decode cX12_sum 28 = .ok (.iadd, 1) := by decide +kernel
theorem dX12_sum_29 : decode cX12_sum 29 = .ok (.istore_n 2, 1) := by decide +kernel
theorem dX12_sum_30 : decode cX12_sum 30 = .ok (.goto (-24), 3) := by decide +kernel
theorem dX12_sum_33 : decode cX12_sum 33 = .ok (.aload_n 0, 1) := by decide +kernel
theorem dX12_sum_34 : decode cX12_sum 34 = .ok (.bipush 45, 2) := by decide +kernel
theorem dX12_sum_36 : decode cX12_sum 36 = .ok (.invokevirtual 221, 3) := by decide +kernel
theorem dX12_sum_39 : decode cX12_sum 39 = .ok (.ifCond .eq 14, 3) := by decide +kernel
theorem dX12_sum_42 : decode cX12_sum 42 = .ok (.iload_n 2, 1) := by decide +kernel
theorem dX12_sum_43 : decode cX12_sum 43 = .ok (.aload_n 0, 1) := by decide +kernel
theorem dX12_sum_44 : decode cX12_sum 44 = .ok (.iload_n 1, 1) := by decide +kernel
theorem dX12_sum_45 : decode cX12_sum 45 = .ok (.invokevirtual 230, 3) := by decide +kernel
theorem dX12_sum_48 : decode cX12_sum 48 = .ok (.isub, 1) := by decide +kernel
theorem dX12_sum_49 : decode cX12_sum 49 = .ok (.istore_n 2, 1) := by decide +kernel
theorem dX12_sum_5 : decode cX12_sum 5 = .ok (.istore_n 2, 1) := by decide +kernel
theorem dX12_sum_50 : decode cX12_sum 50 = .ok (.goto (-44), 3) := by decide +kernel
theorem dX12_sum_53 : decode cX12_sum 53 = .ok (.iload_n 2, 1) := by decide +kernel
theorem dX12_sum_54 : decode cX12_sum 54 = .ok (.ireturn, 1) := by decide +kernel
theorem dX12_sum_6 : decode cX12_sum 6 = .ok (.aload_n 0, 1) := by decide +kernel
theorem dX12_sum_7 : decode cX12_sum 7 = .ok (.invokevirtual 217, 3) := by decide +kernel
theorem dX12_thing_0 : decode cX12_thing 0 = .ok (.aload_n 0, 1) := by decide +kernel
theorem dX12_thing_1 : decode cX12_thing 1 = .ok (.bipush 33, 2) := by decide +kernel
theorem dX12_thing_10 : decode cX12_thing 10 = .ok (.iload_n 1, 1) := by decide +kernel
theorem dX12_thing_100 : decode cX12_thing 100 = .ok (.aload_n 0, 1) := by decide +kernel
theorem dX12_thing_101 : decode cX12_thing 101 = .ok (.invokevirtual 242, 3) := by decide +kernel
theorem dX12_thing_104 : decode cX12_thing 104 = .ok (.ifCond .eq 50, 3) := by decide +kernel
theorem dX12_thing_107 : decode cX12_thing 107 = .ok (.iconst 0, 1) := by decide +kernel
theorem dX12_thing_108 : decode cX12_thing 108 = .ok (.istore_n 2, 1) := by decide +kernel
theorem dX12_thing_109 : decode cX12_thing 109 = .ok (.iconst 0, 1) := by decide +kernel
theorem dX12_thing_11 : decode cX12_thing 11 = .ok (.invokevirtual 233, 3) := by decide +kernel
theorem dX12_thing_110 : decode cX12_thing 110 = .ok (.istore_n 3, 1) := by decide +kernel
theorem dX12_thing_111 : decode cX12_thing 111 = .ok (.iload_n 3, 1) := by decide +kernel
theorem dX12_thing_112 : decode cX12_thing 112 = .ok (.iconst 4, 1) := by decide +kernel
theorem dX12_thing_113 : decode cX12_thing 113 = .ok (.if_icmp .ge 39, 3) := by decide +kernel
theorem dX12_thing_116 : decode cX12_thing 116 = .ok (.aload_n 0, 1) := by decide +kernel
theorem dX12_thing_117 : decode cX12_thing 117 = .ok (.invokevirtual 242, 3) := by decide +kernel
theorem dX12_thing_120 : decode cX12_thing 120 = .ok (.ifCond .eq 32, 3) := by decide +kernel
theorem dX12_thing_123 : decode cX12_thing 123 = .ok (.bipush 10, 2) := by decide +kernel
theorem dX12_thing_125 : decode cX12_thing 125 = .ok (.iload_n 2, 1) := by decide +kernel
theorem dX12_thing_126 : decode cX12_thing 126 = .ok (.imul, 1) := by decide +kernel
theorem dX12_thing_127 : decode cX12_thing 127 = .ok (.aload_n 0, 1) := by decide +kernel
theorem dX12_thing_128 : decode cX12_thing 128 = .ok (.invokevirtual 211, 3) := by decide +kernel
theorem dX12_thing_131 : decode cX12_thing 131 = .ok (.iadd, 1) := by decide +kernel
theorem dX12_thing_132 : decode cX12_thing 132 = .ok (.bipush 48, 2) := by decide +kernel
theorem dX12_thing_134 : decode cX12_thing 134 = .ok (.isub, 1) := by decide +kernel
theorem dX12_thing_135 : decode cX12_thing 135 = .ok (.istore_n 2, 1) := by decide +kernel
theorem dX12_thing_136 : decode cX12_thing 136 = .ok (.aload_n 0, 1) := by decide +kernel
theorem dX12_thing_137 : decode cX12_thing 137 = .ok (.dup, 1) := by decide +kernel
theorem dX12_thing_138 : decode cX12_thing 138 = .ok (.getfield 197, 3) := by decide +kernel
theorem dX12_thing_14 : decode cX12_thing 14 = .ok (.ifCond .ne 7, 3) := by decide +kernel
theorem dX12_thing_141 : decode cX12_thing 141 = .ok (.iconst 1, 1) := by decide +kernel
theorem dX12_thing_142 : decode cX12_thing 142 = .ok (.iadd, 1) := by decide +kernel
theorem dX12_thing_143 : decode cX12_thing 143 = .ok (.putfield 197, 3) := by decide +kernel
theorem dX12_thing_146 : decode cX12_thing 146 = .ok (.iinc 3 1, 3) := by decide +kernel
theorem dX12_thing_149 : decode cX12_thing 149 = .ok (.goto (-38), 3) := by decide +kernel
theorem dX12_thing_152 : decode cX12_thing 152 = .ok (.iload_n 2, 1) := by decide +kernel
theorem dX12_thing_153 : decode cX12_thing 153 = .ok (.ireturn, 1) := by decide +kernel
theorem dX12_thing_154 : decode cX12_thing 154 = .ok (.aload_n 0, 1) := by decide +kernel
theorem dX12_thing_155 : decode cX12_thing 155 = .ok (.invokevirtual 211, 3) := by decide +kernel
theorem dX12_thing_158 : decode cX12_thing 158 = .ok (.iconst (-1), 1) := by decide +kernel
theorem dX12_thing_159 : decode cX12_thing 159 = .ok (.if_icmp .ne 7, 3) := by decide +kernel
theorem dX12_thing_162 : decode cX12_thing 162 = .ok (.iconst (-1), 1) := by decide +kernel
theorem dX12_thing_163 : decode cX12_thing 163 = .ok (.goto 15, 3) := by decide +kernel
theorem dX12_thing_166 : decode cX12_thing 166 = .ok (.aload_n 0, 1) := by decide +kernel
theorem dX12_thing_167 : decode cX12_thing 167 = .ok (.getfield 207, 3) := by decide +kernel
theorem dX12_thing_17 : decode cX12_thing 17 = .ok (.iconst 1, 1) := by decide +kernel
theorem dX12_thing_170 : decode cX12_thing 170 = .ok (.aload_n 0, 1) := by decide +kernel
theorem dX12_thing_171 : decode cX12_thing 171 = .ok (.invokevirtual 211, 3) := by decide +kernel
theorem dX12_thing_174 : decode cX12_thing 174 = .ok (.i2c, 1) := by decide +kernel
theorem dX12_thing_175 : decode cX12_thing 175 = .ok (.invokevirtual 245, 3) := by decide +kernel
theorem dX12_thing_178 : decode cX12_thing 178 = .ok (.istore_n 2, 1) := by decide +kernel
theorem dX12_thing_179 : decode cX12_thing 179 = .ok (.iload_n 2, 1) := by decide +kernel
theorem dX12_thing_18 : decode cX12_thing 18 = .ok (.goto 4, 3) := by decide +kernel
theorem dX12_thing_180 : decode cX12_thing 180 = .ok (.ifCond .ge 8, 3) := by decide +kernel
theorem dX12_thing_183 : decode cX12_thing 183 = .ok (.aload_n 0, 1) := by decide +kernel
theorem dX12_thing_184 : decode cX12_thing 184 = .ok (.invokevirtual 236, 3) := by decide +kernel
theorem dX12_thing_187 : decode cX12_thing 187 = .ok (.ireturn, 1) := by decide +kernel
theorem dX12_thing_188 : decode cX12_thing 188 = .ok (.aload_n 0, 1) := by decide +kernel
theorem dX12_thing_189 : decode cX12_thing 189 = .ok (.dup, 1) := by decide +kernel
theorem dX12_thing_190 : decode cX12_thing 190 = .ok (.getfield 197, 3) := by decide +kernel
theorem dX12_thing_193 : decode cX12_thing 193 = .ok (.iconst 1, 1) := by decide +kernel
theorem dX12_thing_194 : decode cX12_thing 194 = .ok (.iadd, 1) := by decide +kernel
theorem dX12_thing_195 : decode cX12_thing 195 = .ok (.putfield 197, 3) := by decide +kernel
theorem dX12_thing_198 : decode cX12_thing 198 = .ok (.aload_n 0, 1) := by decide +kernel
theorem dX12_thing_199 : decode cX12_thing 199 = .ok (.getfield 116, 3) := by decide +kernel
theorem dX12_thing_202 : decode cX12_thing 202 = .ok (.iload_n 2, 1) := by decide +kernel
theorem dX12_thing_203 : decode cX12_thing 203 = .ok (.iaload, 1) := by decide +kernel
theorem dX12_thing_204 : decode cX12_thing 204 = .ok (.ireturn, 1) := by decide +kernel
theorem dX12_thing_21 : decode cX12_thing 21 = .ok (.iconst 0, 1) := by decide +kernel
theorem dX12_thing_22 : decode cX12_thing 22 = .ok (.ireturn, 1) := by decide +kernel
theorem dX12_thing_23 : decode cX12_thing 23 = .ok (.aload_n 0, 1) := by decide +kernel
theorem dX12_thing_24 : decode cX12_thing 24 = .ok (.bipush 45, 2) := by decide +kernel
theorem dX12_thing_26 : decode cX12_thing 26 = .ok (.invokevirtual 221, 3) := by decide +kernel
theorem dX12_thing_29 : decode cX12_thing 29 = .ok (.ifCond .eq 10, 3) := by decide +kernel
theorem dX12_thing_3 : decode cX12_thing 3 = .ok (.invokevirtual 221, 3) := by decide +kernel
theorem dX12_thing_32 : decode cX12_thing 32 = .ok (.aload_n 0, 1) := by decide +kernel
theorem dX12_thing_33 : decode cX12_thing 33 = .ok (.iload_n 1, 1) := by decide +kernel
theorem dX12_thing_34 : decode cX12_thing 34 = .ok (.invokevirtual 233, 3) := by decide +kernel
theorem dX12_thing_37 : decode cX12_thing 37 = .ok (.ineg, 1) := by decide +kernel
theorem dX12_thing_38 : decode cX12_thing 38 = .ok (.ireturn, 1) := by decide +kernel
theorem dX12_thing_39 : decode cX12_thing 39 = .ok (.aload_n 0, 1) := by decide +kernel
theorem dX12_thing_40 : decode cX12_thing 40 = .ok (.invokevirtual 211, 3) := by decide +kernel
theorem dX12_thing_43 : decode cX12_thing 43 = .ok (.bipush 40, 2) := by decide +kernel
theorem dX12_thing_45 : decode cX12_thing 45 = .ok (.if_icmp .ne 55, 3) := by decide +kernel
theorem dX12_thing_48 : decode cX12_thing 48 = .ok (.iload_n 1, 1) := by decide +kernel
theorem dX12_thing_49 : decode cX12_thing 49 = .ok (.bipush 6, 2) := by decide +kernel
theorem dX12_thing_51 : decode cX12_thing 51 = .ok (.if_icmp .ne 8, 3) := by decide +kernel
theorem dX12_thing_54 : decode cX12_thing 54 = .ok (.aload_n 0, 1) := by decide +kernel
theorem dX12_thing_55 : decode cX12_thing 55 = .ok (.invokevirtual 236, 3) := by decide +kernel
theorem dX12_thing_58 : decode cX12_thing 58 = .ok (.ireturn, 1) := by decide +kernel
theorem dX12_thing_59 : decode cX12_thing 59 = .ok (.aload_n 0, 1) := by decide +kernel
theorem dX12_thing_6 : decode cX12_thing 6 = .ok (.ifCond .eq 17, 3) := by decide +kernel
theorem dX12_thing_60 : decode cX12_thing 60 = .ok (.dup, 1) := by decide +kernel
theorem dX12_thing_61 : decode cX12_thing 61 = .ok (.getfield 197, 3) := by decide +kernel
theorem dX12_thing_64 : decode cX12_thing 64 = .ok (.iconst 1, 1) := by decide +kernel
theorem dX12_thing_65 : decode cX12_thing 65 = .ok (.iadd, 1) := by decide +kernel
theorem dX12_thing_66 : decode cX12_thing 66 = .ok (.putfield 197, 3) := by decide +kernel
theorem dX12_thing_69 : decode cX12_thing 69 = .ok (.aload_n 0, 1) := by decide +kernel
theorem dX12_thing_70 : decode cX12_thing 70 = .ok (.iload_n 1, 1) := by decide +kernel
theorem dX12_thing_71 : decode cX12_thing 71 = .ok (.iconst 1, 1) := by decide +kernel
theorem dX12_thing_72 : decode cX12_thing 72 = .ok (.iadd, 1) := by decide +kernel
theorem dX12_thing_73 : decode cX12_thing 73 = .ok (.invokevirtual 239, 3) := by decide +kernel
theorem dX12_thing_76 : decode cX12_thing 76 = .ok (.istore_n 2, 1) := by decide +kernel
theorem dX12_thing_77 : decode cX12_thing 77 = .ok (.aload_n 0, 1) := by decide +kernel
theorem dX12_thing_78 : decode cX12_thing 78 = .ok (.invokevirtual 217, 3) := by decide +kernel
theorem dX12_thing_81 : decode cX12_thing 81 = .ok (.ifCond .eq 17, 3) := by decide +kernel
theorem dX12_thing_84 : decode cX12_thing 84 = .ok (.aload_n 0, 1) := by decide +kernel
theorem dX12_thing_85 : decode cX12_thing 85 = .ok (.bipush 41, 2) := by decide +kernel
theorem dX12_thing_87 : decode cX12_thing 87 = .ok (.invokevirtual 221, 3) := by decide +kernel
theorem dX12_thing_9 : decode cX12_thing 9 = .ok (.aload_n 0, 1) := by decide +kernel
theorem dX12_thing_90 : decode cX12_thing 90 = .ok (.ifCond .ne 8, 3) := by decide +kernel
theorem dX12_thing_93 : decode cX12_thing 93 = .ok (.aload_n 0, 1) := by decide +kernel
theorem dX12_thing_94 : decode cX12_thing 94 = .ok (.invokevirtual 236, 3) := by decide +kernel
theorem dX12_thing_97 : decode cX12_thing 97 = .ok (.pop, 1) := by decide +kernel
theorem dX12_thing_98 : decode cX12_thing 98 = .ok (.iload_n 2, 1) := by decide +kernel
theorem dX12_thing_99 : decode cX12_thing 99 = .ok (.ireturn, 1) := by decide +kernel
theorem dX12_work_0 : decode cX12_work 0 = .ok (.bipush 60, 2) := by decide +kernel
theorem dX12_work_10 : decode cX12_work 10 = .ok (.aload_n 0, 1) := by decide +kernel
theorem dX12_work_11 : decode cX12_work 11 = .ok (.getfield 37, 3) := by decide +kernel
theorem dX12_work_14 : decode cX12_work 14 = .ok (.iload_n 1, 1) := by decide +kernel
theorem dX12_work_15 : decode cX12_work 15 = .ok (.iaload, 1) := by decide +kernel
theorem dX12_work_16 : decode cX12_work 16 = .ok (.imul, 1) := by decide +kernel
theorem dX12_work_17 : decode cX12_work 17 = .ok (.aload_n 0, 1) := by decide +kernel
theorem dX12_work_18 : decode cX12_work 18 = .ok (.getfield 55, 3) := by decide +kernel
theorem dX12_work_2 : decode cX12_work 2 = .ok (.aload_n 0, 1) := by decide +kernel
theorem dX12_work_21 : decode cX12_work 21 = .ok (.iload_n 1, 1) := by decide +kernel
theorem dX12_work_22 : decode cX12_work 22 = .ok (.iaload, 1) := by decide +kernel
theorem dX12_work_23 : decode cX12_work 23 = .ok (.imul, 1) := by decide +kernel
theorem dX12_work_24 : decode cX12_work 24 = .ok (.iadd, 1) := by decide +kernel
theorem dX12_work_25 : decode cX12_work 25 = .ok (.ireturn, 1) := by decide +kernel
theorem dX12_work_3 : decode cX12_work 3 = .ok (.getfield 37, 3) := by decide +kernel
theorem dX12_work_6 : decode cX12_work 6 = .ok (.iload_n 1, 1) := by decide +kernel
theorem dX12_work_7 : decode cX12_work 7 = .ok (.iaload, 1) := by decide +kernel
theorem dX12_work_8 : decode cX12_work 8 = .ok (.imul, 1) := by decide +kernel
theorem dX12_work_9 : decode cX12_work 9 = .ok (.iconst 2, 1) := by decide +kernel
def wo_m_in : List Cond := []
def wm_m_in : List Cond := .code yX12_in cX12_in 3 (some .boolean) :: (wo_m_in ++ ([] : List Cond))
theorem gd_m_in : ∀ w ∈ wm_m_in, goodWord w = true := gd_c rfl (gd_a (by decide) gd_nil)
set_option maxRecDepth 20000 in
theorem im_m_in : ∀ w ∈ wm_m_in, w ∈ lw_tbl := im_c (in_r [.code yX12_in cX12_in 3 (some .boolean)] [1422] (by decide +kernel)) (in_app (in_r wo_m_in [] (by decide +kernel)) im_nil)
set_option maxHeartbeats 4000000 in
set_option maxRecDepth 100000 in
theorem m_in (l : Launch) (dC : Nat → ClassId) (dI : Nat → Nat → Nat) (ad av : Nat → Nat) (sz : Nat) (a : Nat → Nat) (k : Nat → ClassId) (τ ln : Nat → Nat) (y : Nat → Nat → Int32) (g : Nat → Nat → Option Nat) (u : Nat → Int) (p0 : Int32) (p1 : Int32) (p2 : Int32) : Met l yX12_in wm_m_in ({ frames := 0, cells := 0, slots := 0, locals := 0 }) (pw_ ad av (dC, dI) sz [.int p0, .int p1, .int p2] a k τ ln y g) (va_Qi (fun (r u : Int32) => u = r) (fun (r : Int32) (t : State) => (r = 1 ∧ p1.toInt ≤ p0.toInt ∧ p0.toInt ≤ p2.toInt ∧ tw (dC, dI) a k τ ln y g t.heap) ∨ (r = 0 ∧ (p0.toInt < p1.toInt ∨ p2.toInt < p0.toInt) ∧ tw (dC, dI) a k τ ln y g t.heap)) (fr τ sz)) 0 0 (fr τ sz) := by
  refine Met.ofW (cc := cX12_in) (maxL := 3) (ret := (some .boolean)) (by decide) rfl ?_
  intro p e s m args below meth c s₁ B hml hv
  obtain ⟨rfl, hsz, hT, hK, hM⟩ := hv
  have hx := B.exec
  have hb := B.bytes
  have hr := B.returns
  have hts := atoms_spec (ws := wm_m_in) B.pre
  have hown : s.vm.findClass RX12 = some m.cls := findClass_of_methodNamed B.named
  have hlocks := B.notSynchronized
  subst hsz
  generalize hAe : fr τ s.heap.size = A at hM ⊢
  have hA : ∀ q : Nat, s.heap.size ≤ q → A q := fun q h => by rw [← hAe]; exact Or.inr h
  have hF : ∀ q, τ q ≠ 0 → A q := fun q h => by rw [← hAe]; exact Or.inl h
  have hS : va_S A s.heap s.heap [] := va_S.rf
  have hl := lv_entry ([.int p0, .int p1, .int p2]) (n := 3) (Nat.le_of_ble_eq_true rfl)
  rw [lg_entry_eq]
  generalize (lg_sl ([.int p0, .int p1, .int p2]) ++ List.replicate (3 - (lg_sl ([.int p0, .int p1, .int p2])).length) Slot.unset).toArray = ls at hl ⊢
  have hl : lv_has ls 3 [(0, .int p0), (1, .int p1), (2, .int p2)] := hl
  refine lv_iload_n hx hb dX12_in_0 rfl (lv_at hl 0 rfl) ?_
  refine lv_iload_n hx hb dX12_in_1 rfl (lv_at hl 1 rfl) ?_
  refine lv_icmp_lt (tgt := 14) hx hb dX12_in_2 (by decide) (fun c_1 => ?_) (fun c_1 => ?_)
  · have nc_1 := z_lt rfl rfl c_1
    refine lv_iconst (v := 0) hx hb dX12_in_14 (by decide) ?_
    have hrv : (0 : Int32).toInt = 0 := (zk (x := 0) 0 rfl)
    exact W.zret (v := 0) hx hb hr (by decide) (fun t ht hW9 => ⟨⟨0, 0, rfl, rfl, Or.inr (⟨rfl, by omega, tw_at ht hT⟩)⟩, hS.F ht⟩) hS.2.2 dX12_in_15
  · have nc_1 := z_nlt rfl rfl c_1
    refine lv_iload_n hx hb dX12_in_5 rfl (lv_at hl 0 rfl) ?_
    refine lv_iload_n hx hb dX12_in_6 rfl (lv_at hl 2 rfl) ?_
    refine lv_icmp_gt (tgt := 14) hx hb dX12_in_7 (by decide) (fun c_2 => ?_) (fun c_2 => ?_)
    · have nc_2 := z_lt rfl rfl c_2
      refine lv_iconst (v := 0) hx hb dX12_in_14 (by decide) ?_
      have hrv : (0 : Int32).toInt = 0 := (zk (x := 0) 0 rfl)
      exact W.zret (v := 0) hx hb hr (by decide) (fun t ht hW9 => ⟨⟨0, 0, rfl, rfl, Or.inr (⟨rfl, by omega, tw_at ht hT⟩)⟩, hS.F ht⟩) hS.2.2 dX12_in_15
    · have nc_2 := z_nlt rfl rfl c_2
      refine lv_iconst (v := 1) hx hb dX12_in_10 (by decide) ?_
      refine lv_goto (tgt := 15) hx hb dX12_in_11 (by decide) ?_
      have hrv : (1 : Int32).toInt = 1 := (zk (x := 1) 1 rfl)
      exact W.zret (v := 1) hx hb hr (by decide) (fun t ht hW9 => ⟨⟨1, 1, rfl, rfl, Or.inl ⟨rfl, by omega, by omega, tw_at ht hT⟩⟩, hS.F ht⟩) hS.2.2 dX12_in_15
def wo_m_bits : List Cond := [.methodLink RX12 264 yJ6_bitCount_0f7a4, .static yJ6_bitCount_0f7a4, .initialized RJ6]
def wm_m_bits : List Cond := .code yX12_bits cX12_bits 1 (some .int) :: (wo_m_bits ++ (wm_c_bitCount ++ ([] : List Cond)))
theorem gd_m_bits : ∀ w ∈ wm_m_bits, goodWord w = true := gd_c rfl (gd_a (by decide) (gd_a gd_c_bitCount gd_nil))
set_option maxRecDepth 20000 in
theorem im_m_bits : ∀ w ∈ wm_m_bits, w ∈ lw_tbl := im_c (in_r [.code yX12_bits cX12_bits 1 (some .int)] [1578] (by decide +kernel)) (in_app (in_r wo_m_bits [1579, 806, 90] (by decide +kernel)) (in_app im_c_bitCount im_nil))
set_option maxHeartbeats 4000000 in
set_option maxRecDepth 100000 in
theorem m_bits (l : Launch) (dC : Nat → ClassId) (dI : Nat → Nat → Nat) (ad av : Nat → Nat) (sz : Nat) (a : Nat → Nat) (k : Nat → ClassId) (τ ln : Nat → Nat) (y : Nat → Nat → Int32) (g : Nat → Nat → Option Nat) (u : Nat → Int) (p0 : Int32) : Met l yX12_bits wm_m_bits ({ frames := 1, cells := 0, slots := 0, locals := 60 }) (pw_ ad av (dC, dI) sz [.int p0] a k τ ln y g) (va_Qi (fun (r u : Int32) => u = r) (fun (r : Int32) (t : State) => (0 ≤ r.toInt ∧ r.toInt ≤ 63 ∧ tw (dC, dI) a k τ ln y g t.heap)) (fr τ sz)) 0 0 (fr τ sz) := by
  refine Met.ofW (cc := cX12_bits) (maxL := 1) (ret := (some .int)) (by decide) rfl ?_
  intro p e s m args below meth c s₁ B hml hv
  obtain ⟨rfl, hsz, hT, hK, hM⟩ := hv
  have hx := B.exec
  have hb := B.bytes
  have hr := B.returns
  have hts := atoms_spec (ws := wm_m_bits) B.pre
  have hown : s.vm.findClass RX12 = some m.cls := findClass_of_methodNamed B.named
  have hlocks := B.notSynchronized
  subst hsz
  generalize hAe : fr τ s.heap.size = A at hM ⊢
  have hA : ∀ q : Nat, s.heap.size ≤ q → A q := fun q h => by rw [← hAe]; exact Or.inr h
  have hF : ∀ q, τ q ≠ 0 → A q := fun q h => by rw [← hAe]; exact Or.inl h
  have hS : va_S A s.heap s.heap [] := va_S.rf
  have hl := lv_entry ([.int p0]) (n := 1) (Nat.le_of_ble_eq_true rfl)
  rw [lg_entry_eq]
  generalize (lg_sl ([.int p0]) ++ List.replicate (1 - (lg_sl ([.int p0])).length) Slot.unset).toArray = ls at hl ⊢
  have hl : lv_has ls 1 [(0, .int p0)] := hl
  refine lv_iload_n hx hb dX12_bits_0 rfl (lv_at hl 0 rfl) ?_
  have hFc := tw_free hF hS hA
  refine va_calli (va_runS (As := [.int p0]) (rest := []) ⟨hx, hb, hml, hown, hts⟩ (c_bitCount l dC dI ad av s.heap.size a k τ ln y g u p0  ) (va_cwS 1 hts (gi_3 (List.mem_cons_of_mem _ (List.mem_append_left _ (List.mem_of_getElem? (i := 0) rfl))) (List.mem_cons_of_mem _ (List.mem_append_left _ (List.mem_of_getElem? (i := 1) rfl))) (List.mem_cons_of_mem _ (List.mem_append_left _ (List.mem_of_getElem? (i := 2) rfl))) (fun _ hh => (List.mem_cons_of_mem _ (List.mem_append_right _ (List.mem_append_left _ hh)))) gd_c_bitCount) rfl rfl rfl (by decide +kernel) ⟨Nat.le_of_ble_eq_true rfl, Nat.le_of_ble_eq_true rfl⟩) ⟨pw_blind, pw_use hT hK hFc hS hM⟩ rfl rfl hl.1 rfl (lv_room (Nat.le_of_ble_eq_true rfl)) dX12_bits_1 ⟨Nat.le_of_ble_eq_true rfl, Nat.le_of_ble_eq_true rfl⟩) hS (fun q _ h => hFc q h) hFc (fun r0 r_1 t H locs ht hvm hw hB hz1 hk1 hS => ?_)
  refine W.widen (k := 0) (n := 0) (Nat.le_of_ble_eq_true rfl) (Nat.le_of_ble_eq_true rfl) ?_
  clear hvm hz1 hk1
  subst hw
  obtain ⟨hf_2, hf_3, hT⟩ := hB
  rw [ht] at hT
  have hrv : r_1.toInt = r_1.toInt := rfl
  exact W.iret (v := r_1) hx hb hr (fun t ht hW9 => ⟨⟨r_1, r_1, rfl, rfl, ⟨by omega, by omega, tw_at ht hT⟩⟩, hS.F ht⟩) hS.2.2 dX12_bits_4
def wo_m_rate : List Cond := [.methodLink RX12 275 yX12_bits, .static yX12_bits, .initialized RX12, .methodLink RX12 281 Lib.Math.max.name, .static Lib.Math.max.name, .initialized "java/lang/Math", .code Lib.Math.max.name Lib.Math.max.code 2 (some .int)]
def wm_m_rate : List Cond := .code yX12_rate cX12_rate 2 (some .int) :: (wo_m_rate ++ (wm_m_bits ++ ([] : List Cond)))
theorem gd_m_rate : ∀ w ∈ wm_m_rate, goodWord w = true := gd_c rfl (gd_a (by decide) (gd_a gd_m_bits gd_nil))
set_option maxRecDepth 20000 in
theorem im_m_rate : ∀ w ∈ wm_m_rate, w ∈ lw_tbl := im_c (in_r [.code yX12_rate cX12_rate 2 (some .int)] [1582] (by decide +kernel)) (in_app (in_r wo_m_rate [1576, 1577, 86, 1583, 289, 78, 290] (by decide +kernel)) (in_app im_m_bits im_nil))
set_option maxHeartbeats 4000000 in
set_option maxRecDepth 100000 in
theorem m_rate (l : Launch) (dC : Nat → ClassId) (dI : Nat → Nat → Nat) (ad av : Nat → Nat) (sz : Nat) (a : Nat → Nat) (k : Nat → ClassId) (τ ln : Nat → Nat) (y : Nat → Nat → Int32) (g : Nat → Nat → Option Nat) (u : Nat → Int) (p0 : Int32) (p1 : Int32) (hr0 : 10 ≤ p0.toInt) (hr1 : p0.toInt ≤ 200) : Met l yX12_rate wm_m_rate ({ frames := 2, cells := 0, slots := 0, locals := 120 }) (pw_ ad av (dC, dI) sz [.int p0, .int p1] a k τ ln y g) (va_Qi (fun (r u : Int32) => u = r) (fun (r : Int32) (t : State) => (5 ≤ r.toInt ∧ r.toInt ≤ 200 ∧ tw (dC, dI) a k τ ln y g t.heap)) (fr τ sz)) 0 0 (fr τ sz) := by
  refine Met.ofW (cc := cX12_rate) (maxL := 2) (ret := (some .int)) (by decide) rfl ?_
  intro p e s m args below meth c s₁ B hml hv
  obtain ⟨rfl, hsz, hT, hK, hM⟩ := hv
  have hx := B.exec
  have hb := B.bytes
  have hr := B.returns
  have hts := atoms_spec (ws := wm_m_rate) B.pre
  have hown : s.vm.findClass RX12 = some m.cls := findClass_of_methodNamed B.named
  have hlocks := B.notSynchronized
  subst hsz
  generalize hAe : fr τ s.heap.size = A at hM ⊢
  have hA : ∀ q : Nat, s.heap.size ≤ q → A q := fun q h => by rw [← hAe]; exact Or.inr h
  have hF : ∀ q, τ q ≠ 0 → A q := fun q h => by rw [← hAe]; exact Or.inl h
  have hS : va_S A s.heap s.heap [] := va_S.rf
  have hl := lv_entry ([.int p0, .int p1]) (n := 2) (Nat.le_of_ble_eq_true rfl)
  rw [lg_entry_eq]
  generalize (lg_sl ([.int p0, .int p1]) ++ List.replicate (2 - (lg_sl ([.int p0, .int p1])).length) Slot.unset).toArray = ls at hl ⊢
  have hl : lv_has ls 2 [(0, .int p0), (1, .int p1)] := hl
  refine lv_iconst (v := 5) hx hb dX12_rate_0 (by decide) ?_
  refine lv_iload_n hx hb dX12_rate_1 rfl (lv_at hl 0 rfl) ?_
  refine lv_iconst (v := 5) hx hb dX12_rate_2 (by decide) ?_
  refine lv_iload_n hx hb dX12_rate_3 rfl (lv_at hl 1 rfl) ?_
  have hFc := tw_free hF hS hA
  refine va_calli (va_runS (As := [.int p1]) (rest := [.int 5, .int p0, .int 5]) ⟨hx, hb, hml, hown, hts⟩ (m_bits l dC dI ad av s.heap.size a k τ ln y g u p1  ) (va_cwS 1 hts (gi_3 (List.mem_cons_of_mem _ (List.mem_append_left _ (List.mem_of_getElem? (i := 0) rfl))) (List.mem_cons_of_mem _ (List.mem_append_left _ (List.mem_of_getElem? (i := 1) rfl))) (List.mem_cons_of_mem _ (List.mem_append_left _ (List.mem_of_getElem? (i := 2) rfl))) (fun _ hh => (List.mem_cons_of_mem _ (List.mem_append_right _ (List.mem_append_left _ hh)))) gd_m_bits) rfl rfl rfl (by decide +kernel) ⟨Nat.le_of_ble_eq_true rfl, Nat.le_of_ble_eq_true rfl⟩) ⟨pw_blind, pw_use hT hK hFc hS hM⟩ rfl rfl hl.1 rfl (lv_room (Nat.le_of_ble_eq_true rfl)) dX12_rate_4 ⟨Nat.le_of_ble_eq_true rfl, Nat.le_of_ble_eq_true rfl⟩) hS (fun q _ h => hFc q h) hFc (fun r0 r_1 t H locs ht hvm hw hB hz1 hk1 hS => ?_)
  refine W.widen (k := 0) (n := 0) (Nat.le_of_ble_eq_true rfl) (Nat.le_of_ble_eq_true rfl) ?_
  clear hvm hz1 hk1
  subst hw
  obtain ⟨hf_2, hf_3, hT⟩ := hB
  rw [ht] at hT
  refine lv_imul hx hb dX12_rate_7 ?_
  refine lv_topi (fun x_4 ex_4 => ?_)
  have hx_4 := z_mul ex_4 (zk (x := 5) 5 rfl) rfl (by omega) (by omega)
  refine lv_isub hx hb dX12_rate_8 ?_
  refine lv_topi (fun x_5 ex_5 => ?_)
  have hx_5 := z_sub ex_5 rfl rfl (by omega) (by omega)
  refine va_mmax hx hb (by rw [hml]; exact hl.1.symm) hown (hts (.methodLink RX12 281 Lib.Math.max.name) (List.mem_cons_of_mem _ (List.mem_append_left _ (List.mem_of_getElem? (i := 3) rfl)))) (hts (.static Lib.Math.max.name) (List.mem_cons_of_mem _ (List.mem_append_left _ (List.mem_of_getElem? (i := 4) rfl)))) (hts (.initialized "java/lang/Math") (List.mem_cons_of_mem _ (List.mem_append_left _ (List.mem_of_getElem? (i := 5) rfl)))) (hts (.code Lib.Math.max.name Lib.Math.max.code 2 (some .int)) (List.mem_cons_of_mem _ (List.mem_append_left _ (List.mem_of_getElem? (i := 6) rfl)))) (Nat.le_of_ble_eq_true rfl) (Nat.le_of_ble_eq_true rfl) (Nat.le_of_ble_eq_true rfl) (Nat.le_of_ble_eq_true rfl) dX12_rate_9 ?_
  refine lv_topi (fun x_6 ex_6 => ?_)
  have hx_6 := z_max ex_6 (zk (x := 5) 5 rfl) rfl
  have hrv : x_6.toInt = x_6.toInt := rfl
  exact W.iret (v := x_6) hx hb hr (fun t ht hW9 => ⟨⟨x_6, x_6, rfl, rfl, ⟨by omega, by omega, tw_at ht hT⟩⟩, hS.F ht⟩) hS.2.2 dX12_rate_12
def wo_m_minutes : List Cond := []
def wm_m_minutes : List Cond := .code yX12_minutes cX12_minutes 2 (some .int) :: (wo_m_minutes ++ ([] : List Cond))
theorem gd_m_minutes : ∀ w ∈ wm_m_minutes, goodWord w = true := gd_c rfl (gd_a (by decide) gd_nil)
set_option maxRecDepth 20000 in
theorem im_m_minutes : ∀ w ∈ wm_m_minutes, w ∈ lw_tbl := im_c (in_r [.code yX12_minutes cX12_minutes 2 (some .int)] [1698] (by decide +kernel)) (in_app (in_r wo_m_minutes [] (by decide +kernel)) im_nil)
set_option maxHeartbeats 4000000 in
set_option maxRecDepth 100000 in
theorem m_minutes (l : Launch) (dC : Nat → ClassId) (dI : Nat → Nat → Nat) (ad av : Nat → Nat) (sz : Nat) (a : Nat → Nat) (k : Nat → ClassId) (τ ln : Nat → Nat) (y : Nat → Nat → Int32) (g : Nat → Nat → Option Nat) (u : Nat → Int) (p0 : Int32) (p1 : Int32) (hr0 : 1 ≤ p1.toInt) (hr1 : p1.toInt ≤ 200) (hw0 : 0 ≤ p0.toInt) (hw1 : p0.toInt ≤ 28800) : Met l yX12_minutes wm_m_minutes ({ frames := 0, cells := 0, slots := 0, locals := 0 }) (pw_ ad av (dC, dI) sz [.int p0, .int p1] a k τ ln y g) (va_Qi (fun (r u : Int32) => u = r) (fun (r : Int32) (t : State) => (0 ≤ r.toInt ∧ r.toInt ≤ 29000 ∧ tw (dC, dI) a k τ ln y g t.heap)) (fr τ sz)) 0 0 (fr τ sz) := by
  refine Met.ofW (cc := cX12_minutes) (maxL := 2) (ret := (some .int)) (by decide) rfl ?_
  intro p e s m args below meth c s₁ B hml hv
  obtain ⟨rfl, hsz, hT, hK, hM⟩ := hv
  have hx := B.exec
  have hb := B.bytes
  have hr := B.returns
  have hts := atoms_spec (ws := wm_m_minutes) B.pre
  have hown : s.vm.findClass RX12 = some m.cls := findClass_of_methodNamed B.named
  have hlocks := B.notSynchronized
  subst hsz
  generalize hAe : fr τ s.heap.size = A at hM ⊢
  have hA : ∀ q : Nat, s.heap.size ≤ q → A q := fun q h => by rw [← hAe]; exact Or.inr h
  have hF : ∀ q, τ q ≠ 0 → A q := fun q h => by rw [← hAe]; exact Or.inl h
  have hS : va_S A s.heap s.heap [] := va_S.rf
  have hl := lv_entry ([.int p0, .int p1]) (n := 2) (Nat.le_of_ble_eq_true rfl)
  rw [lg_entry_eq]
  generalize (lg_sl ([.int p0, .int p1]) ++ List.replicate (2 - (lg_sl ([.int p0, .int p1])).length) Slot.unset).toArray = ls at hl ⊢
  have hl : lv_has ls 2 [(0, .int p0), (1, .int p1)] := hl
  refine lv_iload_n hx hb dX12_minutes_0 rfl (lv_at hl 0 rfl) ?_
  refine lv_iload_n hx hb dX12_minutes_1 rfl (lv_at hl 1 rfl) ?_
  refine lv_iadd hx hb dX12_minutes_2 ?_
  refine lv_topi (fun x_1 ex_1 => ?_)
  have hx_1 := z_add ex_1 rfl rfl (by omega) (by omega)
  refine lv_iconst (v := 1) hx hb dX12_minutes_3 (by decide) ?_
  refine lv_isub hx hb dX12_minutes_4 ?_
  refine lv_topi (fun x_2 ex_2 => ?_)
  have hx_2 := z_sub ex_2 rfl (zk (x := 1) 1 rfl) (by omega) (by omega)
  refine lv_iload_n hx hb dX12_minutes_5 rfl (lv_at hl 1 rfl) ?_
  refine lv_idiv hx hb dX12_minutes_6 (z_n0 rfl (by omega)) ?_
  refine lv_topi (fun x_3 ex_3 => ?_)
  have hx_3 := z_divb ex_3 rfl rfl (by omega) (by omega)
  have hrv : x_3.toInt = x_3.toInt := rfl
  exact W.iret (v := x_3) hx hb hr (fun t ht hW9 => ⟨⟨x_3, x_3, rfl, rfl, ⟨by omega, by omega, tw_at ht hT⟩⟩, hS.F ht⟩) hS.2.2 dX12_minutes_7
def wo_m_names : List Cond := []
def wm_m_names : List Cond := .code yX12_names cX12_names 1 (some (.object "java/lang/String")) :: (wo_m_names ++ ([] : List Cond))
theorem gd_m_names : ∀ w ∈ wm_m_names, goodWord w = true := gd_c rfl (gd_a (by decide) gd_nil)
set_option maxRecDepth 20000 in
theorem im_m_names : ∀ w ∈ wm_m_names, w ∈ lw_tbl := im_c (in_r [.code yX12_names cX12_names 1 (some (.object "java/lang/String"))] [1474] (by decide +kernel)) (in_app (in_r wo_m_names [] (by decide +kernel)) im_nil)
set_option maxHeartbeats 4000000 in
set_option maxRecDepth 100000 in
theorem m_names (l : Launch) (dC : Nat → ClassId) (dI : Nat → Nat → Nat) (ad av : Nat → Nat) (sz : Nat) (a : Nat → Nat) (k : Nat → ClassId) (τ ln : Nat → Nat) (y : Nat → Nat → Int32) (g : Nat → Nat → Option Nat) (u : Nat → Int) (p0 : Int32) : Met l yX12_names wm_m_names ({ frames := 0, cells := 0, slots := 0, locals := 0 }) (pw_ ad av (dC, dI) sz [.int p0] a k τ ln y g) (va_Qr (fun (_ : Unit) => True) (fun (_ : Unit) (r : Nat) (t : State) => (r = (ad 9) ∧ tw (dC, dI) a k τ ln y g t.heap) ∨ (r = (ad 10) ∧ tw (dC, dI) a k τ ln y g t.heap) ∨ (r = (ad 11) ∧ tw (dC, dI) a k τ ln y g t.heap) ∨ (r = (ad 12) ∧ tw (dC, dI) a k τ ln y g t.heap)) (fr τ sz)) 0 0 (fr τ sz) := by
  refine Met.ofW (cc := cX12_names) (maxL := 1) (ret := (some (.object "java/lang/String"))) (by decide) rfl ?_
  intro p e s m args below meth c s₁ B hml hv
  obtain ⟨rfl, hsz, hT, hK, hM⟩ := hv
  have hx := B.exec
  have hb := B.bytes
  have hr := B.returns
  have hts := atoms_spec (ws := wm_m_names) B.pre
  have hown : s.vm.findClass RX12 = some m.cls := findClass_of_methodNamed B.named
  have hlocks := B.notSynchronized
  subst hsz
  generalize hAe : fr τ s.heap.size = A at hM ⊢
  have hA : ∀ q : Nat, s.heap.size ≤ q → A q := fun q h => by rw [← hAe]; exact Or.inr h
  have hF : ∀ q, τ q ≠ 0 → A q := fun q h => by rw [← hAe]; exact Or.inl h
  have hS : va_S A s.heap s.heap [] := va_S.rf
  have hl := lv_entry ([.int p0]) (n := 1) (Nat.le_of_ble_eq_true rfl)
  rw [lg_entry_eq]
  generalize (lg_sl ([.int p0]) ++ List.replicate (1 - (lg_sl ([.int p0])).length) Slot.unset).toArray = ls at hl ⊢
  have hl : lv_has ls 1 [(0, .int p0)] := hl
  refine lv_iload_n hx hb dX12_names_0 rfl (lv_at hl 0 rfl) ?_
  rcases tb_0_2 p0 with t_1 | t_1 | t_1 | t_1
  · refine lq_top (v := 0) t_1 ?_
    have nt_1 := z_eq rfl (zk (x := 0) 0 rfl) t_1
    refine lv_tableIn (tgt := 28) hx hb dX12_names_1 (by decide) (by decide) (off := 27) (by decide) (by decide) ?_
    refine va_ldcS hx hb hown (hM.2.2.1 9 _ rfl).1 dX12_names_28 ?_
    exact W.aret (v := .ref (ad 9)) hx hb hr (by first | exact Or.inl ⟨_, rfl⟩ | exact Or.inr ⟨_, rfl⟩) (Or.inr ⟨_, rfl⟩) (fun t ht hW9 => ⟨⟨(), (ad 9), rfl, trivial, Or.inl ⟨rfl, tw_at ht hT⟩⟩, hS.F ht⟩) hS.2.2 dX12_names_30
  · refine lq_top (v := 1) t_1 ?_
    have nt_1 := z_eq rfl (zk (x := 1) 1 rfl) t_1
    refine lv_tableIn (tgt := 31) hx hb dX12_names_1 (by decide) (by decide) (off := 30) (by decide) (by decide) ?_
    refine va_ldcS hx hb hown (hM.2.2.1 10 _ rfl).1 dX12_names_31 ?_
    exact W.aret (v := .ref (ad 10)) hx hb hr (by first | exact Or.inl ⟨_, rfl⟩ | exact Or.inr ⟨_, rfl⟩) (Or.inr ⟨_, rfl⟩) (fun t ht hW9 => ⟨⟨(), (ad 10), rfl, trivial, Or.inr (Or.inl ⟨rfl, tw_at ht hT⟩)⟩, hS.F ht⟩) hS.2.2 dX12_names_33
  · refine lq_top (v := 2) t_1 ?_
    have nt_1 := z_eq rfl (zk (x := 2) 2 rfl) t_1
    refine lv_tableIn (tgt := 34) hx hb dX12_names_1 (by decide) (by decide) (off := 33) (by decide) (by decide) ?_
    refine va_ldcS hx hb hown (hM.2.2.1 11 _ rfl).1 dX12_names_34 ?_
    exact W.aret (v := .ref (ad 11)) hx hb hr (by first | exact Or.inl ⟨_, rfl⟩ | exact Or.inr ⟨_, rfl⟩) (Or.inr ⟨_, rfl⟩) (fun t ht hW9 => ⟨⟨(), (ad 11), rfl, trivial, Or.inr (Or.inr (Or.inl ⟨rfl, tw_at ht hT⟩))⟩, hS.F ht⟩) hS.2.2 dX12_names_36
  · refine lv_tableOut (tgt := 37) hx hb dX12_names_1 t_1 (by decide) ?_
    refine va_ldcS hx hb hown (hM.2.2.1 12 _ rfl).1 dX12_names_37 ?_
    exact W.aret (v := .ref (ad 12)) hx hb hr (by first | exact Or.inl ⟨_, rfl⟩ | exact Or.inr ⟨_, rfl⟩) (Or.inr ⟨_, rfl⟩) (fun t ht hW9 => ⟨⟨(), (ad 12), rfl, trivial, Or.inr (Or.inr (Or.inr (⟨rfl, tw_at ht hT⟩)))⟩, hS.F ht⟩) hS.2.2 dX12_names_39
def wo_m_now : List Cond := [.fieldLink RX12 107 "TypingPoolModel" "w" "[I"]
def wm_m_now : List Cond := .code yX12_now cX12_now 1 (some .int) :: (wo_m_now ++ (wsX120 ++ ([] : List Cond)))
theorem gd_m_now : ∀ w ∈ wm_m_now, goodWord w = true := gd_c rfl (gd_a (by decide) (gd_a gd_wsX120 gd_nil))
set_option maxRecDepth 20000 in
theorem im_m_now : ∀ w ∈ wm_m_now, w ∈ lw_tbl := im_c (in_r [.code yX12_now cX12_now 1 (some .int)] [1443] (by decide +kernel)) (in_app (in_r wo_m_now [1279] (by decide +kernel)) (in_app im_wsX120 im_nil))
set_option maxHeartbeats 4000000 in
set_option maxRecDepth 100000 in
theorem m_now (l : Launch) (dC : Nat → ClassId) (dI : Nat → Nat → Nat) (ad av : Nat → Nat) (sz : Nat) (a : Nat → Nat) (k : Nat → ClassId) (τ ln : Nat → Nat) (y : Nat → Nat → Int32) (g : Nat → Nat → Option Nat) (u : Nat → Int) (hI : IM a u τ y) (hW : IW (u 1) (u 2) (u 9) (y (a 89))) : Met l yX12_now wm_m_now ({ frames := 0, cells := 0, slots := 0, locals := 0 }) (pw_ ad av (dC, dI) sz [.ref (a 50)] a k τ ln y g) (va_Qi (fun (r u : Int32) => u = r) (fun (r : Int32) (t : State) => (r.toInt = u 9 ∧ tw (dC, dI) a k τ ln y g t.heap)) (fr τ sz)) 0 0 (fr τ sz) := by
  refine Met.ofW (cc := cX12_now) (maxL := 1) (ret := (some .int)) (by decide) rfl ?_
  intro p e s m args below meth c s₁ B hml hv
  obtain ⟨rfl, hsz, hT, hK, hM⟩ := hv
  have hx := B.exec
  have hb := B.bytes
  have hr := B.returns
  have hts := atoms_spec (ws := wm_m_now) B.pre
  have hown : s.vm.findClass RX12 = some m.cls := findClass_of_methodNamed B.named
  have hlocks := B.notSynchronized
  subst hsz
  generalize hAe : fr τ s.heap.size = A at hM ⊢
  have hA : ∀ q : Nat, s.heap.size ≤ q → A q := fun q h => by rw [← hAe]; exact Or.inr h
  have hF : ∀ q, τ q ≠ 0 → A q := fun q h => by rw [← hAe]; exact Or.inl h
  have hS : va_S A s.heap s.heap [] := va_S.rf
  have hX := hI.1
  have hR := im_r hI
  have hl := lv_entry ([.ref (a 50)]) (n := 1) (Nat.le_of_ble_eq_true rfl)
  rw [lg_entry_eq]
  generalize (lg_sl ([.ref (a 50)]) ++ List.replicate (1 - (lg_sl ([.ref (a 50)])).length) Slot.unset).toArray = ls at hl ⊢
  have hl : lv_has ls 1 [(0, .ref (a 50))] := hl
  refine lv_aload_n hx hb dX12_now_0 rfl (lv_at hl 0 rfl) ?_
  refine tw_get (D := (dC, dI)) (v := .ref (a 89)) (C := RX12) (T := TX12) (N := 58) hx hb hts (fun _ hh => (List.mem_cons_of_mem _ (List.mem_append_right _ (List.mem_append_left _ hh)))) hown hK hT (fx_50 hX) (by decide) cl_e60 rfl 38 (by decide) (hts (.fieldLink RX12 107 "TypingPoolModel" "w" "[I") (List.mem_cons_of_mem _ (List.mem_append_left _ (List.mem_of_getElem? (i := 0) rfl)))) (fun _ h9 => h9) rfl dX12_now_1 ?_
  refine lv_iconst (v := 0) hx hb dX12_now_4 (by decide) ?_
  refine tw_iald hx hb hK hT 0 (fx_89 hX) (by decide) cl_e99 rfl (z_in (zk (x := 0) 0 rfl) (by omega) (by omega)) dX12_now_5 ?_
  have hc_1 : (y (a 89) (0 : Int32).toNatClampNeg).toInt = u 9 := hW.1
  have hrv : (y (a 89) (0 : Int32).toNatClampNeg).toInt = u 9 := hc_1
  exact W.iret (v := y (a 89) (0 : Int32).toNatClampNeg) hx hb hr (fun t ht hW9 => ⟨⟨y (a 89) (0 : Int32).toNatClampNeg, y (a 89) (0 : Int32).toNatClampNeg, rfl, rfl, ⟨by omega, tw_at ht hT⟩⟩, hS.F ht⟩) hS.2.2 dX12_now_6
def wo_m_isHand : List Cond := [.fieldLink RX12 142 "TypingPoolModel" "hands" "I", .methodLink RX12 145 yX12_in, .static yX12_in, .initialized RX12]
def wm_m_isHand : List Cond := .code yX12_isHand cX12_isHand 2 (some .boolean) :: (wo_m_isHand ++ (wsX120 ++ (wm_m_in ++ ([] : List Cond))))
theorem gd_m_isHand : ∀ w ∈ wm_m_isHand, goodWord w = true := gd_c rfl (gd_a (by decide) (gd_a gd_wsX120 (gd_a gd_m_in gd_nil)))
set_option maxRecDepth 20000 in
theorem im_m_isHand : ∀ w ∈ wm_m_isHand, w ∈ lw_tbl := im_c (in_r [.code yX12_isHand cX12_isHand 2 (some .boolean)] [1439] (by decide +kernel)) (in_app (in_r wo_m_isHand [1246, 1420, 1421, 86] (by decide +kernel)) (in_app im_wsX120 (in_app im_m_in im_nil)))
set_option maxHeartbeats 4000000 in
set_option maxRecDepth 100000 in
theorem m_isHand (l : Launch) (dC : Nat → ClassId) (dI : Nat → Nat → Nat) (ad av : Nat → Nat) (sz : Nat) (a : Nat → Nat) (k : Nat → ClassId) (τ ln : Nat → Nat) (y : Nat → Nat → Int32) (g : Nat → Nat → Option Nat) (u : Nat → Int) (p0 : Int32) (hI : IM a u τ y) (hW : IW (u 1) (u 2) (u 9) (y (a 89))) : Met l yX12_isHand wm_m_isHand ({ frames := 1, cells := 0, slots := 0, locals := 60 }) (pw_ ad av (dC, dI) sz [.ref (a 50), .int p0] a k τ ln y g) (va_Qi (fun (r u : Int32) => u = r) (fun (r : Int32) (t : State) => (r = 1 ∧ 0 ≤ p0.toInt ∧ p0.toInt < u 1 ∧ tw (dC, dI) a k τ ln y g t.heap) ∨ (r = 0 ∧ (p0.toInt < 0 ∨ u 1 ≤ p0.toInt) ∧ tw (dC, dI) a k τ ln y g t.heap)) (fr τ sz)) 0 0 (fr τ sz) := by
  refine Met.ofW (cc := cX12_isHand) (maxL := 2) (ret := (some .boolean)) (by decide) rfl ?_
  intro p e s m args below meth c s₁ B hml hv
  obtain ⟨rfl, hsz, hT, hK, hM⟩ := hv
  have hx := B.exec
  have hb := B.bytes
  have hr := B.returns
  have hts := atoms_spec (ws := wm_m_isHand) B.pre
  have hown : s.vm.findClass RX12 = some m.cls := findClass_of_methodNamed B.named
  have hlocks := B.notSynchronized
  subst hsz
  generalize hAe : fr τ s.heap.size = A at hM ⊢
  have hA : ∀ q : Nat, s.heap.size ≤ q → A q := fun q h => by rw [← hAe]; exact Or.inr h
  have hF : ∀ q, τ q ≠ 0 → A q := fun q h => by rw [← hAe]; exact Or.inl h
  have hS : va_S A s.heap s.heap [] := va_S.rf
  have hX := hI.1
  have hR := im_r hI
  have hl := lv_entry ([.ref (a 50), .int p0]) (n := 2) (Nat.le_of_ble_eq_true rfl)
  rw [lg_entry_eq]
  generalize (lg_sl ([.ref (a 50), .int p0]) ++ List.replicate (2 - (lg_sl ([.ref (a 50), .int p0])).length) Slot.unset).toArray = ls at hl ⊢
  have hl : lv_has ls 2 [(0, .ref (a 50)), (1, .int p0)] := hl
  refine lv_iload_n hx hb dX12_isHand_0 rfl (lv_at hl 1 rfl) ?_
  refine lv_iconst (v := 0) hx hb dX12_isHand_1 (by decide) ?_
  refine lv_aload_n hx hb dX12_isHand_2 rfl (lv_at hl 0 rfl) ?_
  refine tw_get (D := (dC, dI)) (v := .int (y (a 50) 5)) (C := RX12) (T := TX12) (N := 58) hx hb hts (fun _ hh => (List.mem_cons_of_mem _ (List.mem_append_right _ (List.mem_append_left _ hh)))) hown hK hT (fx_50 hX) (by decide) cl_e60 rfl 5 (by decide) (hts (.fieldLink RX12 142 "TypingPoolModel" "hands" "I") (List.mem_cons_of_mem _ (List.mem_append_left _ (List.mem_of_getElem? (i := 0) rfl)))) (fun _ h9 => h9) rfl dX12_isHand_3 ?_
  have hc_1 := im_1 hI
  refine lv_iconst (v := 1) hx hb dX12_isHand_6 (by decide) ?_
  refine lv_isub hx hb dX12_isHand_7 ?_
  refine lv_topi (fun x_2 ex_2 => ?_)
  have hx_2 := z_sub ex_2 hc_1 (zk (x := 1) 1 rfl) (by omega) (by omega)
  have hFc := tw_free hF hS hA
  have hp_3 : (0 : Int32).toInt = 0 := (zk (x := 0) 0 rfl)
  refine va_calli (va_runS (As := [.int p0, .int 0, .int x_2]) (rest := []) ⟨hx, hb, hml, hown, hts⟩ (m_in l dC dI ad av s.heap.size a k τ ln y g u p0 (0 : Int32) x_2  ) (va_cwS 3 hts (gi_3 (List.mem_cons_of_mem _ (List.mem_append_left _ (List.mem_of_getElem? (i := 1) rfl))) (List.mem_cons_of_mem _ (List.mem_append_left _ (List.mem_of_getElem? (i := 2) rfl))) (List.mem_cons_of_mem _ (List.mem_append_left _ (List.mem_of_getElem? (i := 3) rfl))) (fun _ hh => (List.mem_cons_of_mem _ (List.mem_append_right _ (List.mem_append_right _ (List.mem_append_left _ hh))))) gd_m_in) rfl rfl rfl (by decide +kernel) ⟨Nat.le_of_ble_eq_true rfl, Nat.le_of_ble_eq_true rfl⟩) ⟨pw_blind, pw_use hT hK hFc hS hM⟩ rfl rfl hl.1 rfl (lv_room (Nat.le_of_ble_eq_true rfl)) dX12_isHand_8 ⟨Nat.le_of_ble_eq_true rfl, Nat.le_of_ble_eq_true rfl⟩) hS (fun q _ h => hFc q h) hFc (fun r0 r_4 t H locs ht hvm hw hB hz1 hk1 hS => ?_)
  refine W.widen (k := 0) (n := 0) (Nat.le_of_ble_eq_true rfl) (Nat.le_of_ble_eq_true rfl) ?_
  clear hvm hz1 hk1
  subst hw
  rcases hB with ⟨hre, hf_5, hf_6, hT⟩ | ⟨hre, hf_7, hT⟩
  · refine lq_top (v := 1) hre ?_
    rw [ht] at hT
    try simp only [hp_3] at hf_5 hf_6
    clear hp_3
    have hrv : (1 : Int32).toInt = 1 := (zk (x := 1) 1 rfl)
    exact W.zret (v := 1) hx hb hr (by decide) (fun t ht hW9 => ⟨⟨1, 1, rfl, rfl, Or.inl ⟨rfl, by omega, by omega, tw_at ht hT⟩⟩, hS.F ht⟩) hS.2.2 dX12_isHand_11
  · refine lq_top (v := 0) hre ?_
    rw [ht] at hT
    try simp only [hp_3] at hf_7
    clear hp_3
    have hrv : (0 : Int32).toInt = 0 := (zk (x := 0) 0 rfl)
    exact W.zret (v := 0) hx hb hr (by decide) (fun t ht hW9 => ⟨⟨0, 0, rfl, rfl, Or.inr (⟨rfl, by omega, tw_at ht hT⟩)⟩, hS.F ht⟩) hS.2.2 dX12_isHand_11
def wo_m_isPiece : List Cond := [.fieldLink RX12 149 "TypingPoolModel" "pieces" "I", .methodLink RX12 145 yX12_in, .static yX12_in, .initialized RX12]
def wm_m_isPiece : List Cond := .code yX12_isPiece cX12_isPiece 2 (some .boolean) :: (wo_m_isPiece ++ (wsX120 ++ (wm_m_in ++ ([] : List Cond))))
theorem gd_m_isPiece : ∀ w ∈ wm_m_isPiece, goodWord w = true := gd_c rfl (gd_a (by decide) (gd_a gd_wsX120 (gd_a gd_m_in gd_nil)))
set_option maxRecDepth 20000 in
theorem im_m_isPiece : ∀ w ∈ wm_m_isPiece, w ∈ lw_tbl := im_c (in_r [.code yX12_isPiece cX12_isPiece 2 (some .boolean)] [1599] (by decide +kernel)) (in_app (in_r wo_m_isPiece [1260, 1420, 1421, 86] (by decide +kernel)) (in_app im_wsX120 (in_app im_m_in im_nil)))
set_option maxHeartbeats 4000000 in
set_option maxRecDepth 100000 in
theorem m_isPiece (l : Launch) (dC : Nat → ClassId) (dI : Nat → Nat → Nat) (ad av : Nat → Nat) (sz : Nat) (a : Nat → Nat) (k : Nat → ClassId) (τ ln : Nat → Nat) (y : Nat → Nat → Int32) (g : Nat → Nat → Option Nat) (u : Nat → Int) (p0 : Int32) (hI : IM a u τ y) (hW : IW (u 1) (u 2) (u 9) (y (a 89))) : Met l yX12_isPiece wm_m_isPiece ({ frames := 1, cells := 0, slots := 0, locals := 60 }) (pw_ ad av (dC, dI) sz [.ref (a 50), .int p0] a k τ ln y g) (va_Qi (fun (r u : Int32) => u = r) (fun (r : Int32) (t : State) => (r = 1 ∧ 0 ≤ p0.toInt ∧ p0.toInt < u 2 ∧ tw (dC, dI) a k τ ln y g t.heap) ∨ (r = 0 ∧ (p0.toInt < 0 ∨ u 2 ≤ p0.toInt) ∧ tw (dC, dI) a k τ ln y g t.heap)) (fr τ sz)) 0 0 (fr τ sz) := by
  refine Met.ofW (cc := cX12_isPiece) (maxL := 2) (ret := (some .boolean)) (by decide) rfl ?_
  intro p e s m args below meth c s₁ B hml hv
  obtain ⟨rfl, hsz, hT, hK, hM⟩ := hv
  have hx := B.exec
  have hb := B.bytes
  have hr := B.returns
  have hts := atoms_spec (ws := wm_m_isPiece) B.pre
  have hown : s.vm.findClass RX12 = some m.cls := findClass_of_methodNamed B.named
  have hlocks := B.notSynchronized
  subst hsz
  generalize hAe : fr τ s.heap.size = A at hM ⊢
  have hA : ∀ q : Nat, s.heap.size ≤ q → A q := fun q h => by rw [← hAe]; exact Or.inr h
  have hF : ∀ q, τ q ≠ 0 → A q := fun q h => by rw [← hAe]; exact Or.inl h
  have hS : va_S A s.heap s.heap [] := va_S.rf
  have hX := hI.1
  have hR := im_r hI
  have hl := lv_entry ([.ref (a 50), .int p0]) (n := 2) (Nat.le_of_ble_eq_true rfl)
  rw [lg_entry_eq]
  generalize (lg_sl ([.ref (a 50), .int p0]) ++ List.replicate (2 - (lg_sl ([.ref (a 50), .int p0])).length) Slot.unset).toArray = ls at hl ⊢
  have hl : lv_has ls 2 [(0, .ref (a 50)), (1, .int p0)] := hl
  refine lv_iload_n hx hb dX12_isPiece_0 rfl (lv_at hl 1 rfl) ?_
  refine lv_iconst (v := 0) hx hb dX12_isPiece_1 (by decide) ?_
  refine lv_aload_n hx hb dX12_isPiece_2 rfl (lv_at hl 0 rfl) ?_
  refine tw_get (D := (dC, dI)) (v := .int (y (a 50) 19)) (C := RX12) (T := TX12) (N := 58) hx hb hts (fun _ hh => (List.mem_cons_of_mem _ (List.mem_append_right _ (List.mem_append_left _ hh)))) hown hK hT (fx_50 hX) (by decide) cl_e60 rfl 19 (by decide) (hts (.fieldLink RX12 149 "TypingPoolModel" "pieces" "I") (List.mem_cons_of_mem _ (List.mem_append_left _ (List.mem_of_getElem? (i := 0) rfl)))) (fun _ h9 => h9) rfl dX12_isPiece_3 ?_
  have hc_1 := im_2 hI
  refine lv_iconst (v := 1) hx hb dX12_isPiece_6 (by decide) ?_
  refine lv_isub hx hb dX12_isPiece_7 ?_
  refine lv_topi (fun x_2 ex_2 => ?_)
  have hx_2 := z_sub ex_2 hc_1 (zk (x := 1) 1 rfl) (by omega) (by omega)
  have hFc := tw_free hF hS hA
  have hp_3 : (0 : Int32).toInt = 0 := (zk (x := 0) 0 rfl)
  refine va_calli (va_runS (As := [.int p0, .int 0, .int x_2]) (rest := []) ⟨hx, hb, hml, hown, hts⟩ (m_in l dC dI ad av s.heap.size a k τ ln y g u p0 (0 : Int32) x_2  ) (va_cwS 3 hts (gi_3 (List.mem_cons_of_mem _ (List.mem_append_left _ (List.mem_of_getElem? (i := 1) rfl))) (List.mem_cons_of_mem _ (List.mem_append_left _ (List.mem_of_getElem? (i := 2) rfl))) (List.mem_cons_of_mem _ (List.mem_append_left _ (List.mem_of_getElem? (i := 3) rfl))) (fun _ hh => (List.mem_cons_of_mem _ (List.mem_append_right _ (List.mem_append_right _ (List.mem_append_left _ hh))))) gd_m_in) rfl rfl rfl (by decide +kernel) ⟨Nat.le_of_ble_eq_true rfl, Nat.le_of_ble_eq_true rfl⟩) ⟨pw_blind, pw_use hT hK hFc hS hM⟩ rfl rfl hl.1 rfl (lv_room (Nat.le_of_ble_eq_true rfl)) dX12_isPiece_8 ⟨Nat.le_of_ble_eq_true rfl, Nat.le_of_ble_eq_true rfl⟩) hS (fun q _ h => hFc q h) hFc (fun r0 r_4 t H locs ht hvm hw hB hz1 hk1 hS => ?_)
  refine W.widen (k := 0) (n := 0) (Nat.le_of_ble_eq_true rfl) (Nat.le_of_ble_eq_true rfl) ?_
  clear hvm hz1 hk1
  subst hw
  rcases hB with ⟨hre, hf_5, hf_6, hT⟩ | ⟨hre, hf_7, hT⟩
  · refine lq_top (v := 1) hre ?_
    rw [ht] at hT
    try simp only [hp_3] at hf_5 hf_6
    clear hp_3
    have hrv : (1 : Int32).toInt = 1 := (zk (x := 1) 1 rfl)
    exact W.zret (v := 1) hx hb hr (by decide) (fun t ht hW9 => ⟨⟨1, 1, rfl, rfl, Or.inl ⟨rfl, by omega, by omega, tw_at ht hT⟩⟩, hS.F ht⟩) hS.2.2 dX12_isPiece_11
  · refine lq_top (v := 0) hre ?_
    rw [ht] at hT
    try simp only [hp_3] at hf_7
    clear hp_3
    have hrv : (0 : Int32).toInt = 0 := (zk (x := 0) 0 rfl)
    exact W.zret (v := 0) hx hb hr (by decide) (fun t ht hW9 => ⟨⟨0, 0, rfl, rfl, Or.inr (⟨rfl, by omega, tw_at ht hT⟩)⟩, hS.F ht⟩) hS.2.2 dX12_isPiece_11
def wo_m_lost : List Cond := [.fieldLink RX12 139 "TypingPoolModel" "thrown" "I"]
def wm_m_lost : List Cond := .code yX12_lost cX12_lost 1 (some .int) :: (wo_m_lost ++ (wsX120 ++ ([] : List Cond)))
theorem gd_m_lost : ∀ w ∈ wm_m_lost, goodWord w = true := gd_c rfl (gd_a (by decide) (gd_a gd_wsX120 gd_nil))
set_option maxRecDepth 20000 in
theorem im_m_lost : ∀ w ∈ wm_m_lost, w ∈ lw_tbl := im_c (in_r [.code yX12_lost cX12_lost 1 (some .int)] [1591] (by decide +kernel)) (in_app (in_r wo_m_lost [1278] (by decide +kernel)) (in_app im_wsX120 im_nil))
set_option maxHeartbeats 4000000 in
set_option maxRecDepth 100000 in
theorem m_lost (l : Launch) (dC : Nat → ClassId) (dI : Nat → Nat → Nat) (ad av : Nat → Nat) (sz : Nat) (a : Nat → Nat) (k : Nat → ClassId) (τ ln : Nat → Nat) (y : Nat → Nat → Int32) (g : Nat → Nat → Option Nat) (u : Nat → Int) (hI : IM a u τ y) (hW : IW (u 1) (u 2) (u 9) (y (a 89))) : Met l yX12_lost wm_m_lost ({ frames := 0, cells := 0, slots := 0, locals := 0 }) (pw_ ad av (dC, dI) sz [.ref (a 50)] a k τ ln y g) (va_Qi (fun (r u : Int32) => u = r) (fun (r : Int32) (t : State) => (∃ (y' : Nat → Nat → Int32), ag τ [60] y y' ∧ IM a u τ y' ∧ tw (dC, dI) a k τ ln y' g t.heap)) (fr τ sz)) 0 0 (fr τ sz) := by
  refine Met.ofW (cc := cX12_lost) (maxL := 1) (ret := (some .int)) (by decide) rfl ?_
  intro p e s m args below meth c s₁ B hml hv
  obtain ⟨rfl, hsz, hT, hK, hM⟩ := hv
  have hx := B.exec
  have hb := B.bytes
  have hr := B.returns
  have hts := atoms_spec (ws := wm_m_lost) B.pre
  have hown : s.vm.findClass RX12 = some m.cls := findClass_of_methodNamed B.named
  have hlocks := B.notSynchronized
  subst hsz
  generalize hAe : fr τ s.heap.size = A at hM ⊢
  have hA : ∀ q : Nat, s.heap.size ≤ q → A q := fun q h => by rw [← hAe]; exact Or.inr h
  have hF : ∀ q, τ q ≠ 0 → A q := fun q h => by rw [← hAe]; exact Or.inl h
  have hS : va_S A s.heap s.heap [] := va_S.rf
  have hX := hI.1
  have hR := im_r hI
  have hG : ag τ [60] y y := ag.rf
  have hl := lv_entry ([.ref (a 50)]) (n := 1) (Nat.le_of_ble_eq_true rfl)
  rw [lg_entry_eq]
  generalize (lg_sl ([.ref (a 50)]) ++ List.replicate (1 - (lg_sl ([.ref (a 50)])).length) Slot.unset).toArray = ls at hl ⊢
  have hl : lv_has ls 1 [(0, .ref (a 50))] := hl
  refine lv_aload_n hx hb dX12_lost_0 rfl (lv_at hl 0 rfl) ?_
  refine lv_iconst (v := 1) hx hb dX12_lost_1 (by decide) ?_
  refine tw_put (D := (dC, dI)) (x := 1) (ty := .int) (C := RX12) (T := TX12) (N := 58) hx hb hts (fun _ hh => (List.mem_cons_of_mem _ (List.mem_append_right _ (List.mem_append_left _ hh)))) tyX12 tyX12_ok nmX12 hown hK hT hF hS (fx_50 hX) (by decide) cl_e60 rfl 37 (by decide) (hts (.fieldLink RX12 139 "TypingPoolModel" "thrown" "I") (List.mem_cons_of_mem _ (List.mem_append_left _ (List.mem_of_getElem? (i := 0) rfl)))) (fun _ h9 => h9) rfl (tyX12_ok 37 (by decide)) rfl rfl (Nat.le_of_ble_eq_true rfl) rfl dX12_lost_2 (fun H locs hT hS => ?_)
  obtain ⟨y_1, hy_1, hT⟩ : ∃ z : Nat → Nat → Int32, z = up2 y (a 50) 37 (1 : Int32) ∧ tw (dC, dI) a k τ ln z g H := ⟨_, rfl, hT⟩
  have hG : ag τ [60] y y_1 := by rw [hy_1]; exact hG.up (fx_50 hX) (by decide)
  have hW : IW (u 1) (u 2) (u 9) (y_1 (a 89)) := by rw [hy_1, up2_o (kd_ne (fx_89 hX) (fx_50 hX) (by decide))]; exact hW
  have hI := hI.put (f := 37) (x := (1 : Int32)) (by decide)
  rw [← hy_1] at hI
  refine lv_iconst (v := 0) hx hb dX12_lost_5 (by decide) ?_
  exact W.iret (v := 0) hx hb hr (fun t ht hW9 => ⟨⟨0, 0, rfl, rfl, ⟨y_1, hG, hI, tw_at ht hT⟩⟩, hS.F ht⟩) hS.2.2 dX12_lost_6
def wo_m_isAway : List Cond := [.fieldLink RX12 167 "TypingPoolModel" "aways" "I", .fieldLink RX12 22 "TypingPoolModel" "awayHand" "[I", .fieldLink RX12 25 "TypingPoolModel" "awayFrom" "[I", .fieldLink RX12 28 "TypingPoolModel" "awayTo" "[I", .methodLink RX12 145 yX12_in, .static yX12_in, .initialized RX12]
def wm_m_isAway : List Cond := .code yX12_isAway cX12_isAway 4 (some .boolean) :: (wo_m_isAway ++ (wsX120 ++ (wm_m_in ++ ([] : List Cond))))
theorem gd_m_isAway : ∀ w ∈ wm_m_isAway, goodWord w = true := gd_c rfl (gd_a (by decide) (gd_a gd_wsX120 (gd_a gd_m_in gd_nil)))
set_option maxRecDepth 20000 in
theorem im_m_isAway : ∀ w ∈ wm_m_isAway, w ∈ lw_tbl := im_c (in_r [.code yX12_isAway cX12_isAway 4 (some .boolean)] [1547] (by decide +kernel)) (in_app (in_r wo_m_isAway [1250, 1247, 1248, 1249, 1420, 1421, 86] (by decide +kernel)) (in_app im_wsX120 (in_app im_m_in im_nil)))
set_option maxHeartbeats 4000000 in
set_option maxRecDepth 100000 in
theorem m_isAway (l : Launch) (dC : Nat → ClassId) (dI : Nat → Nat → Nat) (ad av : Nat → Nat) (sz : Nat) (a : Nat → Nat) (k : Nat → ClassId) (τ ln : Nat → Nat) (y : Nat → Nat → Int32) (g : Nat → Nat → Option Nat) (u : Nat → Int) (p0 : Int32) (p1 : Int32) (hI : IM a u τ y) (hW : IW (u 1) (u 2) (u 9) (y (a 89))) : Met l yX12_isAway wm_m_isAway ({ frames := 1, cells := 0, slots := 0, locals := 60 }) (pw_ ad av (dC, dI) sz [.ref (a 50), .int p0, .int p1] a k τ ln y g) (va_Qi (fun (r u : Int32) => u = r) (fun (r : Int32) (t : State) => (r = 1 ∧ tw (dC, dI) a k τ ln y g t.heap) ∨ (r = 0 ∧ tw (dC, dI) a k τ ln y g t.heap)) (fr τ sz)) 0 0 (fr τ sz) := by
  refine Met.ofW (cc := cX12_isAway) (maxL := 4) (ret := (some .boolean)) (by decide) rfl ?_
  intro p e s m args below meth c s₁ B hml hv
  obtain ⟨rfl, hsz, hT, hK, hM⟩ := hv
  have hx := B.exec
  have hb := B.bytes
  have hr := B.returns
  have hts := atoms_spec (ws := wm_m_isAway) B.pre
  have hown : s.vm.findClass RX12 = some m.cls := findClass_of_methodNamed B.named
  have hlocks := B.notSynchronized
  subst hsz
  generalize hAe : fr τ s.heap.size = A at hM ⊢
  have hA : ∀ q : Nat, s.heap.size ≤ q → A q := fun q h => by rw [← hAe]; exact Or.inr h
  have hF : ∀ q, τ q ≠ 0 → A q := fun q h => by rw [← hAe]; exact Or.inl h
  have hS : va_S A s.heap s.heap [] := va_S.rf
  have hX := hI.1
  have hR := im_r hI
  have hl := lv_entry ([.ref (a 50), .int p0, .int p1]) (n := 4) (Nat.le_of_ble_eq_true rfl)
  rw [lg_entry_eq]
  generalize (lg_sl ([.ref (a 50), .int p0, .int p1]) ++ List.replicate (4 - (lg_sl ([.ref (a 50), .int p0, .int p1])).length) Slot.unset).toArray = ls at hl ⊢
  have hl : lv_has ls 4 [(0, .ref (a 50)), (1, .int p0), (2, .int p1)] := hl
  refine lv_iconst (v := 0) hx hb dX12_isAway_0 (by decide) ?_
  refine lv_istore_n (lv' := [(3, .int 0), (0, .ref (a 50)), (1, .int p0), (2, .int p1)]) hx hb dX12_isAway_1 rfl hl (by decide) rfl (fun ls hl => ?_)
  have loop_2 : ∀ (n : Nat) (i3 : Int32) (H : Heap) (locs : List Loc) (ls : Array Slot), (u 3 - i3.toInt).toNat < n → 0 ≤ i3.toInt → i3.toInt ≤ u 3 → tw (dC, dI) a k τ ln y g H → va_S A s.heap H locs → lv_has ls 4 [(0, .ref (a 50)), (1, .int p0), (2, .int p1), (3, .int i3)] → W p l e (headSpec wm_m_isAway ({ frames := 1, cells := 0, slots := 0, locals := 60 })).room s m ([.ref (a 50), .int p0, .int p1] : List Value).toArray below meth c H locs 0 0 (MQ below (va_Qi (fun (r u : Int32) => u = r) (fun (r : Int32) (t : State) => (r = 1 ∧ tw (dC, dI) a k τ ln y g t.heap) ∨ (r = 0 ∧ tw (dC, dI) a k τ ln y g t.heap)) A) ([.ref (a 50), .int p0, .int p1] : List Value).toArray s 0 0 A) (F0 m 2 ls []) := by
    intro n
    induction n with
    | zero => intro i3 H locs ls hlt; exact absurd hlt (Nat.not_lt_zero _)
    | succ n ih_2 =>
      intro i3 H locs ls hlt hi2_0 hi2_1 hT hS hl
      refine lv_iload_n hx hb dX12_isAway_2 rfl (lv_at hl 3 rfl) ?_
      refine lv_aload_n hx hb dX12_isAway_3 rfl (lv_at hl 0 rfl) ?_
      refine tw_get (D := (dC, dI)) (v := .int (y (a 50) 9)) (C := RX12) (T := TX12) (N := 58) hx hb hts (fun _ hh => (List.mem_cons_of_mem _ (List.mem_append_right _ (List.mem_append_left _ hh)))) hown hK hT (fx_50 hX) (by decide) cl_e60 rfl 9 (by decide) (hts (.fieldLink RX12 167 "TypingPoolModel" "aways" "I") (List.mem_cons_of_mem _ (List.mem_append_left _ (List.mem_of_getElem? (i := 0) rfl)))) (fun _ h9 => h9) rfl dX12_isAway_4 ?_
      have hc_1 := im_3 hI
      refine lv_icmp_ge (tgt := 49) hx hb dX12_isAway_7 (by decide) (fun c_2 => ?_) (fun c_2 => ?_)
      · have nc_2 := z_le hc_1 rfl c_2
        refine lv_iconst (v := 0) hx hb dX12_isAway_49 (by decide) ?_
        exact W.zret (v := 0) hx hb hr (by decide) (fun t ht hW9 => ⟨⟨0, 0, rfl, rfl, Or.inr (⟨rfl, tw_at ht hT⟩)⟩, hS.F ht⟩) hS.2.2 dX12_isAway_50
      · have nc_2 := z_nle hc_1 rfl c_2
        refine lv_aload_n hx hb dX12_isAway_10 rfl (lv_at hl 0 rfl) ?_
        refine tw_get (D := (dC, dI)) (v := .ref (a 57)) (C := RX12) (T := TX12) (N := 58) hx hb hts (fun _ hh => (List.mem_cons_of_mem _ (List.mem_append_right _ (List.mem_append_left _ hh)))) hown hK hT (fx_50 hX) (by decide) cl_e60 rfl 6 (by decide) (hts (.fieldLink RX12 22 "TypingPoolModel" "awayHand" "[I") (List.mem_cons_of_mem _ (List.mem_append_left _ (List.mem_of_getElem? (i := 1) rfl)))) (fun _ h9 => h9) rfl dX12_isAway_11 ?_
        refine lv_iload_n hx hb dX12_isAway_14 rfl (lv_at hl 3 rfl) ?_
        refine tw_iald hx hb hK hT 0 (fx_57 hX) (by decide) cl_e67 rfl (z_in rfl (by omega) (by omega)) dX12_isAway_15 ?_
        refine lv_iload_n hx hb dX12_isAway_16 rfl (lv_at hl 1 rfl) ?_
        refine lv_icmp_ne (tgt := 43) hx hb dX12_isAway_17 (by decide) (fun c_3 => ?_) (fun c_3 => ?_)
        · have nc_3 := z_ne rfl rfl c_3
          obtain ⟨x_4, ex_4⟩ : ∃ y : Int32, y = i3 + Int32.ofInt 1 := ⟨_, rfl⟩
          have hx_4 := z_add ex_4 rfl (zk (x := Int32.ofInt 1) 1 rfl) (by omega) (by omega)
          refine lv_iinc (v := x_4) (lv' := [(3, .int x_4), (0, .ref (a 50)), (1, .int p0), (2, .int p1)]) hx hb dX12_isAway_43 hl (k := 3) rfl ex_4.symm (by decide) rfl (fun ls hl => ?_)
          refine lv_goto (tgt := 2) hx hb dX12_isAway_46 (by decide) ?_
          exact ih_2  x_4 H _ ls (by omega) (by omega) (by omega) hT hS (lv_sub hl [1, 2, 3, 0] rfl)
        · have nc_3 := z_eq rfl rfl c_3
          refine lv_iload_n hx hb dX12_isAway_20 rfl (lv_at hl 2 rfl) ?_
          refine lv_aload_n hx hb dX12_isAway_21 rfl (lv_at hl 0 rfl) ?_
          refine tw_get (D := (dC, dI)) (v := .ref (a 58)) (C := RX12) (T := TX12) (N := 58) hx hb hts (fun _ hh => (List.mem_cons_of_mem _ (List.mem_append_right _ (List.mem_append_left _ hh)))) hown hK hT (fx_50 hX) (by decide) cl_e60 rfl 7 (by decide) (hts (.fieldLink RX12 25 "TypingPoolModel" "awayFrom" "[I") (List.mem_cons_of_mem _ (List.mem_append_left _ (List.mem_of_getElem? (i := 2) rfl)))) (fun _ h9 => h9) rfl dX12_isAway_22 ?_
          refine lv_iload_n hx hb dX12_isAway_25 rfl (lv_at hl 3 rfl) ?_
          refine tw_iald hx hb hK hT 0 (fx_58 hX) (by decide) cl_e68 rfl (z_in rfl (by omega) (by omega)) dX12_isAway_26 ?_
          refine lv_aload_n hx hb dX12_isAway_27 rfl (lv_at hl 0 rfl) ?_
          refine tw_get (D := (dC, dI)) (v := .ref (a 59)) (C := RX12) (T := TX12) (N := 58) hx hb hts (fun _ hh => (List.mem_cons_of_mem _ (List.mem_append_right _ (List.mem_append_left _ hh)))) hown hK hT (fx_50 hX) (by decide) cl_e60 rfl 8 (by decide) (hts (.fieldLink RX12 28 "TypingPoolModel" "awayTo" "[I") (List.mem_cons_of_mem _ (List.mem_append_left _ (List.mem_of_getElem? (i := 3) rfl)))) (fun _ h9 => h9) rfl dX12_isAway_28 ?_
          refine lv_iload_n hx hb dX12_isAway_31 rfl (lv_at hl 3 rfl) ?_
          refine tw_iald hx hb hK hT 0 (fx_59 hX) (by decide) cl_e69 rfl (z_in rfl (by omega) (by omega)) dX12_isAway_32 ?_
          refine lv_iconst (v := 1) hx hb dX12_isAway_33 (by decide) ?_
          refine lv_isub hx hb dX12_isAway_34 ?_
          refine lv_topi (fun x_5 ex_5 => ?_)
          have hFc := tw_free hF hS hA
          refine va_calli (va_runS (As := [.int p1, .int (y (a 58) i3.toNatClampNeg), .int x_5]) (rest := []) ⟨hx, hb, hml, hown, hts⟩ (m_in l dC dI ad av H.size a k τ ln y g u p1 (y (a 58) i3.toNatClampNeg) x_5  ) (va_cwS 3 hts (gi_3 (List.mem_cons_of_mem _ (List.mem_append_left _ (List.mem_of_getElem? (i := 4) rfl))) (List.mem_cons_of_mem _ (List.mem_append_left _ (List.mem_of_getElem? (i := 5) rfl))) (List.mem_cons_of_mem _ (List.mem_append_left _ (List.mem_of_getElem? (i := 6) rfl))) (fun _ hh => (List.mem_cons_of_mem _ (List.mem_append_right _ (List.mem_append_right _ (List.mem_append_left _ hh))))) gd_m_in) rfl rfl rfl (by decide +kernel) ⟨Nat.le_of_ble_eq_true rfl, Nat.le_of_ble_eq_true rfl⟩) ⟨pw_blind, pw_use hT hK hFc hS hM⟩ rfl rfl hl.1 rfl (lv_room (Nat.le_of_ble_eq_true rfl)) dX12_isAway_35 ⟨Nat.le_of_ble_eq_true rfl, Nat.le_of_ble_eq_true rfl⟩) hS (fun q _ h => hFc q h) hFc (fun r0 r_6 t H locs ht hvm hw hB hz1 hk1 hS => ?_)
          refine W.widen (k := 0) (n := 0) (Nat.le_of_ble_eq_true rfl) (Nat.le_of_ble_eq_true rfl) ?_
          clear hvm hz1 hk1
          subst hw
          rcases hB with ⟨hre, hf_7, hf_8, hT⟩ | ⟨hre, hf_9, hT⟩
          · refine lq_top (v := 1) hre ?_
            rw [ht] at hT
            refine lv_if_eq (tgt := 43) hx hb dX12_isAway_38 (by decide) (fun c_10 => absurd c_10 (by decide)) (fun c_10 => ?_)
            refine lv_iconst (v := 1) hx hb dX12_isAway_41 (by decide) ?_
            exact W.zret (v := 1) hx hb hr (by decide) (fun t ht hW9 => ⟨⟨1, 1, rfl, rfl, Or.inl ⟨rfl, tw_at ht hT⟩⟩, hS.F ht⟩) hS.2.2 dX12_isAway_42
          · refine lq_top (v := 0) hre ?_
            rw [ht] at hT
            refine lv_if_eq (tgt := 43) hx hb dX12_isAway_38 (by decide) (fun c_11 => ?_) (fun c_11 => absurd c_11 (by decide))
            obtain ⟨x_12, ex_12⟩ : ∃ y : Int32, y = i3 + Int32.ofInt 1 := ⟨_, rfl⟩
            have hx_12 := z_add ex_12 rfl (zk (x := Int32.ofInt 1) 1 rfl) (by omega) (by omega)
            refine lv_iinc (v := x_12) (lv' := [(3, .int x_12), (0, .ref (a 50)), (1, .int p0), (2, .int p1)]) hx hb dX12_isAway_43 hl (k := 3) rfl ex_12.symm (by decide) rfl (fun ls hl => ?_)
            refine lv_goto (tgt := 2) hx hb dX12_isAway_46 (by decide) ?_
            exact ih_2  x_12 H _ ls (by omega) (by omega) (by omega) hT hS (lv_sub hl [1, 2, 3, 0] rfl)
  have hp_13 : (0 : Int32).toInt = 0 := (zk (x := 0) 0 rfl)
  exact loop_2 _ (0 : Int32) s.heap _ ls (Nat.lt_succ_self _) (by omega) (by omega) hT hS (lv_sub hl [1, 2, 3, 0] rfl)
def wo_m_work : List Cond := [.fieldLink RX12 37 "TypingPoolModel" "lines" "[I", .fieldLink RX12 55 "TypingPoolModel" "copies" "[I"]
def wm_m_work : List Cond := .code yX12_work cX12_work 2 (some .int) :: (wo_m_work ++ (wsX120 ++ ([] : List Cond)))
theorem gd_m_work : ∀ w ∈ wm_m_work, goodWord w = true := gd_c rfl (gd_a (by decide) (gd_a gd_wsX120 gd_nil))
set_option maxRecDepth 20000 in
theorem im_m_work : ∀ w ∈ wm_m_work, w ∈ lw_tbl := im_c (in_r [.code yX12_work cX12_work 2 (some .int)] [1455] (by decide +kernel)) (in_app (in_r wo_m_work [1253, 1259] (by decide +kernel)) (in_app im_wsX120 im_nil))
set_option maxHeartbeats 4000000 in
set_option maxRecDepth 100000 in
theorem m_work (l : Launch) (dC : Nat → ClassId) (dI : Nat → Nat → Nat) (ad av : Nat → Nat) (sz : Nat) (a : Nat → Nat) (k : Nat → ClassId) (τ ln : Nat → Nat) (y : Nat → Nat → Int32) (g : Nat → Nat → Option Nat) (u : Nat → Int) (p0 : Int32) (hI : IM a u τ y) (hlp0 : 0 ≤ p0.toInt) (hup0 : p0.toInt < 30) (hli : 1 ≤ (y (a 63) p0.toNatClampNeg).toInt ∧ (y (a 63) p0.toNatClampNeg).toInt ≤ 400) (hco : 0 ≤ (y (a 69) p0.toNatClampNeg).toInt ∧ (y (a 69) p0.toNatClampNeg).toInt ≤ 6) (hW : IW (u 1) (u 2) (u 9) (y (a 89))) : Met l yX12_work wm_m_work ({ frames := 0, cells := 0, slots := 0, locals := 0 }) (pw_ ad av (dC, dI) sz [.ref (a 50), .int p0] a k τ ln y g) (va_Qi (fun (r u : Int32) => u = r) (fun (r : Int32) (t : State) => (60 ≤ r.toInt ∧ r.toInt ≤ 28800 ∧ tw (dC, dI) a k τ ln y g t.heap)) (fr τ sz)) 0 0 (fr τ sz) := by
  refine Met.ofW (cc := cX12_work) (maxL := 2) (ret := (some .int)) (by decide) rfl ?_
  intro p e s m args below meth c s₁ B hml hv
  obtain ⟨rfl, hsz, hT, hK, hM⟩ := hv
  have hx := B.exec
  have hb := B.bytes
  have hr := B.returns
  have hts := atoms_spec (ws := wm_m_work) B.pre
  have hown : s.vm.findClass RX12 = some m.cls := findClass_of_methodNamed B.named
  have hlocks := B.notSynchronized
  subst hsz
  generalize hAe : fr τ s.heap.size = A at hM ⊢
  have hA : ∀ q : Nat, s.heap.size ≤ q → A q := fun q h => by rw [← hAe]; exact Or.inr h
  have hF : ∀ q, τ q ≠ 0 → A q := fun q h => by rw [← hAe]; exact Or.inl h
  have hS : va_S A s.heap s.heap [] := va_S.rf
  have hX := hI.1
  have hR := im_r hI
  have hl := lv_entry ([.ref (a 50), .int p0]) (n := 2) (Nat.le_of_ble_eq_true rfl)
  rw [lg_entry_eq]
  generalize (lg_sl ([.ref (a 50), .int p0]) ++ List.replicate (2 - (lg_sl ([.ref (a 50), .int p0])).length) Slot.unset).toArray = ls at hl ⊢
  have hl : lv_has ls 2 [(0, .ref (a 50)), (1, .int p0)] := hl
  refine lv_bipush (v := 60) hx hb dX12_work_0 (by decide) ?_
  refine lv_aload_n hx hb dX12_work_2 rfl (lv_at hl 0 rfl) ?_
  refine tw_get (D := (dC, dI)) (v := .ref (a 63)) (C := RX12) (T := TX12) (N := 58) hx hb hts (fun _ hh => (List.mem_cons_of_mem _ (List.mem_append_right _ (List.mem_append_left _ hh)))) hown hK hT (fx_50 hX) (by decide) cl_e60 rfl 12 (by decide) (hts (.fieldLink RX12 37 "TypingPoolModel" "lines" "[I") (List.mem_cons_of_mem _ (List.mem_append_left _ (List.mem_of_getElem? (i := 0) rfl)))) (fun _ h9 => h9) rfl dX12_work_3 ?_
  refine lv_iload_n hx hb dX12_work_6 rfl (lv_at hl 1 rfl) ?_
  refine tw_iald hx hb hK hT 0 (fx_63 hX) (by decide) cl_e73 rfl (z_in rfl (by omega) (by omega)) dX12_work_7 ?_
  refine lv_imul hx hb dX12_work_8 ?_
  refine lv_topi (fun x_1 ex_1 => ?_)
  have hx_1 := z_mul ex_1 (zk (x := 60) 60 rfl) rfl (by omega) (by omega)
  refine lv_iconst (v := 2) hx hb dX12_work_9 (by decide) ?_
  refine lv_aload_n hx hb dX12_work_10 rfl (lv_at hl 0 rfl) ?_
  refine tw_get (D := (dC, dI)) (v := .ref (a 63)) (C := RX12) (T := TX12) (N := 58) hx hb hts (fun _ hh => (List.mem_cons_of_mem _ (List.mem_append_right _ (List.mem_append_left _ hh)))) hown hK hT (fx_50 hX) (by decide) cl_e60 rfl 12 (by decide) (hts (.fieldLink RX12 37 "TypingPoolModel" "lines" "[I") (List.mem_cons_of_mem _ (List.mem_append_left _ (List.mem_of_getElem? (i := 0) rfl)))) (fun _ h9 => h9) rfl dX12_work_11 ?_
  refine lv_iload_n hx hb dX12_work_14 rfl (lv_at hl 1 rfl) ?_
  refine tw_iald hx hb hK hT 0 (fx_63 hX) (by decide) cl_e73 rfl (z_in rfl (by omega) (by omega)) dX12_work_15 ?_
  refine lv_imul hx hb dX12_work_16 ?_
  refine lv_topi (fun x_2 ex_2 => ?_)
  have hx_2 := z_mul ex_2 (zk (x := 2) 2 rfl) rfl (by omega) (by omega)
  refine lv_aload_n hx hb dX12_work_17 rfl (lv_at hl 0 rfl) ?_
  refine tw_get (D := (dC, dI)) (v := .ref (a 69)) (C := RX12) (T := TX12) (N := 58) hx hb hts (fun _ hh => (List.mem_cons_of_mem _ (List.mem_append_right _ (List.mem_append_left _ hh)))) hown hK hT (fx_50 hX) (by decide) cl_e60 rfl 18 (by decide) (hts (.fieldLink RX12 55 "TypingPoolModel" "copies" "[I") (List.mem_cons_of_mem _ (List.mem_append_left _ (List.mem_of_getElem? (i := 1) rfl)))) (fun _ h9 => h9) rfl dX12_work_18 ?_
  refine lv_iload_n hx hb dX12_work_21 rfl (lv_at hl 1 rfl) ?_
  refine tw_iald hx hb hK hT 0 (fx_69 hX) (by decide) cl_e79 rfl (z_in rfl (by omega) (by omega)) dX12_work_22 ?_
  refine lv_imul hx hb dX12_work_23 ?_
  refine lv_topi (fun x_3 ex_3 => ?_)
  have hx_3 := z_mulb 800 6 ex_3 rfl rfl (by omega) (by omega) (by omega) (by omega) (by decide)
  refine lv_iadd hx hb dX12_work_24 ?_
  refine lv_topi (fun x_4 ex_4 => ?_)
  have hx_4 := z_add ex_4 rfl rfl (by omega) (by omega)
  have hrv : x_4.toInt = x_4.toInt := rfl
  exact W.iret (v := x_4) hx hb hr (fun t ht hW9 => ⟨⟨x_4, x_4, rfl, rfl, ⟨by omega, by omega, tw_at ht hT⟩⟩, hS.F ht⟩) hS.2.2 dX12_work_25
def wo_m_fine : List Cond := [.fieldLink RX12 200 "TypingPoolModel" "wrong" "I"]
def wm_m_fine : List Cond := .code yX12_fine cX12_fine 1 (some .boolean) :: (wo_m_fine ++ (wsX120 ++ ([] : List Cond)))
theorem gd_m_fine : ∀ w ∈ wm_m_fine, goodWord w = true := gd_c rfl (gd_a (by decide) (gd_a gd_wsX120 gd_nil))
set_option maxRecDepth 20000 in
theorem im_m_fine : ∀ w ∈ wm_m_fine, w ∈ lw_tbl := im_c (in_r [.code yX12_fine cX12_fine 1 (some .boolean)] [1518] (by decide +kernel)) (in_app (in_r wo_m_fine [1287] (by decide +kernel)) (in_app im_wsX120 im_nil))
set_option maxHeartbeats 4000000 in
set_option maxRecDepth 100000 in
theorem m_fine (l : Launch) (dC : Nat → ClassId) (dI : Nat → Nat → Nat) (ad av : Nat → Nat) (sz : Nat) (a : Nat → Nat) (k : Nat → ClassId) (τ ln : Nat → Nat) (y : Nat → Nat → Int32) (g : Nat → Nat → Option Nat) (u : Nat → Int) (hI : IM a u τ y) (hW : IW (u 1) (u 2) (u 9) (y (a 89))) : Met l yX12_fine wm_m_fine ({ frames := 0, cells := 0, slots := 0, locals := 0 }) (pw_ ad av (dC, dI) sz [.ref (a 50)] a k τ ln y g) (va_Qi (fun (r u : Int32) => u = r) (fun (r : Int32) (t : State) => (r = 1 ∧ tw (dC, dI) a k τ ln y g t.heap) ∨ (r = 0 ∧ tw (dC, dI) a k τ ln y g t.heap)) (fr τ sz)) 0 0 (fr τ sz) := by
  refine Met.ofW (cc := cX12_fine) (maxL := 1) (ret := (some .boolean)) (by decide) rfl ?_
  intro p e s m args below meth c s₁ B hml hv
  obtain ⟨rfl, hsz, hT, hK, hM⟩ := hv
  have hx := B.exec
  have hb := B.bytes
  have hr := B.returns
  have hts := atoms_spec (ws := wm_m_fine) B.pre
  have hown : s.vm.findClass RX12 = some m.cls := findClass_of_methodNamed B.named
  have hlocks := B.notSynchronized
  subst hsz
  generalize hAe : fr τ s.heap.size = A at hM ⊢
  have hA : ∀ q : Nat, s.heap.size ≤ q → A q := fun q h => by rw [← hAe]; exact Or.inr h
  have hF : ∀ q, τ q ≠ 0 → A q := fun q h => by rw [← hAe]; exact Or.inl h
  have hS : va_S A s.heap s.heap [] := va_S.rf
  have hX := hI.1
  have hR := im_r hI
  have hl := lv_entry ([.ref (a 50)]) (n := 1) (Nat.le_of_ble_eq_true rfl)
  rw [lg_entry_eq]
  generalize (lg_sl ([.ref (a 50)]) ++ List.replicate (1 - (lg_sl ([.ref (a 50)])).length) Slot.unset).toArray = ls at hl ⊢
  have hl : lv_has ls 1 [(0, .ref (a 50))] := hl
  refine lv_aload_n hx hb dX12_fine_0 rfl (lv_at hl 0 rfl) ?_
  refine tw_get (D := (dC, dI)) (v := .int (y (a 50) 46)) (C := RX12) (T := TX12) (N := 58) hx hb hts (fun _ hh => (List.mem_cons_of_mem _ (List.mem_append_right _ (List.mem_append_left _ hh)))) hown hK hT (fx_50 hX) (by decide) cl_e60 rfl 46 (by decide) (hts (.fieldLink RX12 200 "TypingPoolModel" "wrong" "I") (List.mem_cons_of_mem _ (List.mem_append_left _ (List.mem_of_getElem? (i := 0) rfl)))) (fun _ h9 => h9) rfl dX12_fine_1 ?_
  refine lv_iconst (v := (-1)) hx hb dX12_fine_4 (by decide) ?_
  refine lv_icmp_ne (tgt := 12) hx hb dX12_fine_5 (by decide) (fun c_1 => ?_) (fun c_1 => ?_)
  · have nc_1 := z_ne rfl (zk (x := (-1)) (-1) rfl) c_1
    refine lv_iconst (v := 0) hx hb dX12_fine_12 (by decide) ?_
    exact W.zret (v := 0) hx hb hr (by decide) (fun t ht hW9 => ⟨⟨0, 0, rfl, rfl, Or.inr (⟨rfl, tw_at ht hT⟩)⟩, hS.F ht⟩) hS.2.2 dX12_fine_13
  · have nc_1 := z_eq rfl (zk (x := (-1)) (-1) rfl) c_1
    refine lv_iconst (v := 1) hx hb dX12_fine_8 (by decide) ?_
    refine lv_goto (tgt := 13) hx hb dX12_fine_9 (by decide) ?_
    exact W.zret (v := 1) hx hb hr (by decide) (fun t ht hW9 => ⟨⟨1, 1, rfl, rfl, Or.inl ⟨rfl, tw_at ht hT⟩⟩, hS.F ht⟩) hS.2.2 dX12_fine_13
/-- the fields of the reference behind the parser's own stay as they were -/
def pk (a : Nat → Nat) (y y' : Nat → Nat → Int32) : Prop := ∀ f : Nat, 47 < f → y' (a 50) f = y (a 50) f
theorem pk_rf {a : Nat → Nat} {y : Nat → Nat → Int32} : pk a y y := fun _ _ => rfl
theorem pk.up {a : Nat → Nat} {y y1 : Nat → Nat → Int32} {i : Nat} {x : Int32} (h : pk a y y1) (hi : i ≤ 47) : pk a y (up2 y1 (a 50) i x) := fun f hf => by
  rw [up2_e (by omega)]; exact h f hf
theorem pk.o {a : Nat → Nat} {y y1 : Nat → Nat → Int32} {q i : Nat} {x : Int32} (h : pk a y y1) (hq : a 50 ≠ q) : pk a y (up2 y1 q i x) := fun f hf => by
  rw [up2_o hq]; exact h f hf
theorem pk.at {a : Nat → Nat} {y y1 y2 : Nat → Nat → Int32} (h : pk a y y1) (hq : y2 (a 50) = y1 (a 50)) : pk a y y2 := fun f hf => by
  rw [hq]; exact h f hf
theorem pk.tr {a : Nat → Nat} {y y1 y2 : Nat → Nat → Int32} (h : pk a y y1) (h2 : pk a y1 y2) : pk a y y2 := fun f hf => (h2 f hf).trans (h f hf)

def wo_m_isWrong : List Cond := [.fieldLink RX12 200 "TypingPoolModel" "wrong" "I", .fieldLink RX12 197 "TypingPoolModel" "at" "I"]
def wm_m_isWrong : List Cond := .code yX12_isWrong cX12_isWrong 1 (some .int) :: (wo_m_isWrong ++ (wsX120 ++ ([] : List Cond)))
theorem gd_m_isWrong : ∀ w ∈ wm_m_isWrong, goodWord w = true := gd_c rfl (gd_a (by decide) (gd_a gd_wsX120 gd_nil))
set_option maxRecDepth 20000 in
theorem im_m_isWrong : ∀ w ∈ wm_m_isWrong, w ∈ lw_tbl := im_c (in_r [.code yX12_isWrong cX12_isWrong 1 (some .int)] [1514] (by decide +kernel)) (in_app (in_r wo_m_isWrong [1287, 1286] (by decide +kernel)) (in_app im_wsX120 im_nil))
set_option maxHeartbeats 4000000 in
set_option maxRecDepth 100000 in
theorem m_isWrong (l : Launch) (dC : Nat → ClassId) (dI : Nat → Nat → Nat) (ad av : Nat → Nat) (sz : Nat) (a : Nat → Nat) (k : Nat → ClassId) (τ ln : Nat → Nat) (y : Nat → Nat → Int32) (g : Nat → Nat → Option Nat) (u : Nat → Int) (hI : IM a u τ y) (hW : IW (u 1) (u 2) (u 9) (y (a 89))) : Met l yX12_isWrong wm_m_isWrong ({ frames := 0, cells := 0, slots := 0, locals := 0 }) (pw_ ad av (dC, dI) sz [.ref (a 50)] a k τ ln y g) (va_Qi (fun (r u : Int32) => u = r) (fun (r : Int32) (t : State) => (∃ (y' : Nat → Nat → Int32), ag τ [60] y y' ∧ IM a u τ y' ∧ (y' (a 50) 43).toInt = (y (a 50) 43).toInt ∧ (y' (a 50) 44).toInt = (y (a 50) 44).toInt ∧ (y' (a 50) 45).toInt = (y (a 50) 45).toInt ∧ pk a y y' ∧ tw (dC, dI) a k τ ln y' g t.heap)) (fr τ sz)) 0 0 (fr τ sz) := by
  refine Met.ofW (cc := cX12_isWrong) (maxL := 1) (ret := (some .int)) (by decide) rfl ?_
  intro p e s m args below meth c s₁ B hml hv
  obtain ⟨rfl, hsz, hT, hK, hM⟩ := hv
  have hx := B.exec
  have hb := B.bytes
  have hr := B.returns
  have hts := atoms_spec (ws := wm_m_isWrong) B.pre
  have hown : s.vm.findClass RX12 = some m.cls := findClass_of_methodNamed B.named
  have hlocks := B.notSynchronized
  subst hsz
  generalize hAe : fr τ s.heap.size = A at hM ⊢
  have hA : ∀ q : Nat, s.heap.size ≤ q → A q := fun q h => by rw [← hAe]; exact Or.inr h
  have hF : ∀ q, τ q ≠ 0 → A q := fun q h => by rw [← hAe]; exact Or.inl h
  have hS : va_S A s.heap s.heap [] := va_S.rf
  have hX := hI.1
  have hR := im_r hI
  have hG : ag τ [60] y y := ag.rf
  have hl := lv_entry ([.ref (a 50)]) (n := 1) (Nat.le_of_ble_eq_true rfl)
  rw [lg_entry_eq]
  generalize (lg_sl ([.ref (a 50)]) ++ List.replicate (1 - (lg_sl ([.ref (a 50)])).length) Slot.unset).toArray = ls at hl ⊢
  have hl : lv_has ls 1 [(0, .ref (a 50))] := hl
  have hPK : pk a y y := pk_rf
  refine lv_aload_n hx hb dX12_isWrong_0 rfl (lv_at hl 0 rfl) ?_
  refine tw_get (D := (dC, dI)) (v := .int (y (a 50) 46)) (C := RX12) (T := TX12) (N := 58) hx hb hts (fun _ hh => (List.mem_cons_of_mem _ (List.mem_append_right _ (List.mem_append_left _ hh)))) hown hK hT (fx_50 hX) (by decide) cl_e60 rfl 46 (by decide) (hts (.fieldLink RX12 200 "TypingPoolModel" "wrong" "I") (List.mem_cons_of_mem _ (List.mem_append_left _ (List.mem_of_getElem? (i := 0) rfl)))) (fun _ h9 => h9) rfl dX12_isWrong_1 ?_
  refine lv_iconst (v := (-1)) hx hb dX12_isWrong_4 (by decide) ?_
  refine lv_icmp_ne (tgt := 16) hx hb dX12_isWrong_5 (by decide) (fun c_1 => ?_) (fun c_1 => ?_)
  · have nc_1 := z_ne rfl (zk (x := (-1)) (-1) rfl) c_1
    refine lv_iconst (v := 0) hx hb dX12_isWrong_16 (by decide) ?_
    have hrv : (0 : Int32).toInt = 0 := (zk (x := 0) 0 rfl)
    exact W.iret (v := 0) hx hb hr (fun t ht hW9 => ⟨⟨0, 0, rfl, rfl, ⟨y, hG, hI, by omega, by omega, by omega, hPK, tw_at ht hT⟩⟩, hS.F ht⟩) hS.2.2 dX12_isWrong_17
  · have nc_1 := z_eq rfl (zk (x := (-1)) (-1) rfl) c_1
    refine lv_aload_n hx hb dX12_isWrong_8 rfl (lv_at hl 0 rfl) ?_
    refine lv_aload_n hx hb dX12_isWrong_9 rfl (lv_at hl 0 rfl) ?_
    refine tw_get (D := (dC, dI)) (v := .int (y (a 50) 45)) (C := RX12) (T := TX12) (N := 58) hx hb hts (fun _ hh => (List.mem_cons_of_mem _ (List.mem_append_right _ (List.mem_append_left _ hh)))) hown hK hT (fx_50 hX) (by decide) cl_e60 rfl 45 (by decide) (hts (.fieldLink RX12 197 "TypingPoolModel" "at" "I") (List.mem_cons_of_mem _ (List.mem_append_left _ (List.mem_of_getElem? (i := 1) rfl)))) (fun _ h9 => h9) rfl dX12_isWrong_10 ?_
    refine tw_put (D := (dC, dI)) (x := y (a 50) 45) (ty := .int) (C := RX12) (T := TX12) (N := 58) hx hb hts (fun _ hh => (List.mem_cons_of_mem _ (List.mem_append_right _ (List.mem_append_left _ hh)))) tyX12 tyX12_ok nmX12 hown hK hT hF hS (fx_50 hX) (by decide) cl_e60 rfl 46 (by decide) (hts (.fieldLink RX12 200 "TypingPoolModel" "wrong" "I") (List.mem_cons_of_mem _ (List.mem_append_left _ (List.mem_of_getElem? (i := 0) rfl)))) (fun _ h9 => h9) rfl (tyX12_ok 46 (by decide)) rfl rfl (Nat.le_of_ble_eq_true rfl) rfl dX12_isWrong_13 (fun H locs hT hS => ?_)
    obtain ⟨y_2, hy_2, hT⟩ : ∃ z : Nat → Nat → Int32, z = up2 y (a 50) 46 (y (a 50) 45) ∧ tw (dC, dI) a k τ ln z g H := ⟨_, rfl, hT⟩
    have hG : ag τ [60] y y_2 := by rw [hy_2]; exact hG.up (fx_50 hX) (by decide)
    have : (y_2 (a 50) 43).toInt = (y (a 50) 43).toInt := by rw [hy_2, up2_e (by decide)]
    have : (y_2 (a 50) 44).toInt = (y (a 50) 44).toInt := by rw [hy_2, up2_e (by decide)]
    have : (y_2 (a 50) 45).toInt = (y (a 50) 45).toInt := by rw [hy_2, up2_e (by decide)]
    have hPK : pk a y y_2 := by rw [hy_2]; exact hPK.up (by decide)
    have hW : IW (u 1) (u 2) (u 9) (y_2 (a 89)) := by rw [hy_2, up2_o (kd_ne (fx_89 hX) (fx_50 hX) (by decide))]; exact hW
    have hI := hI.put (f := 46) (x := (y (a 50) 45)) (by decide)
    rw [← hy_2] at hI
    refine lv_iconst (v := 0) hx hb dX12_isWrong_16 (by decide) ?_
    have hrv : (0 : Int32).toInt = 0 := (zk (x := 0) 0 rfl)
    exact W.iret (v := 0) hx hb hr (fun t ht hW9 => ⟨⟨0, 0, rfl, rfl, ⟨y_2, hG, hI, by omega, by omega, by omega, hPK, tw_at ht hT⟩⟩, hS.F ht⟩) hS.2.2 dX12_isWrong_17
def wo_m_here : List Cond := [.fieldLink RX12 197 "TypingPoolModel" "at" "I", .fieldLink RX12 194 "TypingPoolModel" "size" "I", .fieldLink RX12 188 "TypingPoolModel" "signs" "[B", .fieldLink RX12 191 "TypingPoolModel" "begin" "I"]
def wm_m_here : List Cond := .code yX12_here cX12_here 1 (some .int) :: (wo_m_here ++ (wsX120 ++ ([] : List Cond)))
theorem gd_m_here : ∀ w ∈ wm_m_here, goodWord w = true := gd_c rfl (gd_a (by decide) (gd_a gd_wsX120 gd_nil))
set_option maxRecDepth 20000 in
theorem im_m_here : ∀ w ∈ wm_m_here, w ∈ lw_tbl := im_c (in_r [.code yX12_here cX12_here 1 (some .int)] [1510] (by decide +kernel)) (in_app (in_r wo_m_here [1286, 1285, 1283, 1284] (by decide +kernel)) (in_app im_wsX120 im_nil))
set_option maxHeartbeats 4000000 in
set_option maxRecDepth 100000 in
theorem m_here (l : Launch) (dC : Nat → ClassId) (dI : Nat → Nat → Nat) (ad av : Nat → Nat) (sz : Nat) (a : Nat → Nat) (k : Nat → ClassId) (τ ln : Nat → Nat) (y : Nat → Nat → Int32) (g : Nat → Nat → Option Nat) (u : Nat → Int) (sq : Nat) (nS : Nat) (i : Nat) (hI : IM a u τ y) (hs0 : τ sq ≠ 0) (hcl : ∀ (f : Nat → Int32) (v : Nat → Option Nat), cl_ a k (ln sq) f v (τ sq) = .inl (k 2, nS, .inl f)) (hsg : g (a 50) 42 = some sq) (hltr : g (a 50) 47 = some (ad i)) (hi_i : i < 13) (hsl : (sL i : Int) ≤ 8) (hbg : 0 ≤ (y (a 50) 43).toInt ∧ (y (a 50) 43).toInt ≤ 1200) (hsz : (y (a 50) 44).toInt ≤ 100) (hft : (y (a 50) 43).toInt + 60 ≤ nS ∨ (y (a 50) 43).toInt + (y (a 50) 44).toInt ≤ nS) (hat : 0 ≤ (y (a 50) 45).toInt ∧ (y (a 50) 45).toInt ≤ 60) (hW : IW (u 1) (u 2) (u 9) (y (a 89))) : Met l yX12_here wm_m_here ({ frames := 0, cells := 0, slots := 0, locals := 0 }) (pw_ ad av (dC, dI) sz [.ref (a 50)] a k τ ln y g) (va_Qi (fun (r u : Int32) => u = r) (fun (r : Int32) (t : State) => (r = (-1) ∧ tw (dC, dI) a k τ ln y g t.heap) ∨ ((y (a 50) 45).toInt < (y (a 50) 44).toInt ∧ (y (a 50) 45).toInt < 60 ∧ (0 ≤ r.toInt ∧ r.toInt ≤ 255) ∧ tw (dC, dI) a k τ ln y g t.heap)) (fr τ sz)) 0 0 (fr τ sz) := by
  refine Met.ofW (cc := cX12_here) (maxL := 1) (ret := (some .int)) (by decide) rfl ?_
  intro p e s m args below meth c s₁ B hml hv
  obtain ⟨rfl, hsz, hT, hK, hM⟩ := hv
  have hx := B.exec
  have hb := B.bytes
  have hr := B.returns
  have hts := atoms_spec (ws := wm_m_here) B.pre
  have hown : s.vm.findClass RX12 = some m.cls := findClass_of_methodNamed B.named
  have hlocks := B.notSynchronized
  subst hsz
  generalize hAe : fr τ s.heap.size = A at hM ⊢
  have hA : ∀ q : Nat, s.heap.size ≤ q → A q := fun q h => by rw [← hAe]; exact Or.inr h
  have hF : ∀ q, τ q ≠ 0 → A q := fun q h => by rw [← hAe]; exact Or.inl h
  have hS : va_S A s.heap s.heap [] := va_S.rf
  have hX := hI.1
  have hR := im_r hI
  have hl := lv_entry ([.ref (a 50)]) (n := 1) (Nat.le_of_ble_eq_true rfl)
  rw [lg_entry_eq]
  generalize (lg_sl ([.ref (a 50)]) ++ List.replicate (1 - (lg_sl ([.ref (a 50)])).length) Slot.unset).toArray = ls at hl ⊢
  have hl : lv_has ls 1 [(0, .ref (a 50))] := hl
  refine lv_aload_n hx hb dX12_here_0 rfl (lv_at hl 0 rfl) ?_
  refine tw_get (D := (dC, dI)) (v := .int (y (a 50) 45)) (C := RX12) (T := TX12) (N := 58) hx hb hts (fun _ hh => (List.mem_cons_of_mem _ (List.mem_append_right _ (List.mem_append_left _ hh)))) hown hK hT (fx_50 hX) (by decide) cl_e60 rfl 45 (by decide) (hts (.fieldLink RX12 197 "TypingPoolModel" "at" "I") (List.mem_cons_of_mem _ (List.mem_append_left _ (List.mem_of_getElem? (i := 0) rfl)))) (fun _ h9 => h9) rfl dX12_here_1 ?_
  refine lv_aload_n hx hb dX12_here_4 rfl (lv_at hl 0 rfl) ?_
  refine tw_get (D := (dC, dI)) (v := .int (y (a 50) 44)) (C := RX12) (T := TX12) (N := 58) hx hb hts (fun _ hh => (List.mem_cons_of_mem _ (List.mem_append_right _ (List.mem_append_left _ hh)))) hown hK hT (fx_50 hX) (by decide) cl_e60 rfl 44 (by decide) (hts (.fieldLink RX12 194 "TypingPoolModel" "size" "I") (List.mem_cons_of_mem _ (List.mem_append_left _ (List.mem_of_getElem? (i := 1) rfl)))) (fun _ h9 => h9) rfl dX12_here_5 ?_
  refine lv_icmp_ge (tgt := 41) hx hb dX12_here_8 (by decide) (fun c_1 => ?_) (fun c_1 => ?_)
  · have nc_1 := z_le rfl rfl c_1
    refine lv_iconst (v := (-1)) hx hb dX12_here_41 (by decide) ?_
    exact W.iret (v := (-1)) hx hb hr (fun t ht hW9 => ⟨⟨(-1), (-1), rfl, rfl, Or.inl ⟨rfl, tw_at ht hT⟩⟩, hS.F ht⟩) hS.2.2 dX12_here_42
  · have nc_1 := z_nle rfl rfl c_1
    refine lv_aload_n hx hb dX12_here_11 rfl (lv_at hl 0 rfl) ?_
    refine tw_get (D := (dC, dI)) (v := .int (y (a 50) 45)) (C := RX12) (T := TX12) (N := 58) hx hb hts (fun _ hh => (List.mem_cons_of_mem _ (List.mem_append_right _ (List.mem_append_left _ hh)))) hown hK hT (fx_50 hX) (by decide) cl_e60 rfl 45 (by decide) (hts (.fieldLink RX12 197 "TypingPoolModel" "at" "I") (List.mem_cons_of_mem _ (List.mem_append_left _ (List.mem_of_getElem? (i := 0) rfl)))) (fun _ h9 => h9) rfl dX12_here_12 ?_
    refine lv_bipush (v := 60) hx hb dX12_here_15 (by decide) ?_
    refine lv_icmp_ge (tgt := 41) hx hb dX12_here_17 (by decide) (fun c_2 => ?_) (fun c_2 => ?_)
    · have nc_2 := z_le (zk (x := 60) 60 rfl) rfl c_2
      refine lv_iconst (v := (-1)) hx hb dX12_here_41 (by decide) ?_
      exact W.iret (v := (-1)) hx hb hr (fun t ht hW9 => ⟨⟨(-1), (-1), rfl, rfl, Or.inl ⟨rfl, tw_at ht hT⟩⟩, hS.F ht⟩) hS.2.2 dX12_here_42
    · have nc_2 := z_nle (zk (x := 60) 60 rfl) rfl c_2
      refine lv_aload_n hx hb dX12_here_20 rfl (lv_at hl 0 rfl) ?_
      refine tw_get (D := (dC, dI)) (v := va_rf (g (a 50) 42)) (C := RX12) (T := TX12) (N := 58) hx hb hts (fun _ hh => (List.mem_cons_of_mem _ (List.mem_append_right _ (List.mem_append_left _ hh)))) hown hK hT (fx_50 hX) (by decide) cl_e60 rfl 42 (by decide) (hts (.fieldLink RX12 188 "TypingPoolModel" "signs" "[B") (List.mem_cons_of_mem _ (List.mem_append_left _ (List.mem_of_getElem? (i := 2) rfl)))) (fun _ h9 => h9) rfl dX12_here_21 ?_
      refine lq_topr hsg ?_
      refine lv_aload_n hx hb dX12_here_24 rfl (lv_at hl 0 rfl) ?_
      refine tw_get (D := (dC, dI)) (v := .int (y (a 50) 43)) (C := RX12) (T := TX12) (N := 58) hx hb hts (fun _ hh => (List.mem_cons_of_mem _ (List.mem_append_right _ (List.mem_append_left _ hh)))) hown hK hT (fx_50 hX) (by decide) cl_e60 rfl 43 (by decide) (hts (.fieldLink RX12 191 "TypingPoolModel" "begin" "I") (List.mem_cons_of_mem _ (List.mem_append_left _ (List.mem_of_getElem? (i := 3) rfl)))) (fun _ h9 => h9) rfl dX12_here_25 ?_
      refine lv_aload_n hx hb dX12_here_28 rfl (lv_at hl 0 rfl) ?_
      refine tw_get (D := (dC, dI)) (v := .int (y (a 50) 45)) (C := RX12) (T := TX12) (N := 58) hx hb hts (fun _ hh => (List.mem_cons_of_mem _ (List.mem_append_right _ (List.mem_append_left _ hh)))) hown hK hT (fx_50 hX) (by decide) cl_e60 rfl 45 (by decide) (hts (.fieldLink RX12 197 "TypingPoolModel" "at" "I") (List.mem_cons_of_mem _ (List.mem_append_left _ (List.mem_of_getElem? (i := 0) rfl)))) (fun _ h9 => h9) rfl dX12_here_29 ?_
      refine lv_iadd hx hb dX12_here_32 ?_
      refine lv_topi (fun x_3 ex_3 => ?_)
      have hx_3 := z_add ex_3 rfl rfl (by omega) (by omega)
      refine tw_bald hx hb hK hT 2 (rfl : τ sq = τ sq) hs0 (hcl _ _) rfl (z_in rfl (by omega) (by omega)) dX12_here_33 ?_
      refine lv_sipush (v := 255) hx hb dX12_here_34 (by decide) ?_
      refine lv_iand hx hb dX12_here_37 ?_
      refine lv_topi (fun x_4 ex_4 => ?_)
      have hx_4 := z_and (x := y sq x_3.toNatClampNeg) (zk (x := 255) 255 rfl) (by omega)
      rw [← ex_4] at hx_4
      refine lv_goto (tgt := 42) hx hb dX12_here_38 (by decide) ?_
      have hrv : x_4.toInt = x_4.toInt := rfl
      exact W.iret (v := x_4) hx hb hr (fun t ht hW9 => ⟨⟨x_4, x_4, rfl, rfl, Or.inr (⟨by omega, by omega, by omega, tw_at ht hT⟩)⟩, hS.F ht⟩) hS.2.2 dX12_here_42
def wo_m_comes : List Cond := [.methodLink RX12 211 yX12_here, .instanceMethod yX12_here, .selects RX12 yX12_here yX12_here, .initialized RX12, .fieldLink RX12 197 "TypingPoolModel" "at" "I"]
def wm_m_comes : List Cond := .code yX12_comes cX12_comes 2 (some .boolean) :: (wo_m_comes ++ (wm_m_here ++ (wsX120 ++ ([] : List Cond))))
theorem gd_m_comes : ∀ w ∈ wm_m_comes, goodWord w = true := gd_c rfl (gd_a (by decide) (gd_a gd_m_here (gd_a gd_wsX120 gd_nil)))
set_option maxRecDepth 20000 in
theorem im_m_comes : ∀ w ∈ wm_m_comes, w ∈ lw_tbl := im_c (in_r [.code yX12_comes cX12_comes 2 (some .boolean)] [1506] (by decide +kernel)) (in_app (in_r wo_m_comes [1507, 1509, 39, 86, 1286] (by decide +kernel)) (in_app im_m_here (in_app im_wsX120 im_nil)))
set_option maxHeartbeats 4000000 in
set_option maxRecDepth 100000 in
theorem m_comes (l : Launch) (dC : Nat → ClassId) (dI : Nat → Nat → Nat) (ad av : Nat → Nat) (sz : Nat) (a : Nat → Nat) (k : Nat → ClassId) (τ ln : Nat → Nat) (y : Nat → Nat → Int32) (g : Nat → Nat → Option Nat) (u : Nat → Int) (p0 : Int32) (sq : Nat) (nS : Nat) (i : Nat) (hI : IM a u τ y) (hs0 : τ sq ≠ 0) (hcl : ∀ (f : Nat → Int32) (v : Nat → Option Nat), cl_ a k (ln sq) f v (τ sq) = .inl (k 2, nS, .inl f)) (hsg : g (a 50) 42 = some sq) (hltr : g (a 50) 47 = some (ad i)) (hi_i : i < 13) (hsl : (sL i : Int) ≤ 8) (hbg : 0 ≤ (y (a 50) 43).toInt ∧ (y (a 50) 43).toInt ≤ 1200) (hsz : (y (a 50) 44).toInt ≤ 100) (hft : (y (a 50) 43).toInt + 60 ≤ nS ∨ (y (a 50) 43).toInt + (y (a 50) 44).toInt ≤ nS) (hat : 0 ≤ (y (a 50) 45).toInt ∧ (y (a 50) 45).toInt ≤ 60) (hc0 : 0 ≤ p0.toInt) (hW : IW (u 1) (u 2) (u 9) (y (a 89))) : Met l yX12_comes wm_m_comes ({ frames := 1, cells := 0, slots := 0, locals := 60 }) (pw_ ad av (dC, dI) sz [.ref (a 50), .int p0] a k τ ln y g) (va_Qi (fun (r u : Int32) => u = r) (fun (r : Int32) (t : State) => (∃ (y' : Nat → Nat → Int32), r = 1 ∧ ag τ [60] y y' ∧ IM a u τ y' ∧ (y' (a 50) 43).toInt = (y (a 50) 43).toInt ∧ (y' (a 50) 44).toInt = (y (a 50) 44).toInt ∧ ((y (a 50) 45).toInt ≤ (y' (a 50) 45).toInt ∧ (y' (a 50) 45).toInt ≤ 60) ∧ pk a y y' ∧ (y' (a 50) 45).toInt = (y (a 50) 45).toInt + 1 ∧ tw (dC, dI) a k τ ln y' g t.heap) ∨ (∃ (y' : Nat → Nat → Int32), r = 0 ∧ ag τ [60] y y' ∧ IM a u τ y' ∧ (y' (a 50) 43).toInt = (y (a 50) 43).toInt ∧ (y' (a 50) 44).toInt = (y (a 50) 44).toInt ∧ ((y (a 50) 45).toInt ≤ (y' (a 50) 45).toInt ∧ (y' (a 50) 45).toInt ≤ 60) ∧ pk a y y' ∧ (y' (a 50) 45).toInt = (y (a 50) 45).toInt ∧ tw (dC, dI) a k τ ln y' g t.heap)) (fr τ sz)) 0 0 (fr τ sz) := by
  refine Met.ofW (cc := cX12_comes) (maxL := 2) (ret := (some .boolean)) (by decide) rfl ?_
  intro p e s m args below meth c s₁ B hml hv
  obtain ⟨rfl, hsz, hT, hK, hM⟩ := hv
  have hx := B.exec
  have hb := B.bytes
  have hr := B.returns
  have hts := atoms_spec (ws := wm_m_comes) B.pre
  have hown : s.vm.findClass RX12 = some m.cls := findClass_of_methodNamed B.named
  have hlocks := B.notSynchronized
  subst hsz
  generalize hAe : fr τ s.heap.size = A at hM ⊢
  have hA : ∀ q : Nat, s.heap.size ≤ q → A q := fun q h => by rw [← hAe]; exact Or.inr h
  have hF : ∀ q, τ q ≠ 0 → A q := fun q h => by rw [← hAe]; exact Or.inl h
  have hS : va_S A s.heap s.heap [] := va_S.rf
  have hX := hI.1
  have hR := im_r hI
  have hG : ag τ [60] y y := ag.rf
  have hl := lv_entry ([.ref (a 50), .int p0]) (n := 2) (Nat.le_of_ble_eq_true rfl)
  rw [lg_entry_eq]
  generalize (lg_sl ([.ref (a 50), .int p0]) ++ List.replicate (2 - (lg_sl ([.ref (a 50), .int p0])).length) Slot.unset).toArray = ls at hl ⊢
  have hl : lv_has ls 2 [(0, .ref (a 50)), (1, .int p0)] := hl
  have hPK : pk a y y := pk_rf
  refine lv_aload_n hx hb dX12_comes_0 rfl (lv_at hl 0 rfl) ?_
  have hFc := tw_free hF hS hA
  refine va_calli (va_runV (As := []) (rest := []) ⟨hx, hb, hml, hown, hts⟩ (m_here l dC dI ad av s.heap.size a k τ ln y g u sq nS i hI hs0 hcl hsg hltr hi_i hsl (by omega) (by omega) (by omega) (by omega) hW) (cwV 0 hts (gi_4 (List.mem_cons_of_mem _ (List.mem_append_left _ (List.mem_of_getElem? (i := 0) rfl))) (List.mem_cons_of_mem _ (List.mem_append_left _ (List.mem_of_getElem? (i := 1) rfl))) (List.mem_cons_of_mem _ (List.mem_append_left _ (List.mem_of_getElem? (i := 2) rfl))) (List.mem_cons_of_mem _ (List.mem_append_left _ (List.mem_of_getElem? (i := 3) rfl))) (fun _ hh => (List.mem_cons_of_mem _ (List.mem_append_right _ (List.mem_append_left _ hh)))) gd_m_here) rfl rfl rfl (by decide +kernel) ⟨Nat.le_of_ble_eq_true rfl, Nat.le_of_ble_eq_true rfl⟩) ⟨pw_blind, tw_recv hK hT (fx_50 hX) (by decide) cl_e60 rfl, pw_use hT hK hFc hS hM⟩ rfl rfl hl.1 rfl (lv_room (Nat.le_of_ble_eq_true rfl)) dX12_comes_1 ⟨Nat.le_of_ble_eq_true rfl, Nat.le_of_ble_eq_true rfl⟩) hS (fun q _ h => hFc q h) hFc (fun r0 r_1 t H locs ht hvm hw hB hz1 hk1 hS => ?_)
  refine W.widen (k := 0) (n := 0) (Nat.le_of_ble_eq_true rfl) (Nat.le_of_ble_eq_true rfl) ?_
  clear hvm hz1 hk1
  subst hw
  rcases hB with ⟨hre, hT⟩ | ⟨hf_2, hf_3, hf_4, hT⟩
  · refine lq_top (v := (-1)) hre ?_
    rw [ht] at hT
    refine lv_iload_n hx hb dX12_comes_4 rfl (lv_at hl 1 rfl) ?_
    refine lv_icmp_eq (tgt := 10) hx hb dX12_comes_5 (by decide) (fun c_5 => ?_) (fun c_5 => ?_)
    · have nc_5 := z_eq (zk (x := (-1)) (-1) rfl) rfl c_5
      refine lv_aload_n hx hb dX12_comes_10 rfl (lv_at hl 0 rfl) ?_
      refine lv_dup hx hb dX12_comes_11 rfl ?_
      refine tw_get (D := (dC, dI)) (v := .int (y (a 50) 45)) (C := RX12) (T := TX12) (N := 58) hx hb hts (fun _ hh => (List.mem_cons_of_mem _ (List.mem_append_right _ (List.mem_append_right _ (List.mem_append_left _ hh))))) hown hK hT (fx_50 hX) (by decide) cl_e60 rfl 45 (by decide) (hts (.fieldLink RX12 197 "TypingPoolModel" "at" "I") (List.mem_cons_of_mem _ (List.mem_append_left _ (List.mem_of_getElem? (i := 4) rfl)))) (fun _ h9 => h9) rfl dX12_comes_12 ?_
      refine lv_iconst (v := 1) hx hb dX12_comes_15 (by decide) ?_
      refine lv_iadd hx hb dX12_comes_16 ?_
      refine lv_topi (fun x_6 ex_6 => ?_)
      have hx_6 := z_add ex_6 rfl (zk (x := 1) 1 rfl) (by omega) (by omega)
      refine tw_put (D := (dC, dI)) (x := x_6) (ty := .int) (C := RX12) (T := TX12) (N := 58) hx hb hts (fun _ hh => (List.mem_cons_of_mem _ (List.mem_append_right _ (List.mem_append_right _ (List.mem_append_left _ hh))))) tyX12 tyX12_ok nmX12 hown hK hT hF hS (fx_50 hX) (by decide) cl_e60 rfl 45 (by decide) (hts (.fieldLink RX12 197 "TypingPoolModel" "at" "I") (List.mem_cons_of_mem _ (List.mem_append_left _ (List.mem_of_getElem? (i := 4) rfl)))) (fun _ h9 => h9) rfl (tyX12_ok 45 (by decide)) rfl rfl (Nat.le_of_ble_eq_true rfl) rfl dX12_comes_17 (fun H locs hT hS => ?_)
      obtain ⟨y_7, hy_7, hT⟩ : ∃ z : Nat → Nat → Int32, z = up2 y (a 50) 45 x_6 ∧ tw (dC, dI) a k τ ln z g H := ⟨_, rfl, hT⟩
      have hG : ag τ [60] y y_7 := by rw [hy_7]; exact hG.up (fx_50 hX) (by decide)
      have : (y_7 (a 50) 43).toInt = (y (a 50) 43).toInt := by rw [hy_7, up2_e (by decide)]
      have : (y_7 (a 50) 44).toInt = (y (a 50) 44).toInt := by rw [hy_7, up2_e (by decide)]
      have : (y_7 (a 50) 45).toInt = x_6.toInt := (congrArg Int32.toInt (show y_7 (a 50) 45 = x_6 from by rw [hy_7]; exact up2_i)).trans rfl
      have hPK : pk a y y_7 := by rw [hy_7]; exact hPK.up (by decide)
      have hW : IW (u 1) (u 2) (u 9) (y_7 (a 89)) := by rw [hy_7, up2_o (kd_ne (fx_89 hX) (fx_50 hX) (by decide))]; exact hW
      have hI := hI.put (f := 45) (x := x_6) (by decide)
      rw [← hy_7] at hI
      refine lv_iconst (v := 1) hx hb dX12_comes_20 (by decide) ?_
      have hrv : (1 : Int32).toInt = 1 := (zk (x := 1) 1 rfl)
      exact W.zret (v := 1) hx hb hr (by decide) (fun t ht hW9 => ⟨⟨1, 1, rfl, rfl, Or.inl ⟨y_7, rfl, hG, hI, by omega, by omega, by omega, hPK, by omega, tw_at ht hT⟩⟩, hS.F ht⟩) hS.2.2 dX12_comes_21
    · have nc_5 := z_ne (zk (x := (-1)) (-1) rfl) rfl c_5
      refine lv_iconst (v := 0) hx hb dX12_comes_8 (by decide) ?_
      have hrv : (0 : Int32).toInt = 0 := (zk (x := 0) 0 rfl)
      exact W.zret (v := 0) hx hb hr (by decide) (fun t ht hW9 => ⟨⟨0, 0, rfl, rfl, Or.inr (⟨y, rfl, hG, hI, by omega, by omega, by omega, hPK, by omega, tw_at ht hT⟩)⟩, hS.F ht⟩) hS.2.2 dX12_comes_9
  · rw [ht] at hT
    refine lv_iload_n hx hb dX12_comes_4 rfl (lv_at hl 1 rfl) ?_
    refine lv_icmp_eq (tgt := 10) hx hb dX12_comes_5 (by decide) (fun c_8 => ?_) (fun c_8 => ?_)
    · have nc_8 := z_eq rfl rfl c_8
      refine lv_aload_n hx hb dX12_comes_10 rfl (lv_at hl 0 rfl) ?_
      refine lv_dup hx hb dX12_comes_11 rfl ?_
      refine tw_get (D := (dC, dI)) (v := .int (y (a 50) 45)) (C := RX12) (T := TX12) (N := 58) hx hb hts (fun _ hh => (List.mem_cons_of_mem _ (List.mem_append_right _ (List.mem_append_right _ (List.mem_append_left _ hh))))) hown hK hT (fx_50 hX) (by decide) cl_e60 rfl 45 (by decide) (hts (.fieldLink RX12 197 "TypingPoolModel" "at" "I") (List.mem_cons_of_mem _ (List.mem_append_left _ (List.mem_of_getElem? (i := 4) rfl)))) (fun _ h9 => h9) rfl dX12_comes_12 ?_
      refine lv_iconst (v := 1) hx hb dX12_comes_15 (by decide) ?_
      refine lv_iadd hx hb dX12_comes_16 ?_
      refine lv_topi (fun x_9 ex_9 => ?_)
      have hx_9 := z_add ex_9 rfl (zk (x := 1) 1 rfl) (by omega) (by omega)
      refine tw_put (D := (dC, dI)) (x := x_9) (ty := .int) (C := RX12) (T := TX12) (N := 58) hx hb hts (fun _ hh => (List.mem_cons_of_mem _ (List.mem_append_right _ (List.mem_append_right _ (List.mem_append_left _ hh))))) tyX12 tyX12_ok nmX12 hown hK hT hF hS (fx_50 hX) (by decide) cl_e60 rfl 45 (by decide) (hts (.fieldLink RX12 197 "TypingPoolModel" "at" "I") (List.mem_cons_of_mem _ (List.mem_append_left _ (List.mem_of_getElem? (i := 4) rfl)))) (fun _ h9 => h9) rfl (tyX12_ok 45 (by decide)) rfl rfl (Nat.le_of_ble_eq_true rfl) rfl dX12_comes_17 (fun H locs hT hS => ?_)
      obtain ⟨y_10, hy_10, hT⟩ : ∃ z : Nat → Nat → Int32, z = up2 y (a 50) 45 x_9 ∧ tw (dC, dI) a k τ ln z g H := ⟨_, rfl, hT⟩
      have hG : ag τ [60] y y_10 := by rw [hy_10]; exact hG.up (fx_50 hX) (by decide)
      have : (y_10 (a 50) 43).toInt = (y (a 50) 43).toInt := by rw [hy_10, up2_e (by decide)]
      have : (y_10 (a 50) 44).toInt = (y (a 50) 44).toInt := by rw [hy_10, up2_e (by decide)]
      have : (y_10 (a 50) 45).toInt = x_9.toInt := (congrArg Int32.toInt (show y_10 (a 50) 45 = x_9 from by rw [hy_10]; exact up2_i)).trans rfl
      have hPK : pk a y y_10 := by rw [hy_10]; exact hPK.up (by decide)
      have hW : IW (u 1) (u 2) (u 9) (y_10 (a 89)) := by rw [hy_10, up2_o (kd_ne (fx_89 hX) (fx_50 hX) (by decide))]; exact hW
      have hI := hI.put (f := 45) (x := x_9) (by decide)
      rw [← hy_10] at hI
      refine lv_iconst (v := 1) hx hb dX12_comes_20 (by decide) ?_
      have hrv : (1 : Int32).toInt = 1 := (zk (x := 1) 1 rfl)
      exact W.zret (v := 1) hx hb hr (by decide) (fun t ht hW9 => ⟨⟨1, 1, rfl, rfl, Or.inl ⟨y_10, rfl, hG, hI, by omega, by omega, by omega, hPK, by omega, tw_at ht hT⟩⟩, hS.F ht⟩) hS.2.2 dX12_comes_21
    · have nc_8 := z_ne rfl rfl c_8
      refine lv_iconst (v := 0) hx hb dX12_comes_8 (by decide) ?_
      have hrv : (0 : Int32).toInt = 0 := (zk (x := 0) 0 rfl)
      exact W.zret (v := 0) hx hb hr (by decide) (fun t ht hW9 => ⟨⟨0, 0, rfl, rfl, Or.inr (⟨y, rfl, hG, hI, by omega, by omega, by omega, hPK, by omega, tw_at ht hT⟩)⟩, hS.F ht⟩) hS.2.2 dX12_comes_9
def wo_m_isDigit : List Cond := [.methodLink RX12 211 yX12_here, .instanceMethod yX12_here, .selects RX12 yX12_here yX12_here, .initialized RX12]
def wm_m_isDigit : List Cond := .code yX12_isDigit cX12_isDigit 1 (some .boolean) :: (wo_m_isDigit ++ (wm_m_here ++ ([] : List Cond)))
theorem gd_m_isDigit : ∀ w ∈ wm_m_isDigit, goodWord w = true := gd_c rfl (gd_a (by decide) (gd_a gd_m_here gd_nil))
set_option maxRecDepth 20000 in
theorem im_m_isDigit : ∀ w ∈ wm_m_isDigit, w ∈ lw_tbl := im_c (in_r [.code yX12_isDigit cX12_isDigit 1 (some .boolean)] [1522] (by decide +kernel)) (in_app (in_r wo_m_isDigit [1507, 1509, 39, 86] (by decide +kernel)) (in_app im_m_here im_nil))
set_option maxHeartbeats 4000000 in
set_option maxRecDepth 100000 in
theorem m_isDigit (l : Launch) (dC : Nat → ClassId) (dI : Nat → Nat → Nat) (ad av : Nat → Nat) (sz : Nat) (a : Nat → Nat) (k : Nat → ClassId) (τ ln : Nat → Nat) (y : Nat → Nat → Int32) (g : Nat → Nat → Option Nat) (u : Nat → Int) (sq : Nat) (nS : Nat) (i : Nat) (hI : IM a u τ y) (hs0 : τ sq ≠ 0) (hcl : ∀ (f : Nat → Int32) (v : Nat → Option Nat), cl_ a k (ln sq) f v (τ sq) = .inl (k 2, nS, .inl f)) (hsg : g (a 50) 42 = some sq) (hltr : g (a 50) 47 = some (ad i)) (hi_i : i < 13) (hsl : (sL i : Int) ≤ 8) (hbg : 0 ≤ (y (a 50) 43).toInt ∧ (y (a 50) 43).toInt ≤ 1200) (hsz : (y (a 50) 44).toInt ≤ 100) (hft : (y (a 50) 43).toInt + 60 ≤ nS ∨ (y (a 50) 43).toInt + (y (a 50) 44).toInt ≤ nS) (hat : 0 ≤ (y (a 50) 45).toInt ∧ (y (a 50) 45).toInt ≤ 60) (hW : IW (u 1) (u 2) (u 9) (y (a 89))) : Met l yX12_isDigit wm_m_isDigit ({ frames := 1, cells := 0, slots := 0, locals := 60 }) (pw_ ad av (dC, dI) sz [.ref (a 50)] a k τ ln y g) (va_Qi (fun (r u : Int32) => u = r) (fun (r : Int32) (t : State) => (r = 1 ∧ (y (a 50) 45).toInt < 60 ∧ tw (dC, dI) a k τ ln y g t.heap) ∨ (r = 0 ∧ tw (dC, dI) a k τ ln y g t.heap)) (fr τ sz)) 0 0 (fr τ sz) := by
  refine Met.ofW (cc := cX12_isDigit) (maxL := 1) (ret := (some .boolean)) (by decide) rfl ?_
  intro p e s m args below meth c s₁ B hml hv
  obtain ⟨rfl, hsz, hT, hK, hM⟩ := hv
  have hx := B.exec
  have hb := B.bytes
  have hr := B.returns
  have hts := atoms_spec (ws := wm_m_isDigit) B.pre
  have hown : s.vm.findClass RX12 = some m.cls := findClass_of_methodNamed B.named
  have hlocks := B.notSynchronized
  subst hsz
  generalize hAe : fr τ s.heap.size = A at hM ⊢
  have hA : ∀ q : Nat, s.heap.size ≤ q → A q := fun q h => by rw [← hAe]; exact Or.inr h
  have hF : ∀ q, τ q ≠ 0 → A q := fun q h => by rw [← hAe]; exact Or.inl h
  have hS : va_S A s.heap s.heap [] := va_S.rf
  have hX := hI.1
  have hR := im_r hI
  have hl := lv_entry ([.ref (a 50)]) (n := 1) (Nat.le_of_ble_eq_true rfl)
  rw [lg_entry_eq]
  generalize (lg_sl ([.ref (a 50)]) ++ List.replicate (1 - (lg_sl ([.ref (a 50)])).length) Slot.unset).toArray = ls at hl ⊢
  have hl : lv_has ls 1 [(0, .ref (a 50))] := hl
  refine lv_aload_n hx hb dX12_isDigit_0 rfl (lv_at hl 0 rfl) ?_
  have hFc := tw_free hF hS hA
  refine va_calli (va_runV (As := []) (rest := []) ⟨hx, hb, hml, hown, hts⟩ (m_here l dC dI ad av s.heap.size a k τ ln y g u sq nS i hI hs0 hcl hsg hltr hi_i hsl (by omega) (by omega) (by omega) (by omega) hW) (cwV 0 hts (gi_4 (List.mem_cons_of_mem _ (List.mem_append_left _ (List.mem_of_getElem? (i := 0) rfl))) (List.mem_cons_of_mem _ (List.mem_append_left _ (List.mem_of_getElem? (i := 1) rfl))) (List.mem_cons_of_mem _ (List.mem_append_left _ (List.mem_of_getElem? (i := 2) rfl))) (List.mem_cons_of_mem _ (List.mem_append_left _ (List.mem_of_getElem? (i := 3) rfl))) (fun _ hh => (List.mem_cons_of_mem _ (List.mem_append_right _ (List.mem_append_left _ hh)))) gd_m_here) rfl rfl rfl (by decide +kernel) ⟨Nat.le_of_ble_eq_true rfl, Nat.le_of_ble_eq_true rfl⟩) ⟨pw_blind, tw_recv hK hT (fx_50 hX) (by decide) cl_e60 rfl, pw_use hT hK hFc hS hM⟩ rfl rfl hl.1 rfl (lv_room (Nat.le_of_ble_eq_true rfl)) dX12_isDigit_1 ⟨Nat.le_of_ble_eq_true rfl, Nat.le_of_ble_eq_true rfl⟩) hS (fun q _ h => hFc q h) hFc (fun r0 r_1 t H locs ht hvm hw hB hz1 hk1 hS => ?_)
  refine W.widen (k := 0) (n := 0) (Nat.le_of_ble_eq_true rfl) (Nat.le_of_ble_eq_true rfl) ?_
  clear hvm hz1 hk1
  subst hw
  rcases hB with ⟨hre, hT⟩ | ⟨hf_2, hf_3, hf_4, hT⟩
  · refine lq_top (v := (-1)) hre ?_
    rw [ht] at hT
    refine lv_bipush (v := 48) hx hb dX12_isDigit_4 (by decide) ?_
    refine lv_icmp_lt (tgt := 22) hx hb dX12_isDigit_6 (by decide) (fun c_5 => ?_) (fun c_5 => absurd c_5 (by decide))
    refine lv_iconst (v := 0) hx hb dX12_isDigit_22 (by decide) ?_
    exact W.zret (v := 0) hx hb hr (by decide) (fun t ht hW9 => ⟨⟨0, 0, rfl, rfl, Or.inr (⟨rfl, tw_at ht hT⟩)⟩, hS.F ht⟩) hS.2.2 dX12_isDigit_23
  · rw [ht] at hT
    refine lv_bipush (v := 48) hx hb dX12_isDigit_4 (by decide) ?_
    refine lv_icmp_lt (tgt := 22) hx hb dX12_isDigit_6 (by decide) (fun c_6 => ?_) (fun c_6 => ?_)
    · have nc_6 := z_lt rfl (zk (x := 48) 48 rfl) c_6
      refine lv_iconst (v := 0) hx hb dX12_isDigit_22 (by decide) ?_
      exact W.zret (v := 0) hx hb hr (by decide) (fun t ht hW9 => ⟨⟨0, 0, rfl, rfl, Or.inr (⟨rfl, tw_at ht hT⟩)⟩, hS.F ht⟩) hS.2.2 dX12_isDigit_23
    · have nc_6 := z_nlt rfl (zk (x := 48) 48 rfl) c_6
      refine lv_aload_n hx hb dX12_isDigit_9 rfl (lv_at hl 0 rfl) ?_
      have hFc := tw_free hF hS hA
      refine va_calli (va_runV (As := []) (rest := []) ⟨hx, hb, hml, hown, hts⟩ (m_here l dC dI ad av H.size a k τ ln y g u sq nS i hI hs0 hcl hsg hltr hi_i hsl (by omega) (by omega) (by omega) (by omega) hW) (cwV 0 hts (gi_4 (List.mem_cons_of_mem _ (List.mem_append_left _ (List.mem_of_getElem? (i := 0) rfl))) (List.mem_cons_of_mem _ (List.mem_append_left _ (List.mem_of_getElem? (i := 1) rfl))) (List.mem_cons_of_mem _ (List.mem_append_left _ (List.mem_of_getElem? (i := 2) rfl))) (List.mem_cons_of_mem _ (List.mem_append_left _ (List.mem_of_getElem? (i := 3) rfl))) (fun _ hh => (List.mem_cons_of_mem _ (List.mem_append_right _ (List.mem_append_left _ hh)))) gd_m_here) rfl rfl rfl (by decide +kernel) ⟨Nat.le_of_ble_eq_true rfl, Nat.le_of_ble_eq_true rfl⟩) ⟨pw_blind, tw_recv hK hT (fx_50 hX) (by decide) cl_e60 rfl, pw_use hT hK hFc hS hM⟩ rfl rfl hl.1 rfl (lv_room (Nat.le_of_ble_eq_true rfl)) dX12_isDigit_10 ⟨Nat.le_of_ble_eq_true rfl, Nat.le_of_ble_eq_true rfl⟩) hS (fun q _ h => hFc q h) hFc (fun r0 r_7 t H locs ht hvm hw hB hz1 hk1 hS => ?_)
      refine W.widen (k := 0) (n := 0) (Nat.le_of_ble_eq_true rfl) (Nat.le_of_ble_eq_true rfl) ?_
      clear hvm hz1 hk1
      subst hw
      rcases hB with ⟨hre, hT⟩ | ⟨hf_8, hf_9, hf_10, hT⟩
      · refine lq_top (v := (-1)) hre ?_
        rw [ht] at hT
        refine lv_bipush (v := 57) hx hb dX12_isDigit_13 (by decide) ?_
        refine lv_icmp_gt (tgt := 22) hx hb dX12_isDigit_15 (by decide) (fun c_11 => absurd c_11 (by decide)) (fun c_11 => ?_)
        refine lv_iconst (v := 1) hx hb dX12_isDigit_18 (by decide) ?_
        refine lv_goto (tgt := 23) hx hb dX12_isDigit_19 (by decide) ?_
        have hrv : (1 : Int32).toInt = 1 := (zk (x := 1) 1 rfl)
        exact W.zret (v := 1) hx hb hr (by decide) (fun t ht hW9 => ⟨⟨1, 1, rfl, rfl, Or.inl ⟨rfl, by omega, tw_at ht hT⟩⟩, hS.F ht⟩) hS.2.2 dX12_isDigit_23
      · rw [ht] at hT
        refine lv_bipush (v := 57) hx hb dX12_isDigit_13 (by decide) ?_
        refine lv_icmp_gt (tgt := 22) hx hb dX12_isDigit_15 (by decide) (fun c_12 => ?_) (fun c_12 => ?_)
        · have nc_12 := z_lt (zk (x := 57) 57 rfl) rfl c_12
          refine lv_iconst (v := 0) hx hb dX12_isDigit_22 (by decide) ?_
          exact W.zret (v := 0) hx hb hr (by decide) (fun t ht hW9 => ⟨⟨0, 0, rfl, rfl, Or.inr (⟨rfl, tw_at ht hT⟩)⟩, hS.F ht⟩) hS.2.2 dX12_isDigit_23
        · have nc_12 := z_nlt (zk (x := 57) 57 rfl) rfl c_12
          refine lv_iconst (v := 1) hx hb dX12_isDigit_18 (by decide) ?_
          refine lv_goto (tgt := 23) hx hb dX12_isDigit_19 (by decide) ?_
          have hrv : (1 : Int32).toInt = 1 := (zk (x := 1) 1 rfl)
          exact W.zret (v := 1) hx hb hr (by decide) (fun t ht hW9 => ⟨⟨1, 1, rfl, rfl, Or.inl ⟨rfl, by omega, tw_at ht hT⟩⟩, hS.F ht⟩) hS.2.2 dX12_isDigit_23
def wo_G : List Cond := [.code yX12_thing cX12_thing 4 (some .int), .code yX12_product cX12_product 3 (some .int), .code yX12_sum cX12_sum 3 (some .int), .code yX12_held cX12_held 3 (some .int), .code yX12_both cX12_both 3 (some .int), .code yX12_any cX12_any 3 (some .int), .methodLink RX12 221 yX12_comes, .instanceMethod yX12_comes, .selects RX12 yX12_comes yX12_comes, .initialized RX12, .methodLink RX12 233 yX12_thing, .instanceMethod yX12_thing, .selects RX12 yX12_thing yX12_thing, .methodLink RX12 211 yX12_here, .instanceMethod yX12_here, .selects RX12 yX12_here yX12_here, .methodLink RX12 242 yX12_isDigit, .instanceMethod yX12_isDigit, .selects RX12 yX12_isDigit yX12_isDigit, .fieldLink RX12 197 "TypingPoolModel" "at" "I", .methodLink RX12 236 yX12_isWrong, .instanceMethod yX12_isWrong, .selects RX12 yX12_isWrong yX12_isWrong, .fieldLink RX12 207 "TypingPoolModel" "letters" "Ljava/lang/String;", .methodLink RX12 245 yJ0_indexOf_0f7a4, .instanceMethod yJ0_indexOf_0f7a4, .selects RJ0 yJ0_indexOf_0f7a4 yJ0_indexOf_0f7a4, .initialized RJ0, .fieldLink RX12 116 "TypingPoolModel" "values" "[I", .methodLink RX12 239 yX12_any, .instanceMethod yX12_any, .selects RX12 yX12_any yX12_any, .methodLink RX12 217 yX12_fine, .instanceMethod yX12_fine, .selects RX12 yX12_fine yX12_fine, .methodLink RX12 230 yX12_product, .instanceMethod yX12_product, .selects RX12 yX12_product yX12_product, .methodLink RX12 227 yX12_sum, .instanceMethod yX12_sum, .selects RX12 yX12_sum yX12_sum, .methodLink RX12 224 yX12_held, .instanceMethod yX12_held, .selects RX12 yX12_held yX12_held, .methodLink RX12 214 yX12_both, .instanceMethod yX12_both, .selects RX12 yX12_both yX12_both]
theorem gd_woG : ∀ w ∈ wo_G, goodWord w = true := by decide
set_option maxRecDepth 20000 in
theorem im_woG : ∀ w ∈ wo_G, w ∈ lw_tbl := in_r wo_G [1502, 1498, 1494, 1490, 1486, 1482, 1503, 1505, 38, 86, 1499, 1501, 37, 1507, 1509, 39, 1519, 1521, 42, 1286, 1511, 1513, 40, 1288, 1523, 267, 268, 74, 1282, 1479, 1481, 32, 1515, 1517, 41, 1495, 1497, 36, 1491, 1493, 35, 1487, 1489, 34, 1483, 1485, 33] (by decide +kernel)
def wm_g_thing : List Cond := .code yX12_thing cX12_thing 4 (some .int) :: (wo_G ++ (wm_m_comes ++ (wm_m_here ++ (wm_m_isDigit ++ (wsX120 ++ (wm_m_isWrong ++ (wm_j_indexOf1 ++ (wm_m_fine ++ ([] : List Cond)))))))))
theorem gd_g_thing : ∀ w ∈ wm_g_thing, goodWord w = true := gd_c rfl (gd_a gd_woG (gd_a gd_m_comes (gd_a gd_m_here (gd_a gd_m_isDigit (gd_a gd_wsX120 (gd_a gd_m_isWrong (gd_a gd_j_indexOf1 (gd_a gd_m_fine gd_nil))))))))
set_option maxRecDepth 20000 in
theorem im_g_thing : ∀ w ∈ wm_g_thing, w ∈ lw_tbl := im_c (in_r [.code yX12_thing cX12_thing 4 (some .int)] [1502] (by decide +kernel)) (in_app im_woG (in_app im_m_comes (in_app im_m_here (in_app im_m_isDigit (in_app im_wsX120 (in_app im_m_isWrong (in_app im_j_indexOf1 (in_app im_m_fine im_nil))))))))
def wm_g_product : List Cond := .code yX12_product cX12_product 3 (some .int) :: (wo_G ++ (wm_m_comes ++ (wm_m_here ++ (wm_m_isDigit ++ (wsX120 ++ (wm_m_isWrong ++ (wm_j_indexOf1 ++ (wm_m_fine ++ ([] : List Cond)))))))))
theorem gd_g_product : ∀ w ∈ wm_g_product, goodWord w = true := gd_c rfl (gd_a gd_woG (gd_a gd_m_comes (gd_a gd_m_here (gd_a gd_m_isDigit (gd_a gd_wsX120 (gd_a gd_m_isWrong (gd_a gd_j_indexOf1 (gd_a gd_m_fine gd_nil))))))))
set_option maxRecDepth 20000 in
theorem im_g_product : ∀ w ∈ wm_g_product, w ∈ lw_tbl := im_c (in_r [.code yX12_product cX12_product 3 (some .int)] [1498] (by decide +kernel)) (in_app im_woG (in_app im_m_comes (in_app im_m_here (in_app im_m_isDigit (in_app im_wsX120 (in_app im_m_isWrong (in_app im_j_indexOf1 (in_app im_m_fine im_nil))))))))
def wm_g_sum : List Cond := .code yX12_sum cX12_sum 3 (some .int) :: (wo_G ++ (wm_m_comes ++ (wm_m_here ++ (wm_m_isDigit ++ (wsX120 ++ (wm_m_isWrong ++ (wm_j_indexOf1 ++ (wm_m_fine ++ ([] : List Cond)))))))))
theorem gd_g_sum : ∀ w ∈ wm_g_sum, goodWord w = true := gd_c rfl (gd_a gd_woG (gd_a gd_m_comes (gd_a gd_m_here (gd_a gd_m_isDigit (gd_a gd_wsX120 (gd_a gd_m_isWrong (gd_a gd_j_indexOf1 (gd_a gd_m_fine gd_nil))))))))
set_option maxRecDepth 20000 in
theorem im_g_sum : ∀ w ∈ wm_g_sum, w ∈ lw_tbl := im_c (in_r [.code yX12_sum cX12_sum 3 (some .int)] [1494] (by decide +kernel)) (in_app im_woG (in_app im_m_comes (in_app im_m_here (in_app im_m_isDigit (in_app im_wsX120 (in_app im_m_isWrong (in_app im_j_indexOf1 (in_app im_m_fine im_nil))))))))
def wm_g_held : List Cond := .code yX12_held cX12_held 3 (some .int) :: (wo_G ++ (wm_m_comes ++ (wm_m_here ++ (wm_m_isDigit ++ (wsX120 ++ (wm_m_isWrong ++ (wm_j_indexOf1 ++ (wm_m_fine ++ ([] : List Cond)))))))))
theorem gd_g_held : ∀ w ∈ wm_g_held, goodWord w = true := gd_c rfl (gd_a gd_woG (gd_a gd_m_comes (gd_a gd_m_here (gd_a gd_m_isDigit (gd_a gd_wsX120 (gd_a gd_m_isWrong (gd_a gd_j_indexOf1 (gd_a gd_m_fine gd_nil))))))))
set_option maxRecDepth 20000 in
theorem im_g_held : ∀ w ∈ wm_g_held, w ∈ lw_tbl := im_c (in_r [.code yX12_held cX12_held 3 (some .int)] [1490] (by decide +kernel)) (in_app im_woG (in_app im_m_comes (in_app im_m_here (in_app im_m_isDigit (in_app im_wsX120 (in_app im_m_isWrong (in_app im_j_indexOf1 (in_app im_m_fine im_nil))))))))
def wm_g_both : List Cond := .code yX12_both cX12_both 3 (some .int) :: (wo_G ++ (wm_m_comes ++ (wm_m_here ++ (wm_m_isDigit ++ (wsX120 ++ (wm_m_isWrong ++ (wm_j_indexOf1 ++ (wm_m_fine ++ ([] : List Cond)))))))))
theorem gd_g_both : ∀ w ∈ wm_g_both, goodWord w = true := gd_c rfl (gd_a gd_woG (gd_a gd_m_comes (gd_a gd_m_here (gd_a gd_m_isDigit (gd_a gd_wsX120 (gd_a gd_m_isWrong (gd_a gd_j_indexOf1 (gd_a gd_m_fine gd_nil))))))))
set_option maxRecDepth 20000 in
theorem im_g_both : ∀ w ∈ wm_g_both, w ∈ lw_tbl := im_c (in_r [.code yX12_both cX12_both 3 (some .int)] [1486] (by decide +kernel)) (in_app im_woG (in_app im_m_comes (in_app im_m_here (in_app im_m_isDigit (in_app im_wsX120 (in_app im_m_isWrong (in_app im_j_indexOf1 (in_app im_m_fine im_nil))))))))
def wm_g_any : List Cond := .code yX12_any cX12_any 3 (some .int) :: (wo_G ++ (wm_m_comes ++ (wm_m_here ++ (wm_m_isDigit ++ (wsX120 ++ (wm_m_isWrong ++ (wm_j_indexOf1 ++ (wm_m_fine ++ ([] : List Cond)))))))))
theorem gd_g_any : ∀ w ∈ wm_g_any, goodWord w = true := gd_c rfl (gd_a gd_woG (gd_a gd_m_comes (gd_a gd_m_here (gd_a gd_m_isDigit (gd_a gd_wsX120 (gd_a gd_m_isWrong (gd_a gd_j_indexOf1 (gd_a gd_m_fine gd_nil))))))))
set_option maxRecDepth 20000 in
theorem im_g_any : ∀ w ∈ wm_g_any, w ∈ lw_tbl := im_c (in_r [.code yX12_any cX12_any 3 (some .int)] [1482] (by decide +kernel)) (in_app im_woG (in_app im_m_comes (in_app im_m_here (in_app im_m_isDigit (in_app im_wsX120 (in_app im_m_isWrong (in_app im_j_indexOf1 (in_app im_m_fine im_nil))))))))
def St_g_thing (N : Nat) : Prop := ∀ (l : Launch) (dC : Nat → ClassId) (dI : Nat → Nat → Nat) (ad av : Nat → Nat) (sz : Nat) (a : Nat → Nat) (k : Nat → ClassId) (τ ln : Nat → Nat) (y : Nat → Nat → Int32) (g : Nat → Nat → Option Nat) (u : Nat → Int) (p0 : Int32) (sq : Nat) (nS : Nat) (i : Nat) (hI : IM a u τ y) (hs0 : τ sq ≠ 0) (hcl : ∀ (f : Nat → Int32) (v : Nat → Option Nat), cl_ a k (ln sq) f v (τ sq) = .inl (k 2, nS, .inl f)) (hsg : g (a 50) 42 = some sq) (hltr : g (a 50) 47 = some (ad i)) (hi_i : i < 13) (hsl : (sL i : Int) ≤ 8) (hbg : 0 ≤ (y (a 50) 43).toInt ∧ (y (a 50) 43).toInt ≤ 1200) (hsz : (y (a 50) 44).toInt ≤ 100) (hft : (y (a 50) 43).toInt + 60 ≤ nS ∨ (y (a 50) 43).toInt + (y (a 50) 44).toInt ≤ nS) (hat : 0 ≤ (y (a 50) 45).toInt ∧ (y (a 50) 45).toInt ≤ 60) (hN : 60 - (y (a 50) 45).toInt < (N : Int)) (hW : IW (u 1) (u 2) (u 9) (y (a 89))), Met l yX12_thing wm_g_thing ({ frames := 6 * N + 12, cells := 0, slots := 0, locals := 400 * N + 400 }) (pw_ ad av (dC, dI) sz [.ref (a 50), .int p0] a k τ ln y g) (va_Qi (fun (r u : Int32) => u = r) (fun (r : Int32) (t : State) => (∃ (y' : Nat → Nat → Int32), ag τ [60] y y' ∧ IM a u τ y' ∧ (y' (a 50) 43).toInt = (y (a 50) 43).toInt ∧ (y' (a 50) 44).toInt = (y (a 50) 44).toInt ∧ ((y (a 50) 45).toInt ≤ (y' (a 50) 45).toInt ∧ (y' (a 50) 45).toInt ≤ 60) ∧ pk a y y' ∧ tw (dC, dI) a k τ ln y' g t.heap)) (fr τ sz)) 0 0 (fr τ sz)
def St_g_product (N : Nat) : Prop := ∀ (l : Launch) (dC : Nat → ClassId) (dI : Nat → Nat → Nat) (ad av : Nat → Nat) (sz : Nat) (a : Nat → Nat) (k : Nat → ClassId) (τ ln : Nat → Nat) (y : Nat → Nat → Int32) (g : Nat → Nat → Option Nat) (u : Nat → Int) (p0 : Int32) (sq : Nat) (nS : Nat) (i : Nat) (hI : IM a u τ y) (hs0 : τ sq ≠ 0) (hcl : ∀ (f : Nat → Int32) (v : Nat → Option Nat), cl_ a k (ln sq) f v (τ sq) = .inl (k 2, nS, .inl f)) (hsg : g (a 50) 42 = some sq) (hltr : g (a 50) 47 = some (ad i)) (hi_i : i < 13) (hsl : (sL i : Int) ≤ 8) (hbg : 0 ≤ (y (a 50) 43).toInt ∧ (y (a 50) 43).toInt ≤ 1200) (hsz : (y (a 50) 44).toInt ≤ 100) (hft : (y (a 50) 43).toInt + 60 ≤ nS ∨ (y (a 50) 43).toInt + (y (a 50) 44).toInt ≤ nS) (hat : 0 ≤ (y (a 50) 45).toInt ∧ (y (a 50) 45).toInt ≤ 60) (hN : 60 - (y (a 50) 45).toInt < (N : Int)) (hW : IW (u 1) (u 2) (u 9) (y (a 89))), Met l yX12_product wm_g_product ({ frames := 6 * N + 13, cells := 0, slots := 0, locals := 400 * N + 460 }) (pw_ ad av (dC, dI) sz [.ref (a 50), .int p0] a k τ ln y g) (va_Qi (fun (r u : Int32) => u = r) (fun (r : Int32) (t : State) => (∃ (y' : Nat → Nat → Int32), ag τ [60] y y' ∧ IM a u τ y' ∧ (y' (a 50) 43).toInt = (y (a 50) 43).toInt ∧ (y' (a 50) 44).toInt = (y (a 50) 44).toInt ∧ ((y (a 50) 45).toInt ≤ (y' (a 50) 45).toInt ∧ (y' (a 50) 45).toInt ≤ 60) ∧ pk a y y' ∧ tw (dC, dI) a k τ ln y' g t.heap)) (fr τ sz)) 0 0 (fr τ sz)
def St_g_sum (N : Nat) : Prop := ∀ (l : Launch) (dC : Nat → ClassId) (dI : Nat → Nat → Nat) (ad av : Nat → Nat) (sz : Nat) (a : Nat → Nat) (k : Nat → ClassId) (τ ln : Nat → Nat) (y : Nat → Nat → Int32) (g : Nat → Nat → Option Nat) (u : Nat → Int) (p0 : Int32) (sq : Nat) (nS : Nat) (i : Nat) (hI : IM a u τ y) (hs0 : τ sq ≠ 0) (hcl : ∀ (f : Nat → Int32) (v : Nat → Option Nat), cl_ a k (ln sq) f v (τ sq) = .inl (k 2, nS, .inl f)) (hsg : g (a 50) 42 = some sq) (hltr : g (a 50) 47 = some (ad i)) (hi_i : i < 13) (hsl : (sL i : Int) ≤ 8) (hbg : 0 ≤ (y (a 50) 43).toInt ∧ (y (a 50) 43).toInt ≤ 1200) (hsz : (y (a 50) 44).toInt ≤ 100) (hft : (y (a 50) 43).toInt + 60 ≤ nS ∨ (y (a 50) 43).toInt + (y (a 50) 44).toInt ≤ nS) (hat : 0 ≤ (y (a 50) 45).toInt ∧ (y (a 50) 45).toInt ≤ 60) (hN : 60 - (y (a 50) 45).toInt < (N : Int)) (hW : IW (u 1) (u 2) (u 9) (y (a 89))), Met l yX12_sum wm_g_sum ({ frames := 6 * N + 14, cells := 0, slots := 0, locals := 400 * N + 520 }) (pw_ ad av (dC, dI) sz [.ref (a 50), .int p0] a k τ ln y g) (va_Qi (fun (r u : Int32) => u = r) (fun (r : Int32) (t : State) => (∃ (y' : Nat → Nat → Int32), ag τ [60] y y' ∧ IM a u τ y' ∧ (y' (a 50) 43).toInt = (y (a 50) 43).toInt ∧ (y' (a 50) 44).toInt = (y (a 50) 44).toInt ∧ ((y (a 50) 45).toInt ≤ (y' (a 50) 45).toInt ∧ (y' (a 50) 45).toInt ≤ 60) ∧ pk a y y' ∧ tw (dC, dI) a k τ ln y' g t.heap)) (fr τ sz)) 0 0 (fr τ sz)
def St_g_held (N : Nat) : Prop := ∀ (l : Launch) (dC : Nat → ClassId) (dI : Nat → Nat → Nat) (ad av : Nat → Nat) (sz : Nat) (a : Nat → Nat) (k : Nat → ClassId) (τ ln : Nat → Nat) (y : Nat → Nat → Int32) (g : Nat → Nat → Option Nat) (u : Nat → Int) (p0 : Int32) (sq : Nat) (nS : Nat) (i : Nat) (hI : IM a u τ y) (hs0 : τ sq ≠ 0) (hcl : ∀ (f : Nat → Int32) (v : Nat → Option Nat), cl_ a k (ln sq) f v (τ sq) = .inl (k 2, nS, .inl f)) (hsg : g (a 50) 42 = some sq) (hltr : g (a 50) 47 = some (ad i)) (hi_i : i < 13) (hsl : (sL i : Int) ≤ 8) (hbg : 0 ≤ (y (a 50) 43).toInt ∧ (y (a 50) 43).toInt ≤ 1200) (hsz : (y (a 50) 44).toInt ≤ 100) (hft : (y (a 50) 43).toInt + 60 ≤ nS ∨ (y (a 50) 43).toInt + (y (a 50) 44).toInt ≤ nS) (hat : 0 ≤ (y (a 50) 45).toInt ∧ (y (a 50) 45).toInt ≤ 60) (hN : 60 - (y (a 50) 45).toInt < (N : Int)) (hW : IW (u 1) (u 2) (u 9) (y (a 89))), Met l yX12_held wm_g_held ({ frames := 6 * N + 15, cells := 0, slots := 0, locals := 400 * N + 580 }) (pw_ ad av (dC, dI) sz [.ref (a 50), .int p0] a k τ ln y g) (va_Qi (fun (r u : Int32) => u = r) (fun (r : Int32) (t : State) => (∃ (y' : Nat → Nat → Int32), ag τ [60] y y' ∧ IM a u τ y' ∧ (y' (a 50) 43).toInt = (y (a 50) 43).toInt ∧ (y' (a 50) 44).toInt = (y (a 50) 44).toInt ∧ ((y (a 50) 45).toInt ≤ (y' (a 50) 45).toInt ∧ (y' (a 50) 45).toInt ≤ 60) ∧ pk a y y' ∧ tw (dC, dI) a k τ ln y' g t.heap)) (fr τ sz)) 0 0 (fr τ sz)
def St_g_both (N : Nat) : Prop := ∀ (l : Launch) (dC : Nat → ClassId) (dI : Nat → Nat → Nat) (ad av : Nat → Nat) (sz : Nat) (a : Nat → Nat) (k : Nat → ClassId) (τ ln : Nat → Nat) (y : Nat → Nat → Int32) (g : Nat → Nat → Option Nat) (u : Nat → Int) (p0 : Int32) (sq : Nat) (nS : Nat) (i : Nat) (hI : IM a u τ y) (hs0 : τ sq ≠ 0) (hcl : ∀ (f : Nat → Int32) (v : Nat → Option Nat), cl_ a k (ln sq) f v (τ sq) = .inl (k 2, nS, .inl f)) (hsg : g (a 50) 42 = some sq) (hltr : g (a 50) 47 = some (ad i)) (hi_i : i < 13) (hsl : (sL i : Int) ≤ 8) (hbg : 0 ≤ (y (a 50) 43).toInt ∧ (y (a 50) 43).toInt ≤ 1200) (hsz : (y (a 50) 44).toInt ≤ 100) (hft : (y (a 50) 43).toInt + 60 ≤ nS ∨ (y (a 50) 43).toInt + (y (a 50) 44).toInt ≤ nS) (hat : 0 ≤ (y (a 50) 45).toInt ∧ (y (a 50) 45).toInt ≤ 60) (hN : 60 - (y (a 50) 45).toInt < (N : Int)) (hW : IW (u 1) (u 2) (u 9) (y (a 89))), Met l yX12_both wm_g_both ({ frames := 6 * N + 16, cells := 0, slots := 0, locals := 400 * N + 640 }) (pw_ ad av (dC, dI) sz [.ref (a 50), .int p0] a k τ ln y g) (va_Qi (fun (r u : Int32) => u = r) (fun (r : Int32) (t : State) => (∃ (y' : Nat → Nat → Int32), ag τ [60] y y' ∧ IM a u τ y' ∧ (y' (a 50) 43).toInt = (y (a 50) 43).toInt ∧ (y' (a 50) 44).toInt = (y (a 50) 44).toInt ∧ ((y (a 50) 45).toInt ≤ (y' (a 50) 45).toInt ∧ (y' (a 50) 45).toInt ≤ 60) ∧ pk a y y' ∧ tw (dC, dI) a k τ ln y' g t.heap)) (fr τ sz)) 0 0 (fr τ sz)
def St_g_any (N : Nat) : Prop := ∀ (l : Launch) (dC : Nat → ClassId) (dI : Nat → Nat → Nat) (ad av : Nat → Nat) (sz : Nat) (a : Nat → Nat) (k : Nat → ClassId) (τ ln : Nat → Nat) (y : Nat → Nat → Int32) (g : Nat → Nat → Option Nat) (u : Nat → Int) (p0 : Int32) (sq : Nat) (nS : Nat) (i : Nat) (hI : IM a u τ y) (hs0 : τ sq ≠ 0) (hcl : ∀ (f : Nat → Int32) (v : Nat → Option Nat), cl_ a k (ln sq) f v (τ sq) = .inl (k 2, nS, .inl f)) (hsg : g (a 50) 42 = some sq) (hltr : g (a 50) 47 = some (ad i)) (hi_i : i < 13) (hsl : (sL i : Int) ≤ 8) (hbg : 0 ≤ (y (a 50) 43).toInt ∧ (y (a 50) 43).toInt ≤ 1200) (hsz : (y (a 50) 44).toInt ≤ 100) (hft : (y (a 50) 43).toInt + 60 ≤ nS ∨ (y (a 50) 43).toInt + (y (a 50) 44).toInt ≤ nS) (hat : 0 ≤ (y (a 50) 45).toInt ∧ (y (a 50) 45).toInt ≤ 60) (hN : 60 - (y (a 50) 45).toInt < (N : Int)) (hW : IW (u 1) (u 2) (u 9) (y (a 89))), Met l yX12_any wm_g_any ({ frames := 6 * N + 17, cells := 0, slots := 0, locals := 400 * N + 700 }) (pw_ ad av (dC, dI) sz [.ref (a 50), .int p0] a k τ ln y g) (va_Qi (fun (r u : Int32) => u = r) (fun (r : Int32) (t : State) => (∃ (y' : Nat → Nat → Int32), ag τ [60] y y' ∧ IM a u τ y' ∧ (y' (a 50) 43).toInt = (y (a 50) 43).toInt ∧ (y' (a 50) 44).toInt = (y (a 50) 44).toInt ∧ ((y (a 50) 45).toInt ≤ (y' (a 50) 45).toInt ∧ (y' (a 50) 45).toInt ≤ 60) ∧ pk a y y' ∧ tw (dC, dI) a k τ ln y' g t.heap)) (fr τ sz)) 0 0 (fr τ sz)


set_option maxHeartbeats 4000000 in
set_option maxRecDepth 100000 in
theorem g_thing_step (N : Nat) (ih1 : St_g_thing N) (ih2 : St_g_any N) : St_g_thing (N + 1) := by
  intro l dC dI ad av sz a k τ ln y g u p0 sq nS i hI hs0 hcl hsg hltr hi_i hsl hbg hsz hft hat hN hW
  refine Met.ofW (cc := cX12_thing) (maxL := 4) (ret := (some .int)) (by decide) rfl ?_
  intro p e s m args below meth c s₁ B hml hv
  obtain ⟨rfl, hsz, hT, hK, hM⟩ := hv
  have hx := B.exec
  have hb := B.bytes
  have hr := B.returns
  have hts := atoms_spec (ws := wm_g_thing) B.pre
  have hown : s.vm.findClass RX12 = some m.cls := findClass_of_methodNamed B.named
  have hlocks := B.notSynchronized
  subst hsz
  generalize hAe : fr τ s.heap.size = A at hM ⊢
  have hA : ∀ q : Nat, s.heap.size ≤ q → A q := fun q h => by rw [← hAe]; exact Or.inr h
  have hF : ∀ q, τ q ≠ 0 → A q := fun q h => by rw [← hAe]; exact Or.inl h
  have hS : va_S A s.heap s.heap [] := va_S.rf
  have hX := hI.1
  have hR := im_r hI
  have hG : ag τ [60] y y := ag.rf
  have hl := lv_entry ([.ref (a 50), .int p0]) (n := 4) (Nat.le_of_ble_eq_true rfl)
  rw [lg_entry_eq]
  generalize (lg_sl ([.ref (a 50), .int p0]) ++ List.replicate (4 - (lg_sl ([.ref (a 50), .int p0])).length) Slot.unset).toArray = ls at hl ⊢
  have hl : lv_has ls 4 [(0, .ref (a 50)), (1, .int p0)] := hl
  have hPK : pk a y y := pk_rf
  refine lv_aload_n hx hb dX12_thing_0 rfl (lv_at hl 0 rfl) ?_
  refine lv_bipush (v := 33) hx hb dX12_thing_1 (by decide) ?_
  have hFc := tw_free hF hS hA
  have hp_487 : (33 : Int32).toInt = 33 := (zk (x := 33) 33 rfl)
  refine va_calli (va_runV (As := [.int 33]) (rest := []) ⟨hx, hb, hml, hown, hts⟩ (m_comes l dC dI ad av s.heap.size a k τ ln y g u (33 : Int32) sq nS i hI hs0 hcl hsg hltr hi_i hsl (by omega) (by omega) (by omega) (by omega) (by decide) hW) (cwV 1 hts (gi_4 (List.mem_cons_of_mem _ (List.mem_append_left _ (List.mem_of_getElem? (i := 6) rfl))) (List.mem_cons_of_mem _ (List.mem_append_left _ (List.mem_of_getElem? (i := 7) rfl))) (List.mem_cons_of_mem _ (List.mem_append_left _ (List.mem_of_getElem? (i := 8) rfl))) (List.mem_cons_of_mem _ (List.mem_append_left _ (List.mem_of_getElem? (i := 9) rfl))) (fun _ hh => (List.mem_cons_of_mem _ (List.mem_append_right _ (List.mem_append_left _ hh)))) gd_m_comes) rfl rfl rfl (by decide +kernel) ⟨by show 1 + 1 ≤ 6 * (N + 1) + 12; omega, by show 8 + (2 + 11) + (60) ≤ 400 * (N + 1) + 400; omega⟩) ⟨pw_blind, tw_recv hK hT (fx_50 hX) (by decide) cl_e60 rfl, pw_use hT hK hFc hS hM⟩ rfl rfl hl.1 rfl (lv_room (Nat.le_of_ble_eq_true rfl)) dX12_thing_3 ⟨Nat.le_of_ble_eq_true rfl, Nat.le_of_ble_eq_true rfl⟩) hS (fun q _ h => hFc q h) hFc (fun r0 r_488 t H locs ht hvm hw hB hz1 hk1 hS => ?_)
  refine W.widen (k := 0) (n := 0) (Nat.le_of_ble_eq_true rfl) (Nat.le_of_ble_eq_true rfl) ?_
  clear hvm hz1 hk1
  subst hw
  rcases hB with ⟨y_489, hre, hgy_489, hI, hf_490, hf_491, hf_492, hf_493, hf_494, hT⟩ | ⟨y_495, hre, hgy_495, hI, hf_496, hf_497, hf_498, hf_499, hf_500, hT⟩
  · refine lq_top (v := 1) hre ?_
    rw [ht] at hT
    have hG := hG.tr hgy_489 (by decide)
    have hW : IW (u 1) (u 2) (u 9) (y_489 (a 89)) := by rw [hgy_489.at (fx_89 hX) (by decide)]; exact hW
    try simp only [hp_487] at hf_490 hf_491 hf_492 hf_493 hf_494
    clear hp_487
    have hPK := hPK.tr hf_493
    refine lv_if_eq (tgt := 23) hx hb dX12_thing_6 (by decide) (fun c_501 => absurd c_501 (by decide)) (fun c_501 => ?_)
    refine lv_aload_n hx hb dX12_thing_9 rfl (lv_at hl 0 rfl) ?_
    refine lv_iload_n hx hb dX12_thing_10 rfl (lv_at hl 1 rfl) ?_
    have hFc := tw_free hF hS hA
    refine va_calli (va_runV (As := [.int p0]) (rest := []) ⟨hx, hb, hml, hown, hts⟩ (ih1 l dC dI ad av H.size a k τ ln y_489 g u p0 sq nS i hI hs0 hcl hsg hltr hi_i hsl (by omega) (by omega) (by omega) (by omega) (by omega) hW) (cwV 1 hts (gi_4 (List.mem_cons_of_mem _ (List.mem_append_left _ (List.mem_of_getElem? (i := 10) rfl))) (List.mem_cons_of_mem _ (List.mem_append_left _ (List.mem_of_getElem? (i := 11) rfl))) (List.mem_cons_of_mem _ (List.mem_append_left _ (List.mem_of_getElem? (i := 12) rfl))) (List.mem_cons_of_mem _ (List.mem_append_left _ (List.mem_of_getElem? (i := 9) rfl))) (fun _ hh => (List.mem_cons.mp hh).elim (fun ee => by rw [ee]; exact (List.mem_cons_of_mem _ (List.mem_append_left _ (List.mem_of_getElem? (i := 0) rfl)))) (fun h9 => List.mem_cons_of_mem _ h9)) gd_g_thing) rfl rfl rfl (by decide +kernel) ⟨by show 6 * N + 12 + 1 ≤ 6 * (N + 1) + 12; omega, by show 8 + (4 + 11) + (400 * N + 400) ≤ 400 * (N + 1) + 400; omega⟩) ⟨pw_blind, tw_recv hK hT (fx_50 hX) (by decide) cl_e60 rfl, pw_use hT hK hFc hS hM⟩ rfl rfl hl.1 rfl (lv_room (Nat.le_of_ble_eq_true rfl)) dX12_thing_11 ⟨Nat.le_of_ble_eq_true rfl, Nat.le_of_ble_eq_true rfl⟩) hS (fun q _ h => hFc q h) hFc (fun r0 r_502 t H locs ht hvm hw hB hz1 hk1 hS => ?_)
    refine W.widen (k := 0) (n := 0) (Nat.le_of_ble_eq_true rfl) (Nat.le_of_ble_eq_true rfl) ?_
    clear hvm hz1 hk1
    subst hw
    obtain ⟨y_503, hgy_503, hI, hf_504, hf_505, hf_506, hf_507, hT⟩ := hB
    rw [ht] at hT
    have hG := hG.tr hgy_503 (by decide)
    have hW : IW (u 1) (u 2) (u 9) (y_503 (a 89)) := by rw [hgy_503.at (fx_89 hX) (by decide)]; exact hW
    have hPK := hPK.tr hf_507
    refine lv_if_ne (tgt := 21) hx hb dX12_thing_14 (by decide) (fun c_508 => ?_) (fun c_508 => ?_)
    · have nc_508 := z_ne rfl (zk (x := 0) 0 rfl) c_508
      refine lv_iconst (v := 0) hx hb dX12_thing_21 (by decide) ?_
      have hrv : (0 : Int32).toInt = 0 := (zk (x := 0) 0 rfl)
      exact W.iret (v := 0) hx hb hr (fun t ht hW9 => ⟨⟨0, 0, rfl, rfl, ⟨y_503, hG, hI, by omega, by omega, by omega, hPK, tw_at ht hT⟩⟩, hS.F ht⟩) hS.2.2 dX12_thing_22
    · have nc_508 := z_eq rfl (zk (x := 0) 0 rfl) c_508
      refine lv_iconst (v := 1) hx hb dX12_thing_17 (by decide) ?_
      refine lv_goto (tgt := 22) hx hb dX12_thing_18 (by decide) ?_
      have hrv : (1 : Int32).toInt = 1 := (zk (x := 1) 1 rfl)
      exact W.iret (v := 1) hx hb hr (fun t ht hW9 => ⟨⟨1, 1, rfl, rfl, ⟨y_503, hG, hI, by omega, by omega, by omega, hPK, tw_at ht hT⟩⟩, hS.F ht⟩) hS.2.2 dX12_thing_22
  · refine lq_top (v := 0) hre ?_
    rw [ht] at hT
    have hG := hG.tr hgy_495 (by decide)
    have hW : IW (u 1) (u 2) (u 9) (y_495 (a 89)) := by rw [hgy_495.at (fx_89 hX) (by decide)]; exact hW
    try simp only [hp_487] at hf_496 hf_497 hf_498 hf_499 hf_500
    clear hp_487
    have hPK := hPK.tr hf_499
    refine lv_if_eq (tgt := 23) hx hb dX12_thing_6 (by decide) (fun c_509 => ?_) (fun c_509 => absurd c_509 (by decide))
    refine lv_aload_n hx hb dX12_thing_23 rfl (lv_at hl 0 rfl) ?_
    refine lv_bipush (v := 45) hx hb dX12_thing_24 (by decide) ?_
    have hFc := tw_free hF hS hA
    have hp_510 : (45 : Int32).toInt = 45 := (zk (x := 45) 45 rfl)
    refine va_calli (va_runV (As := [.int 45]) (rest := []) ⟨hx, hb, hml, hown, hts⟩ (m_comes l dC dI ad av H.size a k τ ln y_495 g u (45 : Int32) sq nS i hI hs0 hcl hsg hltr hi_i hsl (by omega) (by omega) (by omega) (by omega) (by decide) hW) (cwV 1 hts (gi_4 (List.mem_cons_of_mem _ (List.mem_append_left _ (List.mem_of_getElem? (i := 6) rfl))) (List.mem_cons_of_mem _ (List.mem_append_left _ (List.mem_of_getElem? (i := 7) rfl))) (List.mem_cons_of_mem _ (List.mem_append_left _ (List.mem_of_getElem? (i := 8) rfl))) (List.mem_cons_of_mem _ (List.mem_append_left _ (List.mem_of_getElem? (i := 9) rfl))) (fun _ hh => (List.mem_cons_of_mem _ (List.mem_append_right _ (List.mem_append_left _ hh)))) gd_m_comes) rfl rfl rfl (by decide +kernel) ⟨by show 1 + 1 ≤ 6 * (N + 1) + 12; omega, by show 8 + (2 + 11) + (60) ≤ 400 * (N + 1) + 400; omega⟩) ⟨pw_blind, tw_recv hK hT (fx_50 hX) (by decide) cl_e60 rfl, pw_use hT hK hFc hS hM⟩ rfl rfl hl.1 rfl (lv_room (Nat.le_of_ble_eq_true rfl)) dX12_thing_26 ⟨Nat.le_of_ble_eq_true rfl, Nat.le_of_ble_eq_true rfl⟩) hS (fun q _ h => hFc q h) hFc (fun r0 r_511 t H locs ht hvm hw hB hz1 hk1 hS => ?_)
    refine W.widen (k := 0) (n := 0) (Nat.le_of_ble_eq_true rfl) (Nat.le_of_ble_eq_true rfl) ?_
    clear hvm hz1 hk1
    subst hw
    rcases hB with ⟨y_512, hre, hgy_512, hI, hf_513, hf_514, hf_515, hf_516, hf_517, hT⟩ | ⟨y_518, hre, hgy_518, hI, hf_519, hf_520, hf_521, hf_522, hf_523, hT⟩
    · refine lq_top (v := 1) hre ?_
      rw [ht] at hT
      have hG := hG.tr hgy_512 (by decide)
      have hW : IW (u 1) (u 2) (u 9) (y_512 (a 89)) := by rw [hgy_512.at (fx_89 hX) (by decide)]; exact hW
      try simp only [hp_510] at hf_513 hf_514 hf_515 hf_516 hf_517
      clear hp_510
      have hPK := hPK.tr hf_516
      refine lv_if_eq (tgt := 39) hx hb dX12_thing_29 (by decide) (fun c_524 => absurd c_524 (by decide)) (fun c_524 => ?_)
      refine lv_aload_n hx hb dX12_thing_32 rfl (lv_at hl 0 rfl) ?_
      refine lv_iload_n hx hb dX12_thing_33 rfl (lv_at hl 1 rfl) ?_
      have hFc := tw_free hF hS hA
      refine va_calli (va_runV (As := [.int p0]) (rest := []) ⟨hx, hb, hml, hown, hts⟩ (ih1 l dC dI ad av H.size a k τ ln y_512 g u p0 sq nS i hI hs0 hcl hsg hltr hi_i hsl (by omega) (by omega) (by omega) (by omega) (by omega) hW) (cwV 1 hts (gi_4 (List.mem_cons_of_mem _ (List.mem_append_left _ (List.mem_of_getElem? (i := 10) rfl))) (List.mem_cons_of_mem _ (List.mem_append_left _ (List.mem_of_getElem? (i := 11) rfl))) (List.mem_cons_of_mem _ (List.mem_append_left _ (List.mem_of_getElem? (i := 12) rfl))) (List.mem_cons_of_mem _ (List.mem_append_left _ (List.mem_of_getElem? (i := 9) rfl))) (fun _ hh => (List.mem_cons.mp hh).elim (fun ee => by rw [ee]; exact (List.mem_cons_of_mem _ (List.mem_append_left _ (List.mem_of_getElem? (i := 0) rfl)))) (fun h9 => List.mem_cons_of_mem _ h9)) gd_g_thing) rfl rfl rfl (by decide +kernel) ⟨by show 6 * N + 12 + 1 ≤ 6 * (N + 1) + 12; omega, by show 8 + (4 + 11) + (400 * N + 400) ≤ 400 * (N + 1) + 400; omega⟩) ⟨pw_blind, tw_recv hK hT (fx_50 hX) (by decide) cl_e60 rfl, pw_use hT hK hFc hS hM⟩ rfl rfl hl.1 rfl (lv_room (Nat.le_of_ble_eq_true rfl)) dX12_thing_34 ⟨Nat.le_of_ble_eq_true rfl, Nat.le_of_ble_eq_true rfl⟩) hS (fun q _ h => hFc q h) hFc (fun r0 r_525 t H locs ht hvm hw hB hz1 hk1 hS => ?_)
      refine W.widen (k := 0) (n := 0) (Nat.le_of_ble_eq_true rfl) (Nat.le_of_ble_eq_true rfl) ?_
      clear hvm hz1 hk1
      subst hw
      obtain ⟨y_526, hgy_526, hI, hf_527, hf_528, hf_529, hf_530, hT⟩ := hB
      rw [ht] at hT
      have hG := hG.tr hgy_526 (by decide)
      have hW : IW (u 1) (u 2) (u 9) (y_526 (a 89)) := by rw [hgy_526.at (fx_89 hX) (by decide)]; exact hW
      have hPK := hPK.tr hf_530
      refine lv_ineg hx hb dX12_thing_37 ?_
      refine lv_topi (fun x_531 ex_531 => ?_)
      have hrv : x_531.toInt = x_531.toInt := rfl
      exact W.iret (v := x_531) hx hb hr (fun t ht hW9 => ⟨⟨x_531, x_531, rfl, rfl, ⟨y_526, hG, hI, by omega, by omega, by omega, hPK, tw_at ht hT⟩⟩, hS.F ht⟩) hS.2.2 dX12_thing_38
    · refine lq_top (v := 0) hre ?_
      rw [ht] at hT
      have hG := hG.tr hgy_518 (by decide)
      have hW : IW (u 1) (u 2) (u 9) (y_518 (a 89)) := by rw [hgy_518.at (fx_89 hX) (by decide)]; exact hW
      try simp only [hp_510] at hf_519 hf_520 hf_521 hf_522 hf_523
      clear hp_510
      have hPK := hPK.tr hf_522
      refine lv_if_eq (tgt := 39) hx hb dX12_thing_29 (by decide) (fun c_532 => ?_) (fun c_532 => absurd c_532 (by decide))
      refine lv_aload_n hx hb dX12_thing_39 rfl (lv_at hl 0 rfl) ?_
      have hFc := tw_free hF hS hA
      refine va_calli (va_runV (As := []) (rest := []) ⟨hx, hb, hml, hown, hts⟩ (m_here l dC dI ad av H.size a k τ ln y_518 g u sq nS i hI hs0 hcl hsg hltr hi_i hsl (by omega) (by omega) (by omega) (by omega) hW) (cwV 0 hts (gi_4 (List.mem_cons_of_mem _ (List.mem_append_left _ (List.mem_of_getElem? (i := 13) rfl))) (List.mem_cons_of_mem _ (List.mem_append_left _ (List.mem_of_getElem? (i := 14) rfl))) (List.mem_cons_of_mem _ (List.mem_append_left _ (List.mem_of_getElem? (i := 15) rfl))) (List.mem_cons_of_mem _ (List.mem_append_left _ (List.mem_of_getElem? (i := 9) rfl))) (fun _ hh => (List.mem_cons_of_mem _ (List.mem_append_right _ (List.mem_append_right _ (List.mem_append_left _ hh))))) gd_m_here) rfl rfl rfl (by decide +kernel) ⟨by show 0 + 1 ≤ 6 * (N + 1) + 12; omega, by show 8 + (1 + 11) + (0) ≤ 400 * (N + 1) + 400; omega⟩) ⟨pw_blind, tw_recv hK hT (fx_50 hX) (by decide) cl_e60 rfl, pw_use hT hK hFc hS hM⟩ rfl rfl hl.1 rfl (lv_room (Nat.le_of_ble_eq_true rfl)) dX12_thing_40 ⟨Nat.le_of_ble_eq_true rfl, Nat.le_of_ble_eq_true rfl⟩) hS (fun q _ h => hFc q h) hFc (fun r0 r_533 t H locs ht hvm hw hB hz1 hk1 hS => ?_)
      refine W.widen (k := 0) (n := 0) (Nat.le_of_ble_eq_true rfl) (Nat.le_of_ble_eq_true rfl) ?_
      clear hvm hz1 hk1
      subst hw
      rcases hB with ⟨hre, hT⟩ | ⟨hf_534, hf_535, hf_536, hT⟩
      · refine lq_top (v := (-1)) hre ?_
        rw [ht] at hT
        refine lv_bipush (v := 40) hx hb dX12_thing_43 (by decide) ?_
        refine lv_icmp_ne (tgt := 100) hx hb dX12_thing_45 (by decide) (fun c_537 => ?_) (fun c_537 => absurd c_537 (by decide))
        refine lv_aload_n hx hb dX12_thing_100 rfl (lv_at hl 0 rfl) ?_
        have hFc := tw_free hF hS hA
        refine va_calli (va_runV (As := []) (rest := []) ⟨hx, hb, hml, hown, hts⟩ (m_isDigit l dC dI ad av H.size a k τ ln y_518 g u sq nS i hI hs0 hcl hsg hltr hi_i hsl (by omega) (by omega) (by omega) (by omega) hW) (cwV 0 hts (gi_4 (List.mem_cons_of_mem _ (List.mem_append_left _ (List.mem_of_getElem? (i := 16) rfl))) (List.mem_cons_of_mem _ (List.mem_append_left _ (List.mem_of_getElem? (i := 17) rfl))) (List.mem_cons_of_mem _ (List.mem_append_left _ (List.mem_of_getElem? (i := 18) rfl))) (List.mem_cons_of_mem _ (List.mem_append_left _ (List.mem_of_getElem? (i := 9) rfl))) (fun _ hh => (List.mem_cons_of_mem _ (List.mem_append_right _ (List.mem_append_right _ (List.mem_append_right _ (List.mem_append_left _ hh)))))) gd_m_isDigit) rfl rfl rfl (by decide +kernel) ⟨by show 1 + 1 ≤ 6 * (N + 1) + 12; omega, by show 8 + (1 + 11) + (60) ≤ 400 * (N + 1) + 400; omega⟩) ⟨pw_blind, tw_recv hK hT (fx_50 hX) (by decide) cl_e60 rfl, pw_use hT hK hFc hS hM⟩ rfl rfl hl.1 rfl (lv_room (Nat.le_of_ble_eq_true rfl)) dX12_thing_101 ⟨Nat.le_of_ble_eq_true rfl, Nat.le_of_ble_eq_true rfl⟩) hS (fun q _ h => hFc q h) hFc (fun r0 r_538 t H locs ht hvm hw hB hz1 hk1 hS => ?_)
        refine W.widen (k := 0) (n := 0) (Nat.le_of_ble_eq_true rfl) (Nat.le_of_ble_eq_true rfl) ?_
        clear hvm hz1 hk1
        subst hw
        rcases hB with ⟨hre, hf_539, hT⟩ | ⟨hre, hT⟩
        · refine lq_top (v := 1) hre ?_
          rw [ht] at hT
          refine lv_if_eq (tgt := 154) hx hb dX12_thing_104 (by decide) (fun c_540 => absurd c_540 (by decide)) (fun c_540 => ?_)
          refine lv_iconst (v := 0) hx hb dX12_thing_107 (by decide) ?_
          refine lv_istore_n (lv' := [(2, .int 0), (0, .ref (a 50)), (1, .int p0)]) hx hb dX12_thing_108 rfl hl (by decide) rfl (fun ls hl => ?_)
          refine lv_iconst (v := 0) hx hb dX12_thing_109 (by decide) ?_
          refine lv_istore_n (lv' := [(3, .int 0), (2, .int 0), (0, .ref (a 50)), (1, .int p0)]) hx hb dX12_thing_110 rfl hl (by decide) rfl (fun ls hl => ?_)
          have loop_111 : ∀ (n : Nat) (w2 : Int32) (i3 : Int32) (y_L111 : Nat → Nat → Int32) (H : Heap) (locs : List Loc) (ls : Array Slot), (4 - i3.toInt).toNat < n → ag τ [60] y y_L111 → IM a u τ y_L111 → IW (u 1) (u 2) (u 9) (y_L111 (a 89)) → pk a y y_L111 → 0 ≤ i3.toInt → i3.toInt ≤ 4 → (y_L111 (a 50) 43).toInt = (y (a 50) 43).toInt → (y_L111 (a 50) 44).toInt = (y (a 50) 44).toInt → (y (a 50) 45).toInt ≤ (y_L111 (a 50) 45).toInt ∧ (y_L111 (a 50) 45).toInt ≤ 60 → tw (dC, dI) a k τ ln y_L111 g H → va_S A s.heap H locs → lv_has ls 4 [(0, .ref (a 50)), (1, .int p0), (2, .int w2), (3, .int i3)] → W p l e (headSpec wm_g_thing ({ frames := 6 * (N + 1) + 12, cells := 0, slots := 0, locals := 400 * (N + 1) + 400 })).room s m ([.ref (a 50), .int p0] : List Value).toArray below meth c H locs 0 0 (MQ below (va_Qi (fun (r u : Int32) => u = r) (fun (r : Int32) (t : State) => (∃ (y' : Nat → Nat → Int32), ag τ [60] y y' ∧ IM a u τ y' ∧ (y' (a 50) 43).toInt = (y (a 50) 43).toInt ∧ (y' (a 50) 44).toInt = (y (a 50) 44).toInt ∧ ((y (a 50) 45).toInt ≤ (y' (a 50) 45).toInt ∧ (y' (a 50) 45).toInt ≤ 60) ∧ pk a y y' ∧ tw (dC, dI) a k τ ln y' g t.heap)) A) ([.ref (a 50), .int p0] : List Value).toArray s 0 0 A) (F0 m 111 ls []) := by
            intro n
            induction n with
            | zero => intro w2 i3 y_L111 H locs ls hlt; exact absurd hlt (Nat.not_lt_zero _)
            | succ n ih_111 =>
              intro w2 i3 y_L111 H locs ls hlt hG hI hW hPK hi111_0 hi111_1 hi111_2 hi111_3 hi111_4 hT hS hl
              refine lv_iload_n hx hb dX12_thing_111 rfl (lv_at hl 3 rfl) ?_
              refine lv_iconst (v := 4) hx hb dX12_thing_112 (by decide) ?_
              refine lv_icmp_ge (tgt := 152) hx hb dX12_thing_113 (by decide) (fun c_541 => ?_) (fun c_541 => ?_)
              · have nc_541 := z_le (zk (x := 4) 4 rfl) rfl c_541
                refine lv_iload_n hx hb dX12_thing_152 rfl (lv_at hl 2 rfl) ?_
                have hrv : w2.toInt = w2.toInt := rfl
                exact W.iret (v := w2) hx hb hr (fun t ht hW9 => ⟨⟨w2, w2, rfl, rfl, ⟨y_L111, hG, hI, by omega, by omega, by omega, hPK, tw_at ht hT⟩⟩, hS.F ht⟩) hS.2.2 dX12_thing_153
              · have nc_541 := z_nle (zk (x := 4) 4 rfl) rfl c_541
                refine lv_aload_n hx hb dX12_thing_116 rfl (lv_at hl 0 rfl) ?_
                have hFc := tw_free hF hS hA
                refine va_calli (va_runV (As := []) (rest := []) ⟨hx, hb, hml, hown, hts⟩ (m_isDigit l dC dI ad av H.size a k τ ln y_L111 g u sq nS i hI hs0 hcl hsg hltr hi_i hsl (by omega) (by omega) (by omega) (by omega) hW) (cwV 0 hts (gi_4 (List.mem_cons_of_mem _ (List.mem_append_left _ (List.mem_of_getElem? (i := 16) rfl))) (List.mem_cons_of_mem _ (List.mem_append_left _ (List.mem_of_getElem? (i := 17) rfl))) (List.mem_cons_of_mem _ (List.mem_append_left _ (List.mem_of_getElem? (i := 18) rfl))) (List.mem_cons_of_mem _ (List.mem_append_left _ (List.mem_of_getElem? (i := 9) rfl))) (fun _ hh => (List.mem_cons_of_mem _ (List.mem_append_right _ (List.mem_append_right _ (List.mem_append_right _ (List.mem_append_left _ hh)))))) gd_m_isDigit) rfl rfl rfl (by decide +kernel) ⟨by show 1 + 1 ≤ 6 * (N + 1) + 12; omega, by show 8 + (1 + 11) + (60) ≤ 400 * (N + 1) + 400; omega⟩) ⟨pw_blind, tw_recv hK hT (fx_50 hX) (by decide) cl_e60 rfl, pw_use hT hK hFc hS hM⟩ rfl rfl hl.1 rfl (lv_room (Nat.le_of_ble_eq_true rfl)) dX12_thing_117 ⟨Nat.le_of_ble_eq_true rfl, Nat.le_of_ble_eq_true rfl⟩) hS (fun q _ h => hFc q h) hFc (fun r0 r_542 t H locs ht hvm hw hB hz1 hk1 hS => ?_)
                refine W.widen (k := 0) (n := 0) (Nat.le_of_ble_eq_true rfl) (Nat.le_of_ble_eq_true rfl) ?_
                clear hvm hz1 hk1
                subst hw
                rcases hB with ⟨hre, hf_543, hT⟩ | ⟨hre, hT⟩
                · refine lq_top (v := 1) hre ?_
                  rw [ht] at hT
                  refine lv_if_eq (tgt := 152) hx hb dX12_thing_120 (by decide) (fun c_544 => absurd c_544 (by decide)) (fun c_544 => ?_)
                  refine lv_bipush (v := 10) hx hb dX12_thing_123 (by decide) ?_
                  refine lv_iload_n hx hb dX12_thing_125 rfl (lv_at hl 2 rfl) ?_
                  refine lv_imul hx hb dX12_thing_126 ?_
                  refine lv_topi (fun x_545 ex_545 => ?_)
                  refine lv_aload_n hx hb dX12_thing_127 rfl (lv_at hl 0 rfl) ?_
                  have hFc := tw_free hF hS hA
                  refine va_calli (va_runV (As := []) (rest := [.int x_545]) ⟨hx, hb, hml, hown, hts⟩ (m_here l dC dI ad av H.size a k τ ln y_L111 g u sq nS i hI hs0 hcl hsg hltr hi_i hsl (by omega) (by omega) (by omega) (by omega) hW) (cwV 0 hts (gi_4 (List.mem_cons_of_mem _ (List.mem_append_left _ (List.mem_of_getElem? (i := 13) rfl))) (List.mem_cons_of_mem _ (List.mem_append_left _ (List.mem_of_getElem? (i := 14) rfl))) (List.mem_cons_of_mem _ (List.mem_append_left _ (List.mem_of_getElem? (i := 15) rfl))) (List.mem_cons_of_mem _ (List.mem_append_left _ (List.mem_of_getElem? (i := 9) rfl))) (fun _ hh => (List.mem_cons_of_mem _ (List.mem_append_right _ (List.mem_append_right _ (List.mem_append_left _ hh))))) gd_m_here) rfl rfl rfl (by decide +kernel) ⟨by show 0 + 1 ≤ 6 * (N + 1) + 12; omega, by show 8 + (1 + 11) + (0) ≤ 400 * (N + 1) + 400; omega⟩) ⟨pw_blind, tw_recv hK hT (fx_50 hX) (by decide) cl_e60 rfl, pw_use hT hK hFc hS hM⟩ rfl rfl hl.1 rfl (lv_room (Nat.le_of_ble_eq_true rfl)) dX12_thing_128 ⟨Nat.le_of_ble_eq_true rfl, Nat.le_of_ble_eq_true rfl⟩) hS (fun q _ h => hFc q h) hFc (fun r0 r_546 t H locs ht hvm hw hB hz1 hk1 hS => ?_)
                  refine W.widen (k := 0) (n := 0) (Nat.le_of_ble_eq_true rfl) (Nat.le_of_ble_eq_true rfl) ?_
                  clear hvm hz1 hk1
                  subst hw
                  rcases hB with ⟨hre, hT⟩ | ⟨hf_547, hf_548, hf_549, hT⟩
                  · refine lq_top (v := (-1)) hre ?_
                    rw [ht] at hT
                    refine lv_iadd hx hb dX12_thing_131 ?_
                    refine lv_topi (fun x_550 ex_550 => ?_)
                    refine lv_bipush (v := 48) hx hb dX12_thing_132 (by decide) ?_
                    refine lv_isub hx hb dX12_thing_134 ?_
                    refine lv_topi (fun x_551 ex_551 => ?_)
                    refine lv_istore_n (lv' := [(2, .int x_551), (0, .ref (a 50)), (1, .int p0), (3, .int i3)]) hx hb dX12_thing_135 rfl hl (by decide) rfl (fun ls hl => ?_)
                    refine lv_aload_n hx hb dX12_thing_136 rfl (lv_at hl 1 rfl) ?_
                    refine lv_dup hx hb dX12_thing_137 rfl ?_
                    refine tw_get (D := (dC, dI)) (v := .int (y_L111 (a 50) 45)) (C := RX12) (T := TX12) (N := 58) hx hb hts (fun _ hh => (List.mem_cons_of_mem _ (List.mem_append_right _ (List.mem_append_right _ (List.mem_append_right _ (List.mem_append_right _ (List.mem_append_left _ hh))))))) hown hK hT (fx_50 hX) (by decide) cl_e60 rfl 45 (by decide) (hts (.fieldLink RX12 197 "TypingPoolModel" "at" "I") (List.mem_cons_of_mem _ (List.mem_append_left _ (List.mem_of_getElem? (i := 19) rfl)))) (fun _ h9 => h9) rfl dX12_thing_138 ?_
                    refine lv_iconst (v := 1) hx hb dX12_thing_141 (by decide) ?_
                    refine lv_iadd hx hb dX12_thing_142 ?_
                    refine lv_topi (fun x_552 ex_552 => ?_)
                    have hx_552 := z_add ex_552 rfl (zk (x := 1) 1 rfl) (by omega) (by omega)
                    refine tw_put (D := (dC, dI)) (x := x_552) (ty := .int) (C := RX12) (T := TX12) (N := 58) hx hb hts (fun _ hh => (List.mem_cons_of_mem _ (List.mem_append_right _ (List.mem_append_right _ (List.mem_append_right _ (List.mem_append_right _ (List.mem_append_left _ hh))))))) tyX12 tyX12_ok nmX12 hown hK hT hF hS (fx_50 hX) (by decide) cl_e60 rfl 45 (by decide) (hts (.fieldLink RX12 197 "TypingPoolModel" "at" "I") (List.mem_cons_of_mem _ (List.mem_append_left _ (List.mem_of_getElem? (i := 19) rfl)))) (fun _ h9 => h9) rfl (tyX12_ok 45 (by decide)) rfl rfl (Nat.le_of_ble_eq_true rfl) rfl dX12_thing_143 (fun H locs hT hS => ?_)
                    obtain ⟨y_553, hy_553, hT⟩ : ∃ z : Nat → Nat → Int32, z = up2 y_L111 (a 50) 45 x_552 ∧ tw (dC, dI) a k τ ln z g H := ⟨_, rfl, hT⟩
                    have hG : ag τ [60] y y_553 := by rw [hy_553]; exact hG.up (fx_50 hX) (by decide)
                    have : (y_553 (a 50) 43).toInt = (y_L111 (a 50) 43).toInt := by rw [hy_553, up2_e (by decide)]
                    have : (y_553 (a 50) 44).toInt = (y_L111 (a 50) 44).toInt := by rw [hy_553, up2_e (by decide)]
                    have : (y_553 (a 50) 45).toInt = x_552.toInt := (congrArg Int32.toInt (show y_553 (a 50) 45 = x_552 from by rw [hy_553]; exact up2_i)).trans rfl
                    have hPK : pk a y y_553 := by rw [hy_553]; exact hPK.up (by decide)
                    have hW : IW (u 1) (u 2) (u 9) (y_553 (a 89)) := by rw [hy_553, up2_o (kd_ne (fx_89 hX) (fx_50 hX) (by decide))]; exact hW
                    have hI := hI.put (f := 45) (x := x_552) (by decide)
                    rw [← hy_553] at hI
                    obtain ⟨x_554, ex_554⟩ : ∃ y : Int32, y = i3 + Int32.ofInt 1 := ⟨_, rfl⟩
                    have hx_554 := z_add ex_554 rfl (zk (x := Int32.ofInt 1) 1 rfl) (by omega) (by omega)
                    refine lv_iinc (v := x_554) (lv' := [(3, .int x_554), (2, .int x_551), (0, .ref (a 50)), (1, .int p0)]) hx hb dX12_thing_146 hl (k := 3) rfl ex_554.symm (by decide) rfl (fun ls hl => ?_)
                    refine lv_goto (tgt := 111) hx hb dX12_thing_149 (by decide) ?_
                    exact ih_111  x_551 x_554 y_553 H _ ls (by omega) hG hI hW hPK (by omega) (by omega) (by omega) (by omega) (by omega) hT hS (lv_sub hl [2, 3, 1, 0] rfl)
                  · rw [ht] at hT
                    refine lv_iadd hx hb dX12_thing_131 ?_
                    refine lv_topi (fun x_555 ex_555 => ?_)
                    refine lv_bipush (v := 48) hx hb dX12_thing_132 (by decide) ?_
                    refine lv_isub hx hb dX12_thing_134 ?_
                    refine lv_topi (fun x_556 ex_556 => ?_)
                    refine lv_istore_n (lv' := [(2, .int x_556), (0, .ref (a 50)), (1, .int p0), (3, .int i3)]) hx hb dX12_thing_135 rfl hl (by decide) rfl (fun ls hl => ?_)
                    refine lv_aload_n hx hb dX12_thing_136 rfl (lv_at hl 1 rfl) ?_
                    refine lv_dup hx hb dX12_thing_137 rfl ?_
                    refine tw_get (D := (dC, dI)) (v := .int (y_L111 (a 50) 45)) (C := RX12) (T := TX12) (N := 58) hx hb hts (fun _ hh => (List.mem_cons_of_mem _ (List.mem_append_right _ (List.mem_append_right _ (List.mem_append_right _ (List.mem_append_right _ (List.mem_append_left _ hh))))))) hown hK hT (fx_50 hX) (by decide) cl_e60 rfl 45 (by decide) (hts (.fieldLink RX12 197 "TypingPoolModel" "at" "I") (List.mem_cons_of_mem _ (List.mem_append_left _ (List.mem_of_getElem? (i := 19) rfl)))) (fun _ h9 => h9) rfl dX12_thing_138 ?_
                    refine lv_iconst (v := 1) hx hb dX12_thing_141 (by decide) ?_
                    refine lv_iadd hx hb dX12_thing_142 ?_
                    refine lv_topi (fun x_557 ex_557 => ?_)
                    have hx_557 := z_add ex_557 rfl (zk (x := 1) 1 rfl) (by omega) (by omega)
                    refine tw_put (D := (dC, dI)) (x := x_557) (ty := .int) (C := RX12) (T := TX12) (N := 58) hx hb hts (fun _ hh => (List.mem_cons_of_mem _ (List.mem_append_right _ (List.mem_append_right _ (List.mem_append_right _ (List.mem_append_right _ (List.mem_append_left _ hh))))))) tyX12 tyX12_ok nmX12 hown hK hT hF hS (fx_50 hX) (by decide) cl_e60 rfl 45 (by decide) (hts (.fieldLink RX12 197 "TypingPoolModel" "at" "I") (List.mem_cons_of_mem _ (List.mem_append_left _ (List.mem_of_getElem? (i := 19) rfl)))) (fun _ h9 => h9) rfl (tyX12_ok 45 (by decide)) rfl rfl (Nat.le_of_ble_eq_true rfl) rfl dX12_thing_143 (fun H locs hT hS => ?_)
                    obtain ⟨y_558, hy_558, hT⟩ : ∃ z : Nat → Nat → Int32, z = up2 y_L111 (a 50) 45 x_557 ∧ tw (dC, dI) a k τ ln z g H := ⟨_, rfl, hT⟩
                    have hG : ag τ [60] y y_558 := by rw [hy_558]; exact hG.up (fx_50 hX) (by decide)
                    have : (y_558 (a 50) 43).toInt = (y_L111 (a 50) 43).toInt := by rw [hy_558, up2_e (by decide)]
                    have : (y_558 (a 50) 44).toInt = (y_L111 (a 50) 44).toInt := by rw [hy_558, up2_e (by decide)]
                    have : (y_558 (a 50) 45).toInt = x_557.toInt := (congrArg Int32.toInt (show y_558 (a 50) 45 = x_557 from by rw [hy_558]; exact up2_i)).trans rfl
                    have hPK : pk a y y_558 := by rw [hy_558]; exact hPK.up (by decide)
                    have hW : IW (u 1) (u 2) (u 9) (y_558 (a 89)) := by rw [hy_558, up2_o (kd_ne (fx_89 hX) (fx_50 hX) (by decide))]; exact hW
                    have hI := hI.put (f := 45) (x := x_557) (by decide)
                    rw [← hy_558] at hI
                    obtain ⟨x_559, ex_559⟩ : ∃ y : Int32, y = i3 + Int32.ofInt 1 := ⟨_, rfl⟩
                    have hx_559 := z_add ex_559 rfl (zk (x := Int32.ofInt 1) 1 rfl) (by omega) (by omega)
                    refine lv_iinc (v := x_559) (lv' := [(3, .int x_559), (2, .int x_556), (0, .ref (a 50)), (1, .int p0)]) hx hb dX12_thing_146 hl (k := 3) rfl ex_559.symm (by decide) rfl (fun ls hl => ?_)
                    refine lv_goto (tgt := 111) hx hb dX12_thing_149 (by decide) ?_
                    exact ih_111  x_556 x_559 y_558 H _ ls (by omega) hG hI hW hPK (by omega) (by omega) (by omega) (by omega) (by omega) hT hS (lv_sub hl [2, 3, 1, 0] rfl)
                · refine lq_top (v := 0) hre ?_
                  rw [ht] at hT
                  refine lv_if_eq (tgt := 152) hx hb dX12_thing_120 (by decide) (fun c_560 => ?_) (fun c_560 => absurd c_560 (by decide))
                  refine lv_iload_n hx hb dX12_thing_152 rfl (lv_at hl 2 rfl) ?_
                  have hrv : w2.toInt = w2.toInt := rfl
                  exact W.iret (v := w2) hx hb hr (fun t ht hW9 => ⟨⟨w2, w2, rfl, rfl, ⟨y_L111, hG, hI, by omega, by omega, by omega, hPK, tw_at ht hT⟩⟩, hS.F ht⟩) hS.2.2 dX12_thing_153
          have hp_561 : (0 : Int32).toInt = 0 := (zk (x := 0) 0 rfl)
          have hp_562 : (0 : Int32).toInt = 0 := (zk (x := 0) 0 rfl)
          exact loop_111 _ (0 : Int32) (0 : Int32) y_518 H _ ls (Nat.lt_succ_self _) hG hI hW hPK (by omega) (by omega) (by omega) (by omega) (by omega) hT hS (lv_sub hl [2, 3, 1, 0] rfl)
        · refine lq_top (v := 0) hre ?_
          rw [ht] at hT
          refine lv_if_eq (tgt := 154) hx hb dX12_thing_104 (by decide) (fun c_563 => ?_) (fun c_563 => absurd c_563 (by decide))
          refine lv_aload_n hx hb dX12_thing_154 rfl (lv_at hl 0 rfl) ?_
          have hFc := tw_free hF hS hA
          refine va_calli (va_runV (As := []) (rest := []) ⟨hx, hb, hml, hown, hts⟩ (m_here l dC dI ad av H.size a k τ ln y_518 g u sq nS i hI hs0 hcl hsg hltr hi_i hsl (by omega) (by omega) (by omega) (by omega) hW) (cwV 0 hts (gi_4 (List.mem_cons_of_mem _ (List.mem_append_left _ (List.mem_of_getElem? (i := 13) rfl))) (List.mem_cons_of_mem _ (List.mem_append_left _ (List.mem_of_getElem? (i := 14) rfl))) (List.mem_cons_of_mem _ (List.mem_append_left _ (List.mem_of_getElem? (i := 15) rfl))) (List.mem_cons_of_mem _ (List.mem_append_left _ (List.mem_of_getElem? (i := 9) rfl))) (fun _ hh => (List.mem_cons_of_mem _ (List.mem_append_right _ (List.mem_append_right _ (List.mem_append_left _ hh))))) gd_m_here) rfl rfl rfl (by decide +kernel) ⟨by show 0 + 1 ≤ 6 * (N + 1) + 12; omega, by show 8 + (1 + 11) + (0) ≤ 400 * (N + 1) + 400; omega⟩) ⟨pw_blind, tw_recv hK hT (fx_50 hX) (by decide) cl_e60 rfl, pw_use hT hK hFc hS hM⟩ rfl rfl hl.1 rfl (lv_room (Nat.le_of_ble_eq_true rfl)) dX12_thing_155 ⟨Nat.le_of_ble_eq_true rfl, Nat.le_of_ble_eq_true rfl⟩) hS (fun q _ h => hFc q h) hFc (fun r0 r_564 t H locs ht hvm hw hB hz1 hk1 hS => ?_)
          refine W.widen (k := 0) (n := 0) (Nat.le_of_ble_eq_true rfl) (Nat.le_of_ble_eq_true rfl) ?_
          clear hvm hz1 hk1
          subst hw
          rcases hB with ⟨hre, hT⟩ | ⟨hf_565, hf_566, hf_567, hT⟩
          · refine lq_top (v := (-1)) hre ?_
            rw [ht] at hT
            refine lv_iconst (v := (-1)) hx hb dX12_thing_158 (by decide) ?_
            refine lv_icmp_ne (tgt := 166) hx hb dX12_thing_159 (by decide) (fun c_568 => absurd c_568 (by decide)) (fun c_568 => ?_)
            refine lv_iconst (v := (-1)) hx hb dX12_thing_162 (by decide) ?_
            refine lv_goto (tgt := 178) hx hb dX12_thing_163 (by decide) ?_
            refine lv_istore_n (lv' := [(2, .int (-1)), (0, .ref (a 50)), (1, .int p0)]) hx hb dX12_thing_178 rfl hl (by decide) rfl (fun ls hl => ?_)
            refine lv_iload_n hx hb dX12_thing_179 rfl (lv_at hl 0 rfl) ?_
            refine lv_if_ge (tgt := 188) hx hb dX12_thing_180 (by decide) (fun c_569 => absurd c_569 (by decide)) (fun c_569 => ?_)
            refine lv_aload_n hx hb dX12_thing_183 rfl (lv_at hl 1 rfl) ?_
            have hFc := tw_free hF hS hA
            refine va_calli (va_runV (As := []) (rest := []) ⟨hx, hb, hml, hown, hts⟩ (m_isWrong l dC dI ad av H.size a k τ ln y_518 g u  hI hW) (cwV 0 hts (gi_4 (List.mem_cons_of_mem _ (List.mem_append_left _ (List.mem_of_getElem? (i := 20) rfl))) (List.mem_cons_of_mem _ (List.mem_append_left _ (List.mem_of_getElem? (i := 21) rfl))) (List.mem_cons_of_mem _ (List.mem_append_left _ (List.mem_of_getElem? (i := 22) rfl))) (List.mem_cons_of_mem _ (List.mem_append_left _ (List.mem_of_getElem? (i := 9) rfl))) (fun _ hh => (List.mem_cons_of_mem _ (List.mem_append_right _ (List.mem_append_right _ (List.mem_append_right _ (List.mem_append_right _ (List.mem_append_right _ (List.mem_append_left _ hh)))))))) gd_m_isWrong) rfl rfl rfl (by decide +kernel) ⟨by show 0 + 1 ≤ 6 * (N + 1) + 12; omega, by show 8 + (1 + 11) + (0) ≤ 400 * (N + 1) + 400; omega⟩) ⟨pw_blind, tw_recv hK hT (fx_50 hX) (by decide) cl_e60 rfl, pw_use hT hK hFc hS hM⟩ rfl rfl hl.1 rfl (lv_room (Nat.le_of_ble_eq_true rfl)) dX12_thing_184 ⟨Nat.le_of_ble_eq_true rfl, Nat.le_of_ble_eq_true rfl⟩) hS (fun q _ h => hFc q h) hFc (fun r0 r_570 t H locs ht hvm hw hB hz1 hk1 hS => ?_)
            refine W.widen (k := 0) (n := 0) (Nat.le_of_ble_eq_true rfl) (Nat.le_of_ble_eq_true rfl) ?_
            clear hvm hz1 hk1
            subst hw
            obtain ⟨y_571, hgy_571, hI, hf_572, hf_573, hf_574, hf_575, hT⟩ := hB
            rw [ht] at hT
            have hG := hG.tr hgy_571 (by decide)
            have hW : IW (u 1) (u 2) (u 9) (y_571 (a 89)) := by rw [hgy_571.at (fx_89 hX) (by decide)]; exact hW
            have hPK := hPK.tr hf_575
            have hrv : r_570.toInt = r_570.toInt := rfl
            exact W.iret (v := r_570) hx hb hr (fun t ht hW9 => ⟨⟨r_570, r_570, rfl, rfl, ⟨y_571, hG, hI, by omega, by omega, by omega, hPK, tw_at ht hT⟩⟩, hS.F ht⟩) hS.2.2 dX12_thing_187
          · rw [ht] at hT
            refine lv_iconst (v := (-1)) hx hb dX12_thing_158 (by decide) ?_
            refine lv_icmp_ne (tgt := 166) hx hb dX12_thing_159 (by decide) (fun c_576 => ?_) (fun c_576 => ?_)
            · have nc_576 := z_ne rfl (zk (x := (-1)) (-1) rfl) c_576
              refine lv_aload_n hx hb dX12_thing_166 rfl (lv_at hl 0 rfl) ?_
              refine tw_get (D := (dC, dI)) (v := va_rf (g (a 50) 47)) (C := RX12) (T := TX12) (N := 58) hx hb hts (fun _ hh => (List.mem_cons_of_mem _ (List.mem_append_right _ (List.mem_append_right _ (List.mem_append_right _ (List.mem_append_right _ (List.mem_append_left _ hh))))))) hown hK hT (fx_50 hX) (by decide) cl_e60 rfl 47 (by decide) (hts (.fieldLink RX12 207 "TypingPoolModel" "letters" "Ljava/lang/String;") (List.mem_cons_of_mem _ (List.mem_append_left _ (List.mem_of_getElem? (i := 23) rfl)))) (fun _ h9 => h9) rfl dX12_thing_167 ?_
              refine lq_topr hltr ?_
              refine lv_aload_n hx hb dX12_thing_170 rfl (lv_at hl 0 rfl) ?_
              have hFc := tw_free hF hS hA
              refine va_calli (va_runV (As := []) (rest := [.ref (ad i)]) ⟨hx, hb, hml, hown, hts⟩ (m_here l dC dI ad av H.size a k τ ln y_518 g u sq nS i hI hs0 hcl hsg hltr hi_i hsl (by omega) (by omega) (by omega) (by omega) hW) (cwV 0 hts (gi_4 (List.mem_cons_of_mem _ (List.mem_append_left _ (List.mem_of_getElem? (i := 13) rfl))) (List.mem_cons_of_mem _ (List.mem_append_left _ (List.mem_of_getElem? (i := 14) rfl))) (List.mem_cons_of_mem _ (List.mem_append_left _ (List.mem_of_getElem? (i := 15) rfl))) (List.mem_cons_of_mem _ (List.mem_append_left _ (List.mem_of_getElem? (i := 9) rfl))) (fun _ hh => (List.mem_cons_of_mem _ (List.mem_append_right _ (List.mem_append_right _ (List.mem_append_left _ hh))))) gd_m_here) rfl rfl rfl (by decide +kernel) ⟨by show 0 + 1 ≤ 6 * (N + 1) + 12; omega, by show 8 + (1 + 11) + (0) ≤ 400 * (N + 1) + 400; omega⟩) ⟨pw_blind, tw_recv hK hT (fx_50 hX) (by decide) cl_e60 rfl, pw_use hT hK hFc hS hM⟩ rfl rfl hl.1 rfl (lv_room (Nat.le_of_ble_eq_true rfl)) dX12_thing_171 ⟨Nat.le_of_ble_eq_true rfl, Nat.le_of_ble_eq_true rfl⟩) hS (fun q _ h => hFc q h) hFc (fun r0 r_577 t H locs ht hvm hw hB hz1 hk1 hS => ?_)
              refine W.widen (k := 0) (n := 0) (Nat.le_of_ble_eq_true rfl) (Nat.le_of_ble_eq_true rfl) ?_
              clear hvm hz1 hk1
              subst hw
              rcases hB with ⟨hre, hT⟩ | ⟨hf_578, hf_579, hf_580, hT⟩
              · refine lq_top (v := (-1)) hre ?_
                rw [ht] at hT
                refine lv_i2c hx hb dX12_thing_174 rfl ?_
                refine lv_topi (fun x_581 ex_581 => ?_)
                have hFe := em_F hS hA
                refine va_calli (va_runV (As := [.int x_581]) (rest := []) ⟨hx, hb, hml, hown, hts⟩ (j_indexOf1 l dC dI ad av H.size i x_581 hi_i) (cwV 1 hts (gi_4 (List.mem_cons_of_mem _ (List.mem_append_left _ (List.mem_of_getElem? (i := 24) rfl))) (List.mem_cons_of_mem _ (List.mem_append_left _ (List.mem_of_getElem? (i := 25) rfl))) (List.mem_cons_of_mem _ (List.mem_append_left _ (List.mem_of_getElem? (i := 26) rfl))) (List.mem_cons_of_mem _ (List.mem_append_left _ (List.mem_of_getElem? (i := 27) rfl))) (fun _ hh => (List.mem_cons_of_mem _ (List.mem_append_right _ (List.mem_append_right _ (List.mem_append_right _ (List.mem_append_right _ (List.mem_append_right _ (List.mem_append_right _ (List.mem_append_left _ hh))))))))) gd_j_indexOf1) rfl rfl rfl (by decide +kernel) ⟨Nat.le_of_ble_eq_true rfl, Nat.le_of_ble_eq_true rfl⟩) ⟨pr_blind, st_recv (st_at hM i hi_i) hS, pr_use em_P (hK.sub [] rfl) em_D hFe hS hM⟩ rfl rfl hl.1 rfl (lv_room (Nat.le_of_ble_eq_true rfl)) dX12_thing_175 ⟨Nat.le_of_ble_eq_true rfl, Nat.le_of_ble_eq_true rfl⟩) hS (fun q _ h => hFe q h) hFe (fun r0 r_582 t H locs ht hvm hw hB hz1 hk1 hS => ?_)
                subst hw
                have hT := em_T hT hk1
                obtain ⟨r_5829, hre, hbr_582, -⟩ := hB
                refine lq_top hre ?_
                refine lv_istore_n (lv' := [(2, .int r_5829), (0, .ref (a 50)), (1, .int p0)]) hx hb dX12_thing_178 rfl hl (by decide) rfl (fun ls hl => ?_)
                refine lv_iload_n hx hb dX12_thing_179 rfl (lv_at hl 0 rfl) ?_
                refine lv_if_ge (tgt := 188) hx hb dX12_thing_180 (by decide) (fun c_583 => ?_) (fun c_583 => ?_)
                · have nc_583 := z_le (zk (x := 0) 0 rfl) rfl c_583
                  refine lv_aload_n hx hb dX12_thing_188 rfl (lv_at hl 1 rfl) ?_
                  refine lv_dup hx hb dX12_thing_189 rfl ?_
                  refine tw_get (D := (dC, dI)) (v := .int (y_518 (a 50) 45)) (C := RX12) (T := TX12) (N := 58) hx hb hts (fun _ hh => (List.mem_cons_of_mem _ (List.mem_append_right _ (List.mem_append_right _ (List.mem_append_right _ (List.mem_append_right _ (List.mem_append_left _ hh))))))) hown hK hT (fx_50 hX) (by decide) cl_e60 rfl 45 (by decide) (hts (.fieldLink RX12 197 "TypingPoolModel" "at" "I") (List.mem_cons_of_mem _ (List.mem_append_left _ (List.mem_of_getElem? (i := 19) rfl)))) (fun _ h9 => h9) rfl dX12_thing_190 ?_
                  refine lv_iconst (v := 1) hx hb dX12_thing_193 (by decide) ?_
                  refine lv_iadd hx hb dX12_thing_194 ?_
                  refine lv_topi (fun x_584 ex_584 => ?_)
                  have hx_584 := z_add ex_584 rfl (zk (x := 1) 1 rfl) (by omega) (by omega)
                  refine tw_put (D := (dC, dI)) (x := x_584) (ty := .int) (C := RX12) (T := TX12) (N := 58) hx hb hts (fun _ hh => (List.mem_cons_of_mem _ (List.mem_append_right _ (List.mem_append_right _ (List.mem_append_right _ (List.mem_append_right _ (List.mem_append_left _ hh))))))) tyX12 tyX12_ok nmX12 hown hK hT hF hS (fx_50 hX) (by decide) cl_e60 rfl 45 (by decide) (hts (.fieldLink RX12 197 "TypingPoolModel" "at" "I") (List.mem_cons_of_mem _ (List.mem_append_left _ (List.mem_of_getElem? (i := 19) rfl)))) (fun _ h9 => h9) rfl (tyX12_ok 45 (by decide)) rfl rfl (Nat.le_of_ble_eq_true rfl) rfl dX12_thing_195 (fun H locs hT hS => ?_)
                  obtain ⟨y_585, hy_585, hT⟩ : ∃ z : Nat → Nat → Int32, z = up2 y_518 (a 50) 45 x_584 ∧ tw (dC, dI) a k τ ln z g H := ⟨_, rfl, hT⟩
                  have hG : ag τ [60] y y_585 := by rw [hy_585]; exact hG.up (fx_50 hX) (by decide)
                  have : (y_585 (a 50) 43).toInt = (y_518 (a 50) 43).toInt := by rw [hy_585, up2_e (by decide)]
                  have : (y_585 (a 50) 44).toInt = (y_518 (a 50) 44).toInt := by rw [hy_585, up2_e (by decide)]
                  have : (y_585 (a 50) 45).toInt = x_584.toInt := (congrArg Int32.toInt (show y_585 (a 50) 45 = x_584 from by rw [hy_585]; exact up2_i)).trans rfl
                  have hPK : pk a y y_585 := by rw [hy_585]; exact hPK.up (by decide)
                  have hW : IW (u 1) (u 2) (u 9) (y_585 (a 89)) := by rw [hy_585, up2_o (kd_ne (fx_89 hX) (fx_50 hX) (by decide))]; exact hW
                  have hI := hI.put (f := 45) (x := x_584) (by decide)
                  rw [← hy_585] at hI
                  refine lv_aload_n hx hb dX12_thing_198 rfl (lv_at hl 1 rfl) ?_
                  refine tw_get (D := (dC, dI)) (v := .ref (a 92)) (C := RX12) (T := TX12) (N := 58) hx hb hts (fun _ hh => (List.mem_cons_of_mem _ (List.mem_append_right _ (List.mem_append_right _ (List.mem_append_right _ (List.mem_append_right _ (List.mem_append_left _ hh))))))) hown hK hT (fx_50 hX) (by decide) cl_e60 rfl 41 (by decide) (hts (.fieldLink RX12 116 "TypingPoolModel" "values" "[I") (List.mem_cons_of_mem _ (List.mem_append_left _ (List.mem_of_getElem? (i := 28) rfl)))) (fun _ h9 => h9) rfl dX12_thing_199 ?_
                  refine lv_iload_n hx hb dX12_thing_202 rfl (lv_at hl 0 rfl) ?_
                  refine tw_iald hx hb hK hT 0 (fx_92 hX) (by decide) cl_e102 rfl (z_in rfl (by omega) (by omega)) dX12_thing_203 ?_
                  have hrv : (y_585 (a 92) r_5829.toNatClampNeg).toInt = (y_585 (a 92) r_5829.toNatClampNeg).toInt := rfl
                  exact W.iret (v := y_585 (a 92) r_5829.toNatClampNeg) hx hb hr (fun t ht hW9 => ⟨⟨y_585 (a 92) r_5829.toNatClampNeg, y_585 (a 92) r_5829.toNatClampNeg, rfl, rfl, ⟨y_585, hG, hI, by omega, by omega, by omega, hPK, tw_at ht hT⟩⟩, hS.F ht⟩) hS.2.2 dX12_thing_204
                · have nc_583 := z_nle (zk (x := 0) 0 rfl) rfl c_583
                  refine lv_aload_n hx hb dX12_thing_183 rfl (lv_at hl 1 rfl) ?_
                  have hFc := tw_free hF hS hA
                  refine va_calli (va_runV (As := []) (rest := []) ⟨hx, hb, hml, hown, hts⟩ (m_isWrong l dC dI ad av H.size a k τ ln y_518 g u  hI hW) (cwV 0 hts (gi_4 (List.mem_cons_of_mem _ (List.mem_append_left _ (List.mem_of_getElem? (i := 20) rfl))) (List.mem_cons_of_mem _ (List.mem_append_left _ (List.mem_of_getElem? (i := 21) rfl))) (List.mem_cons_of_mem _ (List.mem_append_left _ (List.mem_of_getElem? (i := 22) rfl))) (List.mem_cons_of_mem _ (List.mem_append_left _ (List.mem_of_getElem? (i := 9) rfl))) (fun _ hh => (List.mem_cons_of_mem _ (List.mem_append_right _ (List.mem_append_right _ (List.mem_append_right _ (List.mem_append_right _ (List.mem_append_right _ (List.mem_append_left _ hh)))))))) gd_m_isWrong) rfl rfl rfl (by decide +kernel) ⟨by show 0 + 1 ≤ 6 * (N + 1) + 12; omega, by show 8 + (1 + 11) + (0) ≤ 400 * (N + 1) + 400; omega⟩) ⟨pw_blind, tw_recv hK hT (fx_50 hX) (by decide) cl_e60 rfl, pw_use hT hK hFc hS hM⟩ rfl rfl hl.1 rfl (lv_room (Nat.le_of_ble_eq_true rfl)) dX12_thing_184 ⟨Nat.le_of_ble_eq_true rfl, Nat.le_of_ble_eq_true rfl⟩) hS (fun q _ h => hFc q h) hFc (fun r0 r_586 t H locs ht hvm hw hB hz1 hk1 hS => ?_)
                  refine W.widen (k := 0) (n := 0) (Nat.le_of_ble_eq_true rfl) (Nat.le_of_ble_eq_true rfl) ?_
                  clear hvm hz1 hk1
                  subst hw
                  obtain ⟨y_587, hgy_587, hI, hf_588, hf_589, hf_590, hf_591, hT⟩ := hB
                  rw [ht] at hT
                  have hG := hG.tr hgy_587 (by decide)
                  have hW : IW (u 1) (u 2) (u 9) (y_587 (a 89)) := by rw [hgy_587.at (fx_89 hX) (by decide)]; exact hW
                  have hPK := hPK.tr hf_591
                  have hrv : r_586.toInt = r_586.toInt := rfl
                  exact W.iret (v := r_586) hx hb hr (fun t ht hW9 => ⟨⟨r_586, r_586, rfl, rfl, ⟨y_587, hG, hI, by omega, by omega, by omega, hPK, tw_at ht hT⟩⟩, hS.F ht⟩) hS.2.2 dX12_thing_187
              · rw [ht] at hT
                refine lv_i2c hx hb dX12_thing_174 rfl ?_
                refine lv_topi (fun x_592 ex_592 => ?_)
                have hFe := em_F hS hA
                refine va_calli (va_runV (As := [.int x_592]) (rest := []) ⟨hx, hb, hml, hown, hts⟩ (j_indexOf1 l dC dI ad av H.size i x_592 hi_i) (cwV 1 hts (gi_4 (List.mem_cons_of_mem _ (List.mem_append_left _ (List.mem_of_getElem? (i := 24) rfl))) (List.mem_cons_of_mem _ (List.mem_append_left _ (List.mem_of_getElem? (i := 25) rfl))) (List.mem_cons_of_mem _ (List.mem_append_left _ (List.mem_of_getElem? (i := 26) rfl))) (List.mem_cons_of_mem _ (List.mem_append_left _ (List.mem_of_getElem? (i := 27) rfl))) (fun _ hh => (List.mem_cons_of_mem _ (List.mem_append_right _ (List.mem_append_right _ (List.mem_append_right _ (List.mem_append_right _ (List.mem_append_right _ (List.mem_append_right _ (List.mem_append_left _ hh))))))))) gd_j_indexOf1) rfl rfl rfl (by decide +kernel) ⟨Nat.le_of_ble_eq_true rfl, Nat.le_of_ble_eq_true rfl⟩) ⟨pr_blind, st_recv (st_at hM i hi_i) hS, pr_use em_P (hK.sub [] rfl) em_D hFe hS hM⟩ rfl rfl hl.1 rfl (lv_room (Nat.le_of_ble_eq_true rfl)) dX12_thing_175 ⟨Nat.le_of_ble_eq_true rfl, Nat.le_of_ble_eq_true rfl⟩) hS (fun q _ h => hFe q h) hFe (fun r0 r_593 t H locs ht hvm hw hB hz1 hk1 hS => ?_)
                subst hw
                have hT := em_T hT hk1
                obtain ⟨r_5939, hre, hbr_593, -⟩ := hB
                refine lq_top hre ?_
                refine lv_istore_n (lv' := [(2, .int r_5939), (0, .ref (a 50)), (1, .int p0)]) hx hb dX12_thing_178 rfl hl (by decide) rfl (fun ls hl => ?_)
                refine lv_iload_n hx hb dX12_thing_179 rfl (lv_at hl 0 rfl) ?_
                refine lv_if_ge (tgt := 188) hx hb dX12_thing_180 (by decide) (fun c_594 => ?_) (fun c_594 => ?_)
                · have nc_594 := z_le (zk (x := 0) 0 rfl) rfl c_594
                  refine lv_aload_n hx hb dX12_thing_188 rfl (lv_at hl 1 rfl) ?_
                  refine lv_dup hx hb dX12_thing_189 rfl ?_
                  refine tw_get (D := (dC, dI)) (v := .int (y_518 (a 50) 45)) (C := RX12) (T := TX12) (N := 58) hx hb hts (fun _ hh => (List.mem_cons_of_mem _ (List.mem_append_right _ (List.mem_append_right _ (List.mem_append_right _ (List.mem_append_right _ (List.mem_append_left _ hh))))))) hown hK hT (fx_50 hX) (by decide) cl_e60 rfl 45 (by decide) (hts (.fieldLink RX12 197 "TypingPoolModel" "at" "I") (List.mem_cons_of_mem _ (List.mem_append_left _ (List.mem_of_getElem? (i := 19) rfl)))) (fun _ h9 => h9) rfl dX12_thing_190 ?_
                  refine lv_iconst (v := 1) hx hb dX12_thing_193 (by decide) ?_
                  refine lv_iadd hx hb dX12_thing_194 ?_
                  refine lv_topi (fun x_595 ex_595 => ?_)
                  have hx_595 := z_add ex_595 rfl (zk (x := 1) 1 rfl) (by omega) (by omega)
                  refine tw_put (D := (dC, dI)) (x := x_595) (ty := .int) (C := RX12) (T := TX12) (N := 58) hx hb hts (fun _ hh => (List.mem_cons_of_mem _ (List.mem_append_right _ (List.mem_append_right _ (List.mem_append_right _ (List.mem_append_right _ (List.mem_append_left _ hh))))))) tyX12 tyX12_ok nmX12 hown hK hT hF hS (fx_50 hX) (by decide) cl_e60 rfl 45 (by decide) (hts (.fieldLink RX12 197 "TypingPoolModel" "at" "I") (List.mem_cons_of_mem _ (List.mem_append_left _ (List.mem_of_getElem? (i := 19) rfl)))) (fun _ h9 => h9) rfl (tyX12_ok 45 (by decide)) rfl rfl (Nat.le_of_ble_eq_true rfl) rfl dX12_thing_195 (fun H locs hT hS => ?_)
                  obtain ⟨y_596, hy_596, hT⟩ : ∃ z : Nat → Nat → Int32, z = up2 y_518 (a 50) 45 x_595 ∧ tw (dC, dI) a k τ ln z g H := ⟨_, rfl, hT⟩
                  have hG : ag τ [60] y y_596 := by rw [hy_596]; exact hG.up (fx_50 hX) (by decide)
                  have : (y_596 (a 50) 43).toInt = (y_518 (a 50) 43).toInt := by rw [hy_596, up2_e (by decide)]
                  have : (y_596 (a 50) 44).toInt = (y_518 (a 50) 44).toInt := by rw [hy_596, up2_e (by decide)]
                  have : (y_596 (a 50) 45).toInt = x_595.toInt := (congrArg Int32.toInt (show y_596 (a 50) 45 = x_595 from by rw [hy_596]; exact up2_i)).trans rfl
                  have hPK : pk a y y_596 := by rw [hy_596]; exact hPK.up (by decide)
                  have hW : IW (u 1) (u 2) (u 9) (y_596 (a 89)) := by rw [hy_596, up2_o (kd_ne (fx_89 hX) (fx_50 hX) (by decide))]; exact hW
                  have hI := hI.put (f := 45) (x := x_595) (by decide)
                  rw [← hy_596] at hI
                  refine lv_aload_n hx hb dX12_thing_198 rfl (lv_at hl 1 rfl) ?_
                  refine tw_get (D := (dC, dI)) (v := .ref (a 92)) (C := RX12) (T := TX12) (N := 58) hx hb hts (fun _ hh => (List.mem_cons_of_mem _ (List.mem_append_right _ (List.mem_append_right _ (List.mem_append_right _ (List.mem_append_right _ (List.mem_append_left _ hh))))))) hown hK hT (fx_50 hX) (by decide) cl_e60 rfl 41 (by decide) (hts (.fieldLink RX12 116 "TypingPoolModel" "values" "[I") (List.mem_cons_of_mem _ (List.mem_append_left _ (List.mem_of_getElem? (i := 28) rfl)))) (fun _ h9 => h9) rfl dX12_thing_199 ?_
                  refine lv_iload_n hx hb dX12_thing_202 rfl (lv_at hl 0 rfl) ?_
                  refine tw_iald hx hb hK hT 0 (fx_92 hX) (by decide) cl_e102 rfl (z_in rfl (by omega) (by omega)) dX12_thing_203 ?_
                  have hrv : (y_596 (a 92) r_5939.toNatClampNeg).toInt = (y_596 (a 92) r_5939.toNatClampNeg).toInt := rfl
                  exact W.iret (v := y_596 (a 92) r_5939.toNatClampNeg) hx hb hr (fun t ht hW9 => ⟨⟨y_596 (a 92) r_5939.toNatClampNeg, y_596 (a 92) r_5939.toNatClampNeg, rfl, rfl, ⟨y_596, hG, hI, by omega, by omega, by omega, hPK, tw_at ht hT⟩⟩, hS.F ht⟩) hS.2.2 dX12_thing_204
                · have nc_594 := z_nle (zk (x := 0) 0 rfl) rfl c_594
                  refine lv_aload_n hx hb dX12_thing_183 rfl (lv_at hl 1 rfl) ?_
                  have hFc := tw_free hF hS hA
                  refine va_calli (va_runV (As := []) (rest := []) ⟨hx, hb, hml, hown, hts⟩ (m_isWrong l dC dI ad av H.size a k τ ln y_518 g u  hI hW) (cwV 0 hts (gi_4 (List.mem_cons_of_mem _ (List.mem_append_left _ (List.mem_of_getElem? (i := 20) rfl))) (List.mem_cons_of_mem _ (List.mem_append_left _ (List.mem_of_getElem? (i := 21) rfl))) (List.mem_cons_of_mem _ (List.mem_append_left _ (List.mem_of_getElem? (i := 22) rfl))) (List.mem_cons_of_mem _ (List.mem_append_left _ (List.mem_of_getElem? (i := 9) rfl))) (fun _ hh => (List.mem_cons_of_mem _ (List.mem_append_right _ (List.mem_append_right _ (List.mem_append_right _ (List.mem_append_right _ (List.mem_append_right _ (List.mem_append_left _ hh)))))))) gd_m_isWrong) rfl rfl rfl (by decide +kernel) ⟨by show 0 + 1 ≤ 6 * (N + 1) + 12; omega, by show 8 + (1 + 11) + (0) ≤ 400 * (N + 1) + 400; omega⟩) ⟨pw_blind, tw_recv hK hT (fx_50 hX) (by decide) cl_e60 rfl, pw_use hT hK hFc hS hM⟩ rfl rfl hl.1 rfl (lv_room (Nat.le_of_ble_eq_true rfl)) dX12_thing_184 ⟨Nat.le_of_ble_eq_true rfl, Nat.le_of_ble_eq_true rfl⟩) hS (fun q _ h => hFc q h) hFc (fun r0 r_597 t H locs ht hvm hw hB hz1 hk1 hS => ?_)
                  refine W.widen (k := 0) (n := 0) (Nat.le_of_ble_eq_true rfl) (Nat.le_of_ble_eq_true rfl) ?_
                  clear hvm hz1 hk1
                  subst hw
                  obtain ⟨y_598, hgy_598, hI, hf_599, hf_600, hf_601, hf_602, hT⟩ := hB
                  rw [ht] at hT
                  have hG := hG.tr hgy_598 (by decide)
                  have hW : IW (u 1) (u 2) (u 9) (y_598 (a 89)) := by rw [hgy_598.at (fx_89 hX) (by decide)]; exact hW
                  have hPK := hPK.tr hf_602
                  have hrv : r_597.toInt = r_597.toInt := rfl
                  exact W.iret (v := r_597) hx hb hr (fun t ht hW9 => ⟨⟨r_597, r_597, rfl, rfl, ⟨y_598, hG, hI, by omega, by omega, by omega, hPK, tw_at ht hT⟩⟩, hS.F ht⟩) hS.2.2 dX12_thing_187
            · have nc_576 := z_eq rfl (zk (x := (-1)) (-1) rfl) c_576
              refine lv_iconst (v := (-1)) hx hb dX12_thing_162 (by decide) ?_
              refine lv_goto (tgt := 178) hx hb dX12_thing_163 (by decide) ?_
              refine lv_istore_n (lv' := [(2, .int (-1)), (0, .ref (a 50)), (1, .int p0)]) hx hb dX12_thing_178 rfl hl (by decide) rfl (fun ls hl => ?_)
              refine lv_iload_n hx hb dX12_thing_179 rfl (lv_at hl 0 rfl) ?_
              refine lv_if_ge (tgt := 188) hx hb dX12_thing_180 (by decide) (fun c_603 => absurd c_603 (by decide)) (fun c_603 => ?_)
              refine lv_aload_n hx hb dX12_thing_183 rfl (lv_at hl 1 rfl) ?_
              have hFc := tw_free hF hS hA
              refine va_calli (va_runV (As := []) (rest := []) ⟨hx, hb, hml, hown, hts⟩ (m_isWrong l dC dI ad av H.size a k τ ln y_518 g u  hI hW) (cwV 0 hts (gi_4 (List.mem_cons_of_mem _ (List.mem_append_left _ (List.mem_of_getElem? (i := 20) rfl))) (List.mem_cons_of_mem _ (List.mem_append_left _ (List.mem_of_getElem? (i := 21) rfl))) (List.mem_cons_of_mem _ (List.mem_append_left _ (List.mem_of_getElem? (i := 22) rfl))) (List.mem_cons_of_mem _ (List.mem_append_left _ (List.mem_of_getElem? (i := 9) rfl))) (fun _ hh => (List.mem_cons_of_mem _ (List.mem_append_right _ (List.mem_append_right _ (List.mem_append_right _ (List.mem_append_right _ (List.mem_append_right _ (List.mem_append_left _ hh)))))))) gd_m_isWrong) rfl rfl rfl (by decide +kernel) ⟨by show 0 + 1 ≤ 6 * (N + 1) + 12; omega, by show 8 + (1 + 11) + (0) ≤ 400 * (N + 1) + 400; omega⟩) ⟨pw_blind, tw_recv hK hT (fx_50 hX) (by decide) cl_e60 rfl, pw_use hT hK hFc hS hM⟩ rfl rfl hl.1 rfl (lv_room (Nat.le_of_ble_eq_true rfl)) dX12_thing_184 ⟨Nat.le_of_ble_eq_true rfl, Nat.le_of_ble_eq_true rfl⟩) hS (fun q _ h => hFc q h) hFc (fun r0 r_604 t H locs ht hvm hw hB hz1 hk1 hS => ?_)
              refine W.widen (k := 0) (n := 0) (Nat.le_of_ble_eq_true rfl) (Nat.le_of_ble_eq_true rfl) ?_
              clear hvm hz1 hk1
              subst hw
              obtain ⟨y_605, hgy_605, hI, hf_606, hf_607, hf_608, hf_609, hT⟩ := hB
              rw [ht] at hT
              have hG := hG.tr hgy_605 (by decide)
              have hW : IW (u 1) (u 2) (u 9) (y_605 (a 89)) := by rw [hgy_605.at (fx_89 hX) (by decide)]; exact hW
              have hPK := hPK.tr hf_609
              have hrv : r_604.toInt = r_604.toInt := rfl
              exact W.iret (v := r_604) hx hb hr (fun t ht hW9 => ⟨⟨r_604, r_604, rfl, rfl, ⟨y_605, hG, hI, by omega, by omega, by omega, hPK, tw_at ht hT⟩⟩, hS.F ht⟩) hS.2.2 dX12_thing_187
      · rw [ht] at hT
        refine lv_bipush (v := 40) hx hb dX12_thing_43 (by decide) ?_
        refine lv_icmp_ne (tgt := 100) hx hb dX12_thing_45 (by decide) (fun c_610 => ?_) (fun c_610 => ?_)
        · have nc_610 := z_ne rfl (zk (x := 40) 40 rfl) c_610
          refine lv_aload_n hx hb dX12_thing_100 rfl (lv_at hl 0 rfl) ?_
          have hFc := tw_free hF hS hA
          refine va_calli (va_runV (As := []) (rest := []) ⟨hx, hb, hml, hown, hts⟩ (m_isDigit l dC dI ad av H.size a k τ ln y_518 g u sq nS i hI hs0 hcl hsg hltr hi_i hsl (by omega) (by omega) (by omega) (by omega) hW) (cwV 0 hts (gi_4 (List.mem_cons_of_mem _ (List.mem_append_left _ (List.mem_of_getElem? (i := 16) rfl))) (List.mem_cons_of_mem _ (List.mem_append_left _ (List.mem_of_getElem? (i := 17) rfl))) (List.mem_cons_of_mem _ (List.mem_append_left _ (List.mem_of_getElem? (i := 18) rfl))) (List.mem_cons_of_mem _ (List.mem_append_left _ (List.mem_of_getElem? (i := 9) rfl))) (fun _ hh => (List.mem_cons_of_mem _ (List.mem_append_right _ (List.mem_append_right _ (List.mem_append_right _ (List.mem_append_left _ hh)))))) gd_m_isDigit) rfl rfl rfl (by decide +kernel) ⟨by show 1 + 1 ≤ 6 * (N + 1) + 12; omega, by show 8 + (1 + 11) + (60) ≤ 400 * (N + 1) + 400; omega⟩) ⟨pw_blind, tw_recv hK hT (fx_50 hX) (by decide) cl_e60 rfl, pw_use hT hK hFc hS hM⟩ rfl rfl hl.1 rfl (lv_room (Nat.le_of_ble_eq_true rfl)) dX12_thing_101 ⟨Nat.le_of_ble_eq_true rfl, Nat.le_of_ble_eq_true rfl⟩) hS (fun q _ h => hFc q h) hFc (fun r0 r_611 t H locs ht hvm hw hB hz1 hk1 hS => ?_)
          refine W.widen (k := 0) (n := 0) (Nat.le_of_ble_eq_true rfl) (Nat.le_of_ble_eq_true rfl) ?_
          clear hvm hz1 hk1
          subst hw
          rcases hB with ⟨hre, hf_612, hT⟩ | ⟨hre, hT⟩
          · refine lq_top (v := 1) hre ?_
            rw [ht] at hT
            refine lv_if_eq (tgt := 154) hx hb dX12_thing_104 (by decide) (fun c_613 => absurd c_613 (by decide)) (fun c_613 => ?_)
            refine lv_iconst (v := 0) hx hb dX12_thing_107 (by decide) ?_
            refine lv_istore_n (lv' := [(2, .int 0), (0, .ref (a 50)), (1, .int p0)]) hx hb dX12_thing_108 rfl hl (by decide) rfl (fun ls hl => ?_)
            refine lv_iconst (v := 0) hx hb dX12_thing_109 (by decide) ?_
            refine lv_istore_n (lv' := [(3, .int 0), (2, .int 0), (0, .ref (a 50)), (1, .int p0)]) hx hb dX12_thing_110 rfl hl (by decide) rfl (fun ls hl => ?_)
            have loop_111 : ∀ (n : Nat) (w2 : Int32) (i3 : Int32) (y_L111 : Nat → Nat → Int32) (H : Heap) (locs : List Loc) (ls : Array Slot), (4 - i3.toInt).toNat < n → ag τ [60] y y_L111 → IM a u τ y_L111 → IW (u 1) (u 2) (u 9) (y_L111 (a 89)) → pk a y y_L111 → 0 ≤ i3.toInt → i3.toInt ≤ 4 → (y_L111 (a 50) 43).toInt = (y (a 50) 43).toInt → (y_L111 (a 50) 44).toInt = (y (a 50) 44).toInt → (y (a 50) 45).toInt ≤ (y_L111 (a 50) 45).toInt ∧ (y_L111 (a 50) 45).toInt ≤ 60 → tw (dC, dI) a k τ ln y_L111 g H → va_S A s.heap H locs → lv_has ls 4 [(0, .ref (a 50)), (1, .int p0), (2, .int w2), (3, .int i3)] → W p l e (headSpec wm_g_thing ({ frames := 6 * (N + 1) + 12, cells := 0, slots := 0, locals := 400 * (N + 1) + 400 })).room s m ([.ref (a 50), .int p0] : List Value).toArray below meth c H locs 0 0 (MQ below (va_Qi (fun (r u : Int32) => u = r) (fun (r : Int32) (t : State) => (∃ (y' : Nat → Nat → Int32), ag τ [60] y y' ∧ IM a u τ y' ∧ (y' (a 50) 43).toInt = (y (a 50) 43).toInt ∧ (y' (a 50) 44).toInt = (y (a 50) 44).toInt ∧ ((y (a 50) 45).toInt ≤ (y' (a 50) 45).toInt ∧ (y' (a 50) 45).toInt ≤ 60) ∧ pk a y y' ∧ tw (dC, dI) a k τ ln y' g t.heap)) A) ([.ref (a 50), .int p0] : List Value).toArray s 0 0 A) (F0 m 111 ls []) := by
              intro n
              induction n with
              | zero => intro w2 i3 y_L111 H locs ls hlt; exact absurd hlt (Nat.not_lt_zero _)
              | succ n ih_111 =>
                intro w2 i3 y_L111 H locs ls hlt hG hI hW hPK hi111_0 hi111_1 hi111_2 hi111_3 hi111_4 hT hS hl
                refine lv_iload_n hx hb dX12_thing_111 rfl (lv_at hl 3 rfl) ?_
                refine lv_iconst (v := 4) hx hb dX12_thing_112 (by decide) ?_
                refine lv_icmp_ge (tgt := 152) hx hb dX12_thing_113 (by decide) (fun c_614 => ?_) (fun c_614 => ?_)
                · have nc_614 := z_le (zk (x := 4) 4 rfl) rfl c_614
                  refine lv_iload_n hx hb dX12_thing_152 rfl (lv_at hl 2 rfl) ?_
                  have hrv : w2.toInt = w2.toInt := rfl
                  exact W.iret (v := w2) hx hb hr (fun t ht hW9 => ⟨⟨w2, w2, rfl, rfl, ⟨y_L111, hG, hI, by omega, by omega, by omega, hPK, tw_at ht hT⟩⟩, hS.F ht⟩) hS.2.2 dX12_thing_153
                · have nc_614 := z_nle (zk (x := 4) 4 rfl) rfl c_614
                  refine lv_aload_n hx hb dX12_thing_116 rfl (lv_at hl 0 rfl) ?_
                  have hFc := tw_free hF hS hA
                  refine va_calli (va_runV (As := []) (rest := []) ⟨hx, hb, hml, hown, hts⟩ (m_isDigit l dC dI ad av H.size a k τ ln y_L111 g u sq nS i hI hs0 hcl hsg hltr hi_i hsl (by omega) (by omega) (by omega) (by omega) hW) (cwV 0 hts (gi_4 (List.mem_cons_of_mem _ (List.mem_append_left _ (List.mem_of_getElem? (i := 16) rfl))) (List.mem_cons_of_mem _ (List.mem_append_left _ (List.mem_of_getElem? (i := 17) rfl))) (List.mem_cons_of_mem _ (List.mem_append_left _ (List.mem_of_getElem? (i := 18) rfl))) (List.mem_cons_of_mem _ (List.mem_append_left _ (List.mem_of_getElem? (i := 9) rfl))) (fun _ hh => (List.mem_cons_of_mem _ (List.mem_append_right _ (List.mem_append_right _ (List.mem_append_right _ (List.mem_append_left _ hh)))))) gd_m_isDigit) rfl rfl rfl (by decide +kernel) ⟨by show 1 + 1 ≤ 6 * (N + 1) + 12; omega, by show 8 + (1 + 11) + (60) ≤ 400 * (N + 1) + 400; omega⟩) ⟨pw_blind, tw_recv hK hT (fx_50 hX) (by decide) cl_e60 rfl, pw_use hT hK hFc hS hM⟩ rfl rfl hl.1 rfl (lv_room (Nat.le_of_ble_eq_true rfl)) dX12_thing_117 ⟨Nat.le_of_ble_eq_true rfl, Nat.le_of_ble_eq_true rfl⟩) hS (fun q _ h => hFc q h) hFc (fun r0 r_615 t H locs ht hvm hw hB hz1 hk1 hS => ?_)
                  refine W.widen (k := 0) (n := 0) (Nat.le_of_ble_eq_true rfl) (Nat.le_of_ble_eq_true rfl) ?_
                  clear hvm hz1 hk1
                  subst hw
                  rcases hB with ⟨hre, hf_616, hT⟩ | ⟨hre, hT⟩
                  · refine lq_top (v := 1) hre ?_
                    rw [ht] at hT
                    refine lv_if_eq (tgt := 152) hx hb dX12_thing_120 (by decide) (fun c_617 => absurd c_617 (by decide)) (fun c_617 => ?_)
                    refine lv_bipush (v := 10) hx hb dX12_thing_123 (by decide) ?_
                    refine lv_iload_n hx hb dX12_thing_125 rfl (lv_at hl 2 rfl) ?_
                    refine lv_imul hx hb dX12_thing_126 ?_
                    refine lv_topi (fun x_618 ex_618 => ?_)
                    refine lv_aload_n hx hb dX12_thing_127 rfl (lv_at hl 0 rfl) ?_
                    have hFc := tw_free hF hS hA
                    refine va_calli (va_runV (As := []) (rest := [.int x_618]) ⟨hx, hb, hml, hown, hts⟩ (m_here l dC dI ad av H.size a k τ ln y_L111 g u sq nS i hI hs0 hcl hsg hltr hi_i hsl (by omega) (by omega) (by omega) (by omega) hW) (cwV 0 hts (gi_4 (List.mem_cons_of_mem _ (List.mem_append_left _ (List.mem_of_getElem? (i := 13) rfl))) (List.mem_cons_of_mem _ (List.mem_append_left _ (List.mem_of_getElem? (i := 14) rfl))) (List.mem_cons_of_mem _ (List.mem_append_left _ (List.mem_of_getElem? (i := 15) rfl))) (List.mem_cons_of_mem _ (List.mem_append_left _ (List.mem_of_getElem? (i := 9) rfl))) (fun _ hh => (List.mem_cons_of_mem _ (List.mem_append_right _ (List.mem_append_right _ (List.mem_append_left _ hh))))) gd_m_here) rfl rfl rfl (by decide +kernel) ⟨by show 0 + 1 ≤ 6 * (N + 1) + 12; omega, by show 8 + (1 + 11) + (0) ≤ 400 * (N + 1) + 400; omega⟩) ⟨pw_blind, tw_recv hK hT (fx_50 hX) (by decide) cl_e60 rfl, pw_use hT hK hFc hS hM⟩ rfl rfl hl.1 rfl (lv_room (Nat.le_of_ble_eq_true rfl)) dX12_thing_128 ⟨Nat.le_of_ble_eq_true rfl, Nat.le_of_ble_eq_true rfl⟩) hS (fun q _ h => hFc q h) hFc (fun r0 r_619 t H locs ht hvm hw hB hz1 hk1 hS => ?_)
                    refine W.widen (k := 0) (n := 0) (Nat.le_of_ble_eq_true rfl) (Nat.le_of_ble_eq_true rfl) ?_
                    clear hvm hz1 hk1
                    subst hw
                    rcases hB with ⟨hre, hT⟩ | ⟨hf_620, hf_621, hf_622, hT⟩
                    · refine lq_top (v := (-1)) hre ?_
                      rw [ht] at hT
                      refine lv_iadd hx hb dX12_thing_131 ?_
                      refine lv_topi (fun x_623 ex_623 => ?_)
                      refine lv_bipush (v := 48) hx hb dX12_thing_132 (by decide) ?_
                      refine lv_isub hx hb dX12_thing_134 ?_
                      refine lv_topi (fun x_624 ex_624 => ?_)
                      refine lv_istore_n (lv' := [(2, .int x_624), (0, .ref (a 50)), (1, .int p0), (3, .int i3)]) hx hb dX12_thing_135 rfl hl (by decide) rfl (fun ls hl => ?_)
                      refine lv_aload_n hx hb dX12_thing_136 rfl (lv_at hl 1 rfl) ?_
                      refine lv_dup hx hb dX12_thing_137 rfl ?_
                      refine tw_get (D := (dC, dI)) (v := .int (y_L111 (a 50) 45)) (C := RX12) (T := TX12) (N := 58) hx hb hts (fun _ hh => (List.mem_cons_of_mem _ (List.mem_append_right _ (List.mem_append_right _ (List.mem_append_right _ (List.mem_append_right _ (List.mem_append_left _ hh))))))) hown hK hT (fx_50 hX) (by decide) cl_e60 rfl 45 (by decide) (hts (.fieldLink RX12 197 "TypingPoolModel" "at" "I") (List.mem_cons_of_mem _ (List.mem_append_left _ (List.mem_of_getElem? (i := 19) rfl)))) (fun _ h9 => h9) rfl dX12_thing_138 ?_
                      refine lv_iconst (v := 1) hx hb dX12_thing_141 (by decide) ?_
                      refine lv_iadd hx hb dX12_thing_142 ?_
                      refine lv_topi (fun x_625 ex_625 => ?_)
                      have hx_625 := z_add ex_625 rfl (zk (x := 1) 1 rfl) (by omega) (by omega)
                      refine tw_put (D := (dC, dI)) (x := x_625) (ty := .int) (C := RX12) (T := TX12) (N := 58) hx hb hts (fun _ hh => (List.mem_cons_of_mem _ (List.mem_append_right _ (List.mem_append_right _ (List.mem_append_right _ (List.mem_append_right _ (List.mem_append_left _ hh))))))) tyX12 tyX12_ok nmX12 hown hK hT hF hS (fx_50 hX) (by decide) cl_e60 rfl 45 (by decide) (hts (.fieldLink RX12 197 "TypingPoolModel" "at" "I") (List.mem_cons_of_mem _ (List.mem_append_left _ (List.mem_of_getElem? (i := 19) rfl)))) (fun _ h9 => h9) rfl (tyX12_ok 45 (by decide)) rfl rfl (Nat.le_of_ble_eq_true rfl) rfl dX12_thing_143 (fun H locs hT hS => ?_)
                      obtain ⟨y_626, hy_626, hT⟩ : ∃ z : Nat → Nat → Int32, z = up2 y_L111 (a 50) 45 x_625 ∧ tw (dC, dI) a k τ ln z g H := ⟨_, rfl, hT⟩
                      have hG : ag τ [60] y y_626 := by rw [hy_626]; exact hG.up (fx_50 hX) (by decide)
                      have : (y_626 (a 50) 43).toInt = (y_L111 (a 50) 43).toInt := by rw [hy_626, up2_e (by decide)]
                      have : (y_626 (a 50) 44).toInt = (y_L111 (a 50) 44).toInt := by rw [hy_626, up2_e (by decide)]
                      have : (y_626 (a 50) 45).toInt = x_625.toInt := (congrArg Int32.toInt (show y_626 (a 50) 45 = x_625 from by rw [hy_626]; exact up2_i)).trans rfl
                      have hPK : pk a y y_626 := by rw [hy_626]; exact hPK.up (by decide)
                      have hW : IW (u 1) (u 2) (u 9) (y_626 (a 89)) := by rw [hy_626, up2_o (kd_ne (fx_89 hX) (fx_50 hX) (by decide))]; exact hW
                      have hI := hI.put (f := 45) (x := x_625) (by decide)
                      rw [← hy_626] at hI
                      obtain ⟨x_627, ex_627⟩ : ∃ y : Int32, y = i3 + Int32.ofInt 1 := ⟨_, rfl⟩
                      have hx_627 := z_add ex_627 rfl (zk (x := Int32.ofInt 1) 1 rfl) (by omega) (by omega)
                      refine lv_iinc (v := x_627) (lv' := [(3, .int x_627), (2, .int x_624), (0, .ref (a 50)), (1, .int p0)]) hx hb dX12_thing_146 hl (k := 3) rfl ex_627.symm (by decide) rfl (fun ls hl => ?_)
                      refine lv_goto (tgt := 111) hx hb dX12_thing_149 (by decide) ?_
                      exact ih_111  x_624 x_627 y_626 H _ ls (by omega) hG hI hW hPK (by omega) (by omega) (by omega) (by omega) (by omega) hT hS (lv_sub hl [2, 3, 1, 0] rfl)
                    · rw [ht] at hT
                      refine lv_iadd hx hb dX12_thing_131 ?_
                      refine lv_topi (fun x_628 ex_628 => ?_)
                      refine lv_bipush (v := 48) hx hb dX12_thing_132 (by decide) ?_
                      refine lv_isub hx hb dX12_thing_134 ?_
                      refine lv_topi (fun x_629 ex_629 => ?_)
                      refine lv_istore_n (lv' := [(2, .int x_629), (0, .ref (a 50)), (1, .int p0), (3, .int i3)]) hx hb dX12_thing_135 rfl hl (by decide) rfl (fun ls hl => ?_)
                      refine lv_aload_n hx hb dX12_thing_136 rfl (lv_at hl 1 rfl) ?_
                      refine lv_dup hx hb dX12_thing_137 rfl ?_
                      refine tw_get (D := (dC, dI)) (v := .int (y_L111 (a 50) 45)) (C := RX12) (T := TX12) (N := 58) hx hb hts (fun _ hh => (List.mem_cons_of_mem _ (List.mem_append_right _ (List.mem_append_right _ (List.mem_append_right _ (List.mem_append_right _ (List.mem_append_left _ hh))))))) hown hK hT (fx_50 hX) (by decide) cl_e60 rfl 45 (by decide) (hts (.fieldLink RX12 197 "TypingPoolModel" "at" "I") (List.mem_cons_of_mem _ (List.mem_append_left _ (List.mem_of_getElem? (i := 19) rfl)))) (fun _ h9 => h9) rfl dX12_thing_138 ?_
                      refine lv_iconst (v := 1) hx hb dX12_thing_141 (by decide) ?_
                      refine lv_iadd hx hb dX12_thing_142 ?_
                      refine lv_topi (fun x_630 ex_630 => ?_)
                      have hx_630 := z_add ex_630 rfl (zk (x := 1) 1 rfl) (by omega) (by omega)
                      refine tw_put (D := (dC, dI)) (x := x_630) (ty := .int) (C := RX12) (T := TX12) (N := 58) hx hb hts (fun _ hh => (List.mem_cons_of_mem _ (List.mem_append_right _ (List.mem_append_right _ (List.mem_append_right _ (List.mem_append_right _ (List.mem_append_left _ hh))))))) tyX12 tyX12_ok nmX12 hown hK hT hF hS (fx_50 hX) (by decide) cl_e60 rfl 45 (by decide) (hts (.fieldLink RX12 197 "TypingPoolModel" "at" "I") (List.mem_cons_of_mem _ (List.mem_append_left _ (List.mem_of_getElem? (i := 19) rfl)))) (fun _ h9 => h9) rfl (tyX12_ok 45 (by decide)) rfl rfl (Nat.le_of_ble_eq_true rfl) rfl dX12_thing_143 (fun H locs hT hS => ?_)
                      obtain ⟨y_631, hy_631, hT⟩ : ∃ z : Nat → Nat → Int32, z = up2 y_L111 (a 50) 45 x_630 ∧ tw (dC, dI) a k τ ln z g H := ⟨_, rfl, hT⟩
                      have hG : ag τ [60] y y_631 := by rw [hy_631]; exact hG.up (fx_50 hX) (by decide)
                      have : (y_631 (a 50) 43).toInt = (y_L111 (a 50) 43).toInt := by rw [hy_631, up2_e (by decide)]
                      have : (y_631 (a 50) 44).toInt = (y_L111 (a 50) 44).toInt := by rw [hy_631, up2_e (by decide)]
                      have : (y_631 (a 50) 45).toInt = x_630.toInt := (congrArg Int32.toInt (show y_631 (a 50) 45 = x_630 from by rw [hy_631]; exact up2_i)).trans rfl
                      have hPK : pk a y y_631 := by rw [hy_631]; exact hPK.up (by decide)
                      have hW : IW (u 1) (u 2) (u 9) (y_631 (a 89)) := by rw [hy_631, up2_o (kd_ne (fx_89 hX) (fx_50 hX) (by decide))]; exact hW
                      have hI := hI.put (f := 45) (x := x_630) (by decide)
                      rw [← hy_631] at hI
                      obtain ⟨x_632, ex_632⟩ : ∃ y : Int32, y = i3 + Int32.ofInt 1 := ⟨_, rfl⟩
                      have hx_632 := z_add ex_632 rfl (zk (x := Int32.ofInt 1) 1 rfl) (by omega) (by omega)
                      refine lv_iinc (v := x_632) (lv' := [(3, .int x_632), (2, .int x_629), (0, .ref (a 50)), (1, .int p0)]) hx hb dX12_thing_146 hl (k := 3) rfl ex_632.symm (by decide) rfl (fun ls hl => ?_)
                      refine lv_goto (tgt := 111) hx hb dX12_thing_149 (by decide) ?_
                      exact ih_111  x_629 x_632 y_631 H _ ls (by omega) hG hI hW hPK (by omega) (by omega) (by omega) (by omega) (by omega) hT hS (lv_sub hl [2, 3, 1, 0] rfl)
                  · refine lq_top (v := 0) hre ?_
                    rw [ht] at hT
                    refine lv_if_eq (tgt := 152) hx hb dX12_thing_120 (by decide) (fun c_633 => ?_) (fun c_633 => absurd c_633 (by decide))
                    refine lv_iload_n hx hb dX12_thing_152 rfl (lv_at hl 2 rfl) ?_
                    have hrv : w2.toInt = w2.toInt := rfl
                    exact W.iret (v := w2) hx hb hr (fun t ht hW9 => ⟨⟨w2, w2, rfl, rfl, ⟨y_L111, hG, hI, by omega, by omega, by omega, hPK, tw_at ht hT⟩⟩, hS.F ht⟩) hS.2.2 dX12_thing_153
            have hp_634 : (0 : Int32).toInt = 0 := (zk (x := 0) 0 rfl)
            have hp_635 : (0 : Int32).toInt = 0 := (zk (x := 0) 0 rfl)
            exact loop_111 _ (0 : Int32) (0 : Int32) y_518 H _ ls (Nat.lt_succ_self _) hG hI hW hPK (by omega) (by omega) (by omega) (by omega) (by omega) hT hS (lv_sub hl [2, 3, 1, 0] rfl)
          · refine lq_top (v := 0) hre ?_
            rw [ht] at hT
            refine lv_if_eq (tgt := 154) hx hb dX12_thing_104 (by decide) (fun c_636 => ?_) (fun c_636 => absurd c_636 (by decide))
            refine lv_aload_n hx hb dX12_thing_154 rfl (lv_at hl 0 rfl) ?_
            have hFc := tw_free hF hS hA
            refine va_calli (va_runV (As := []) (rest := []) ⟨hx, hb, hml, hown, hts⟩ (m_here l dC dI ad av H.size a k τ ln y_518 g u sq nS i hI hs0 hcl hsg hltr hi_i hsl (by omega) (by omega) (by omega) (by omega) hW) (cwV 0 hts (gi_4 (List.mem_cons_of_mem _ (List.mem_append_left _ (List.mem_of_getElem? (i := 13) rfl))) (List.mem_cons_of_mem _ (List.mem_append_left _ (List.mem_of_getElem? (i := 14) rfl))) (List.mem_cons_of_mem _ (List.mem_append_left _ (List.mem_of_getElem? (i := 15) rfl))) (List.mem_cons_of_mem _ (List.mem_append_left _ (List.mem_of_getElem? (i := 9) rfl))) (fun _ hh => (List.mem_cons_of_mem _ (List.mem_append_right _ (List.mem_append_right _ (List.mem_append_left _ hh))))) gd_m_here) rfl rfl rfl (by decide +kernel) ⟨by show 0 + 1 ≤ 6 * (N + 1) + 12; omega, by show 8 + (1 + 11) + (0) ≤ 400 * (N + 1) + 400; omega⟩) ⟨pw_blind, tw_recv hK hT (fx_50 hX) (by decide) cl_e60 rfl, pw_use hT hK hFc hS hM⟩ rfl rfl hl.1 rfl (lv_room (Nat.le_of_ble_eq_true rfl)) dX12_thing_155 ⟨Nat.le_of_ble_eq_true rfl, Nat.le_of_ble_eq_true rfl⟩) hS (fun q _ h => hFc q h) hFc (fun r0 r_637 t H locs ht hvm hw hB hz1 hk1 hS => ?_)
            refine W.widen (k := 0) (n := 0) (Nat.le_of_ble_eq_true rfl) (Nat.le_of_ble_eq_true rfl) ?_
            clear hvm hz1 hk1
            subst hw
            rcases hB with ⟨hre, hT⟩ | ⟨hf_638, hf_639, hf_640, hT⟩
            · refine lq_top (v := (-1)) hre ?_
              rw [ht] at hT
              refine lv_iconst (v := (-1)) hx hb dX12_thing_158 (by decide) ?_
              refine lv_icmp_ne (tgt := 166) hx hb dX12_thing_159 (by decide) (fun c_641 => absurd c_641 (by decide)) (fun c_641 => ?_)
              refine lv_iconst (v := (-1)) hx hb dX12_thing_162 (by decide) ?_
              refine lv_goto (tgt := 178) hx hb dX12_thing_163 (by decide) ?_
              refine lv_istore_n (lv' := [(2, .int (-1)), (0, .ref (a 50)), (1, .int p0)]) hx hb dX12_thing_178 rfl hl (by decide) rfl (fun ls hl => ?_)
              refine lv_iload_n hx hb dX12_thing_179 rfl (lv_at hl 0 rfl) ?_
              refine lv_if_ge (tgt := 188) hx hb dX12_thing_180 (by decide) (fun c_642 => absurd c_642 (by decide)) (fun c_642 => ?_)
              refine lv_aload_n hx hb dX12_thing_183 rfl (lv_at hl 1 rfl) ?_
              have hFc := tw_free hF hS hA
              refine va_calli (va_runV (As := []) (rest := []) ⟨hx, hb, hml, hown, hts⟩ (m_isWrong l dC dI ad av H.size a k τ ln y_518 g u  hI hW) (cwV 0 hts (gi_4 (List.mem_cons_of_mem _ (List.mem_append_left _ (List.mem_of_getElem? (i := 20) rfl))) (List.mem_cons_of_mem _ (List.mem_append_left _ (List.mem_of_getElem? (i := 21) rfl))) (List.mem_cons_of_mem _ (List.mem_append_left _ (List.mem_of_getElem? (i := 22) rfl))) (List.mem_cons_of_mem _ (List.mem_append_left _ (List.mem_of_getElem? (i := 9) rfl))) (fun _ hh => (List.mem_cons_of_mem _ (List.mem_append_right _ (List.mem_append_right _ (List.mem_append_right _ (List.mem_append_right _ (List.mem_append_right _ (List.mem_append_left _ hh)))))))) gd_m_isWrong) rfl rfl rfl (by decide +kernel) ⟨by show 0 + 1 ≤ 6 * (N + 1) + 12; omega, by show 8 + (1 + 11) + (0) ≤ 400 * (N + 1) + 400; omega⟩) ⟨pw_blind, tw_recv hK hT (fx_50 hX) (by decide) cl_e60 rfl, pw_use hT hK hFc hS hM⟩ rfl rfl hl.1 rfl (lv_room (Nat.le_of_ble_eq_true rfl)) dX12_thing_184 ⟨Nat.le_of_ble_eq_true rfl, Nat.le_of_ble_eq_true rfl⟩) hS (fun q _ h => hFc q h) hFc (fun r0 r_643 t H locs ht hvm hw hB hz1 hk1 hS => ?_)
              refine W.widen (k := 0) (n := 0) (Nat.le_of_ble_eq_true rfl) (Nat.le_of_ble_eq_true rfl) ?_
              clear hvm hz1 hk1
              subst hw
              obtain ⟨y_644, hgy_644, hI, hf_645, hf_646, hf_647, hf_648, hT⟩ := hB
              rw [ht] at hT
              have hG := hG.tr hgy_644 (by decide)
              have hW : IW (u 1) (u 2) (u 9) (y_644 (a 89)) := by rw [hgy_644.at (fx_89 hX) (by decide)]; exact hW
              have hPK := hPK.tr hf_648
              have hrv : r_643.toInt = r_643.toInt := rfl
              exact W.iret (v := r_643) hx hb hr (fun t ht hW9 => ⟨⟨r_643, r_643, rfl, rfl, ⟨y_644, hG, hI, by omega, by omega, by omega, hPK, tw_at ht hT⟩⟩, hS.F ht⟩) hS.2.2 dX12_thing_187
            · rw [ht] at hT
              refine lv_iconst (v := (-1)) hx hb dX12_thing_158 (by decide) ?_
              refine lv_icmp_ne (tgt := 166) hx hb dX12_thing_159 (by decide) (fun c_649 => ?_) (fun c_649 => ?_)
              · have nc_649 := z_ne rfl (zk (x := (-1)) (-1) rfl) c_649
                refine lv_aload_n hx hb dX12_thing_166 rfl (lv_at hl 0 rfl) ?_
                refine tw_get (D := (dC, dI)) (v := va_rf (g (a 50) 47)) (C := RX12) (T := TX12) (N := 58) hx hb hts (fun _ hh => (List.mem_cons_of_mem _ (List.mem_append_right _ (List.mem_append_right _ (List.mem_append_right _ (List.mem_append_right _ (List.mem_append_left _ hh))))))) hown hK hT (fx_50 hX) (by decide) cl_e60 rfl 47 (by decide) (hts (.fieldLink RX12 207 "TypingPoolModel" "letters" "Ljava/lang/String;") (List.mem_cons_of_mem _ (List.mem_append_left _ (List.mem_of_getElem? (i := 23) rfl)))) (fun _ h9 => h9) rfl dX12_thing_167 ?_
                refine lq_topr hltr ?_
                refine lv_aload_n hx hb dX12_thing_170 rfl (lv_at hl 0 rfl) ?_
                have hFc := tw_free hF hS hA
                refine va_calli (va_runV (As := []) (rest := [.ref (ad i)]) ⟨hx, hb, hml, hown, hts⟩ (m_here l dC dI ad av H.size a k τ ln y_518 g u sq nS i hI hs0 hcl hsg hltr hi_i hsl (by omega) (by omega) (by omega) (by omega) hW) (cwV 0 hts (gi_4 (List.mem_cons_of_mem _ (List.mem_append_left _ (List.mem_of_getElem? (i := 13) rfl))) (List.mem_cons_of_mem _ (List.mem_append_left _ (List.mem_of_getElem? (i := 14) rfl))) (List.mem_cons_of_mem _ (List.mem_append_left _ (List.mem_of_getElem? (i := 15) rfl))) (List.mem_cons_of_mem _ (List.mem_append_left _ (List.mem_of_getElem? (i := 9) rfl))) (fun _ hh => (List.mem_cons_of_mem _ (List.mem_append_right _ (List.mem_append_right _ (List.mem_append_left _ hh))))) gd_m_here) rfl rfl rfl (by decide +kernel) ⟨by show 0 + 1 ≤ 6 * (N + 1) + 12; omega, by show 8 + (1 + 11) + (0) ≤ 400 * (N + 1) + 400; omega⟩) ⟨pw_blind, tw_recv hK hT (fx_50 hX) (by decide) cl_e60 rfl, pw_use hT hK hFc hS hM⟩ rfl rfl hl.1 rfl (lv_room (Nat.le_of_ble_eq_true rfl)) dX12_thing_171 ⟨Nat.le_of_ble_eq_true rfl, Nat.le_of_ble_eq_true rfl⟩) hS (fun q _ h => hFc q h) hFc (fun r0 r_650 t H locs ht hvm hw hB hz1 hk1 hS => ?_)
                refine W.widen (k := 0) (n := 0) (Nat.le_of_ble_eq_true rfl) (Nat.le_of_ble_eq_true rfl) ?_
                clear hvm hz1 hk1
                subst hw
                rcases hB with ⟨hre, hT⟩ | ⟨hf_651, hf_652, hf_653, hT⟩
                · refine lq_top (v := (-1)) hre ?_
                  rw [ht] at hT
                  refine lv_i2c hx hb dX12_thing_174 rfl ?_
                  refine lv_topi (fun x_654 ex_654 => ?_)
                  have hFe := em_F hS hA
                  refine va_calli (va_runV (As := [.int x_654]) (rest := []) ⟨hx, hb, hml, hown, hts⟩ (j_indexOf1 l dC dI ad av H.size i x_654 hi_i) (cwV 1 hts (gi_4 (List.mem_cons_of_mem _ (List.mem_append_left _ (List.mem_of_getElem? (i := 24) rfl))) (List.mem_cons_of_mem _ (List.mem_append_left _ (List.mem_of_getElem? (i := 25) rfl))) (List.mem_cons_of_mem _ (List.mem_append_left _ (List.mem_of_getElem? (i := 26) rfl))) (List.mem_cons_of_mem _ (List.mem_append_left _ (List.mem_of_getElem? (i := 27) rfl))) (fun _ hh => (List.mem_cons_of_mem _ (List.mem_append_right _ (List.mem_append_right _ (List.mem_append_right _ (List.mem_append_right _ (List.mem_append_right _ (List.mem_append_right _ (List.mem_append_left _ hh))))))))) gd_j_indexOf1) rfl rfl rfl (by decide +kernel) ⟨Nat.le_of_ble_eq_true rfl, Nat.le_of_ble_eq_true rfl⟩) ⟨pr_blind, st_recv (st_at hM i hi_i) hS, pr_use em_P (hK.sub [] rfl) em_D hFe hS hM⟩ rfl rfl hl.1 rfl (lv_room (Nat.le_of_ble_eq_true rfl)) dX12_thing_175 ⟨Nat.le_of_ble_eq_true rfl, Nat.le_of_ble_eq_true rfl⟩) hS (fun q _ h => hFe q h) hFe (fun r0 r_655 t H locs ht hvm hw hB hz1 hk1 hS => ?_)
                  subst hw
                  have hT := em_T hT hk1
                  obtain ⟨r_6559, hre, hbr_655, -⟩ := hB
                  refine lq_top hre ?_
                  refine lv_istore_n (lv' := [(2, .int r_6559), (0, .ref (a 50)), (1, .int p0)]) hx hb dX12_thing_178 rfl hl (by decide) rfl (fun ls hl => ?_)
                  refine lv_iload_n hx hb dX12_thing_179 rfl (lv_at hl 0 rfl) ?_
                  refine lv_if_ge (tgt := 188) hx hb dX12_thing_180 (by decide) (fun c_656 => ?_) (fun c_656 => ?_)
                  · have nc_656 := z_le (zk (x := 0) 0 rfl) rfl c_656
                    refine lv_aload_n hx hb dX12_thing_188 rfl (lv_at hl 1 rfl) ?_
                    refine lv_dup hx hb dX12_thing_189 rfl ?_
                    refine tw_get (D := (dC, dI)) (v := .int (y_518 (a 50) 45)) (C := RX12) (T := TX12) (N := 58) hx hb hts (fun _ hh => (List.mem_cons_of_mem _ (List.mem_append_right _ (List.mem_append_right _ (List.mem_append_right _ (List.mem_append_right _ (List.mem_append_left _ hh))))))) hown hK hT (fx_50 hX) (by decide) cl_e60 rfl 45 (by decide) (hts (.fieldLink RX12 197 "TypingPoolModel" "at" "I") (List.mem_cons_of_mem _ (List.mem_append_left _ (List.mem_of_getElem? (i := 19) rfl)))) (fun _ h9 => h9) rfl dX12_thing_190 ?_
                    refine lv_iconst (v := 1) hx hb dX12_thing_193 (by decide) ?_
                    refine lv_iadd hx hb dX12_thing_194 ?_
                    refine lv_topi (fun x_657 ex_657 => ?_)
                    have hx_657 := z_add ex_657 rfl (zk (x := 1) 1 rfl) (by omega) (by omega)
                    refine tw_put (D := (dC, dI)) (x := x_657) (ty := .int) (C := RX12) (T := TX12) (N := 58) hx hb hts (fun _ hh => (List.mem_cons_of_mem _ (List.mem_append_right _ (List.mem_append_right _ (List.mem_append_right _ (List.mem_append_right _ (List.mem_append_left _ hh))))))) tyX12 tyX12_ok nmX12 hown hK hT hF hS (fx_50 hX) (by decide) cl_e60 rfl 45 (by decide) (hts (.fieldLink RX12 197 "TypingPoolModel" "at" "I") (List.mem_cons_of_mem _ (List.mem_append_left _ (List.mem_of_getElem? (i := 19) rfl)))) (fun _ h9 => h9) rfl (tyX12_ok 45 (by decide)) rfl rfl (Nat.le_of_ble_eq_true rfl) rfl dX12_thing_195 (fun H locs hT hS => ?_)
                    obtain ⟨y_658, hy_658, hT⟩ : ∃ z : Nat → Nat → Int32, z = up2 y_518 (a 50) 45 x_657 ∧ tw (dC, dI) a k τ ln z g H := ⟨_, rfl, hT⟩
                    have hG : ag τ [60] y y_658 := by rw [hy_658]; exact hG.up (fx_50 hX) (by decide)
                    have : (y_658 (a 50) 43).toInt = (y_518 (a 50) 43).toInt := by rw [hy_658, up2_e (by decide)]
                    have : (y_658 (a 50) 44).toInt = (y_518 (a 50) 44).toInt := by rw [hy_658, up2_e (by decide)]
                    have : (y_658 (a 50) 45).toInt = x_657.toInt := (congrArg Int32.toInt (show y_658 (a 50) 45 = x_657 from by rw [hy_658]; exact up2_i)).trans rfl
                    have hPK : pk a y y_658 := by rw [hy_658]; exact hPK.up (by decide)
                    have hW : IW (u 1) (u 2) (u 9) (y_658 (a 89)) := by rw [hy_658, up2_o (kd_ne (fx_89 hX) (fx_50 hX) (by decide))]; exact hW
                    have hI := hI.put (f := 45) (x := x_657) (by decide)
                    rw [← hy_658] at hI
                    refine lv_aload_n hx hb dX12_thing_198 rfl (lv_at hl 1 rfl) ?_
                    refine tw_get (D := (dC, dI)) (v := .ref (a 92)) (C := RX12) (T := TX12) (N := 58) hx hb hts (fun _ hh => (List.mem_cons_of_mem _ (List.mem_append_right _ (List.mem_append_right _ (List.mem_append_right _ (List.mem_append_right _ (List.mem_append_left _ hh))))))) hown hK hT (fx_50 hX) (by decide) cl_e60 rfl 41 (by decide) (hts (.fieldLink RX12 116 "TypingPoolModel" "values" "[I") (List.mem_cons_of_mem _ (List.mem_append_left _ (List.mem_of_getElem? (i := 28) rfl)))) (fun _ h9 => h9) rfl dX12_thing_199 ?_
                    refine lv_iload_n hx hb dX12_thing_202 rfl (lv_at hl 0 rfl) ?_
                    refine tw_iald hx hb hK hT 0 (fx_92 hX) (by decide) cl_e102 rfl (z_in rfl (by omega) (by omega)) dX12_thing_203 ?_
                    have hrv : (y_658 (a 92) r_6559.toNatClampNeg).toInt = (y_658 (a 92) r_6559.toNatClampNeg).toInt := rfl
                    exact W.iret (v := y_658 (a 92) r_6559.toNatClampNeg) hx hb hr (fun t ht hW9 => ⟨⟨y_658 (a 92) r_6559.toNatClampNeg, y_658 (a 92) r_6559.toNatClampNeg, rfl, rfl, ⟨y_658, hG, hI, by omega, by omega, by omega, hPK, tw_at ht hT⟩⟩, hS.F ht⟩) hS.2.2 dX12_thing_204
                  · have nc_656 := z_nle (zk (x := 0) 0 rfl) rfl c_656
                    refine lv_aload_n hx hb dX12_thing_183 rfl (lv_at hl 1 rfl) ?_
                    have hFc := tw_free hF hS hA
                    refine va_calli (va_runV (As := []) (rest := []) ⟨hx, hb, hml, hown, hts⟩ (m_isWrong l dC dI ad av H.size a k τ ln y_518 g u  hI hW) (cwV 0 hts (gi_4 (List.mem_cons_of_mem _ (List.mem_append_left _ (List.mem_of_getElem? (i := 20) rfl))) (List.mem_cons_of_mem _ (List.mem_append_left _ (List.mem_of_getElem? (i := 21) rfl))) (List.mem_cons_of_mem _ (List.mem_append_left _ (List.mem_of_getElem? (i := 22) rfl))) (List.mem_cons_of_mem _ (List.mem_append_left _ (List.mem_of_getElem? (i := 9) rfl))) (fun _ hh => (List.mem_cons_of_mem _ (List.mem_append_right _ (List.mem_append_right _ (List.mem_append_right _ (List.mem_append_right _ (List.mem_append_right _ (List.mem_append_left _ hh)))))))) gd_m_isWrong) rfl rfl rfl (by decide +kernel) ⟨by show 0 + 1 ≤ 6 * (N + 1) + 12; omega, by show 8 + (1 + 11) + (0) ≤ 400 * (N + 1) + 400; omega⟩) ⟨pw_blind, tw_recv hK hT (fx_50 hX) (by decide) cl_e60 rfl, pw_use hT hK hFc hS hM⟩ rfl rfl hl.1 rfl (lv_room (Nat.le_of_ble_eq_true rfl)) dX12_thing_184 ⟨Nat.le_of_ble_eq_true rfl, Nat.le_of_ble_eq_true rfl⟩) hS (fun q _ h => hFc q h) hFc (fun r0 r_659 t H locs ht hvm hw hB hz1 hk1 hS => ?_)
                    refine W.widen (k := 0) (n := 0) (Nat.le_of_ble_eq_true rfl) (Nat.le_of_ble_eq_true rfl) ?_
                    clear hvm hz1 hk1
                    subst hw
                    obtain ⟨y_660, hgy_660, hI, hf_661, hf_662, hf_663, hf_664, hT⟩ := hB
                    rw [ht] at hT
                    have hG := hG.tr hgy_660 (by decide)
                    have hW : IW (u 1) (u 2) (u 9) (y_660 (a 89)) := by rw [hgy_660.at (fx_89 hX) (by decide)]; exact hW
                    have hPK := hPK.tr hf_664
                    have hrv : r_659.toInt = r_659.toInt := rfl
                    exact W.iret (v := r_659) hx hb hr (fun t ht hW9 => ⟨⟨r_659, r_659, rfl, rfl, ⟨y_660, hG, hI, by omega, by omega, by omega, hPK, tw_at ht hT⟩⟩, hS.F ht⟩) hS.2.2 dX12_thing_187
                · rw [ht] at hT
                  refine lv_i2c hx hb dX12_thing_174 rfl ?_
                  refine lv_topi (fun x_665 ex_665 => ?_)
                  have hFe := em_F hS hA
                  refine va_calli (va_runV (As := [.int x_665]) (rest := []) ⟨hx, hb, hml, hown, hts⟩ (j_indexOf1 l dC dI ad av H.size i x_665 hi_i) (cwV 1 hts (gi_4 (List.mem_cons_of_mem _ (List.mem_append_left _ (List.mem_of_getElem? (i := 24) rfl))) (List.mem_cons_of_mem _ (List.mem_append_left _ (List.mem_of_getElem? (i := 25) rfl))) (List.mem_cons_of_mem _ (List.mem_append_left _ (List.mem_of_getElem? (i := 26) rfl))) (List.mem_cons_of_mem _ (List.mem_append_left _ (List.mem_of_getElem? (i := 27) rfl))) (fun _ hh => (List.mem_cons_of_mem _ (List.mem_append_right _ (List.mem_append_right _ (List.mem_append_right _ (List.mem_append_right _ (List.mem_append_right _ (List.mem_append_right _ (List.mem_append_left _ hh))))))))) gd_j_indexOf1) rfl rfl rfl (by decide +kernel) ⟨Nat.le_of_ble_eq_true rfl, Nat.le_of_ble_eq_true rfl⟩) ⟨pr_blind, st_recv (st_at hM i hi_i) hS, pr_use em_P (hK.sub [] rfl) em_D hFe hS hM⟩ rfl rfl hl.1 rfl (lv_room (Nat.le_of_ble_eq_true rfl)) dX12_thing_175 ⟨Nat.le_of_ble_eq_true rfl, Nat.le_of_ble_eq_true rfl⟩) hS (fun q _ h => hFe q h) hFe (fun r0 r_666 t H locs ht hvm hw hB hz1 hk1 hS => ?_)
                  subst hw
                  have hT := em_T hT hk1
                  obtain ⟨r_6669, hre, hbr_666, -⟩ := hB
                  refine lq_top hre ?_
                  refine lv_istore_n (lv' := [(2, .int r_6669), (0, .ref (a 50)), (1, .int p0)]) hx hb dX12_thing_178 rfl hl (by decide) rfl (fun ls hl => ?_)
                  refine lv_iload_n hx hb dX12_thing_179 rfl (lv_at hl 0 rfl) ?_
                  refine lv_if_ge (tgt := 188) hx hb dX12_thing_180 (by decide) (fun c_667 => ?_) (fun c_667 => ?_)
                  · have nc_667 := z_le (zk (x := 0) 0 rfl) rfl c_667
                    refine lv_aload_n hx hb dX12_thing_188 rfl (lv_at hl 1 rfl) ?_
                    refine lv_dup hx hb dX12_thing_189 rfl ?_
                    refine tw_get (D := (dC, dI)) (v := .int (y_518 (a 50) 45)) (C := RX12) (T := TX12) (N := 58) hx hb hts (fun _ hh => (List.mem_cons_of_mem _ (List.mem_append_right _ (List.mem_append_right _ (List.mem_append_right _ (List.mem_append_right _ (List.mem_append_left _ hh))))))) hown hK hT (fx_50 hX) (by decide) cl_e60 rfl 45 (by decide) (hts (.fieldLink RX12 197 "TypingPoolModel" "at" "I") (List.mem_cons_of_mem _ (List.mem_append_left _ (List.mem_of_getElem? (i := 19) rfl)))) (fun _ h9 => h9) rfl dX12_thing_190 ?_
                    refine lv_iconst (v := 1) hx hb dX12_thing_193 (by decide) ?_
                    refine lv_iadd hx hb dX12_thing_194 ?_
                    refine lv_topi (fun x_668 ex_668 => ?_)
                    have hx_668 := z_add ex_668 rfl (zk (x := 1) 1 rfl) (by omega) (by omega)
                    refine tw_put (D := (dC, dI)) (x := x_668) (ty := .int) (C := RX12) (T := TX12) (N := 58) hx hb hts (fun _ hh => (List.mem_cons_of_mem _ (List.mem_append_right _ (List.mem_append_right _ (List.mem_append_right _ (List.mem_append_right _ (List.mem_append_left _ hh))))))) tyX12 tyX12_ok nmX12 hown hK hT hF hS (fx_50 hX) (by decide) cl_e60 rfl 45 (by decide) (hts (.fieldLink RX12 197 "TypingPoolModel" "at" "I") (List.mem_cons_of_mem _ (List.mem_append_left _ (List.mem_of_getElem? (i := 19) rfl)))) (fun _ h9 => h9) rfl (tyX12_ok 45 (by decide)) rfl rfl (Nat.le_of_ble_eq_true rfl) rfl dX12_thing_195 (fun H locs hT hS => ?_)
                    obtain ⟨y_669, hy_669, hT⟩ : ∃ z : Nat → Nat → Int32, z = up2 y_518 (a 50) 45 x_668 ∧ tw (dC, dI) a k τ ln z g H := ⟨_, rfl, hT⟩
                    have hG : ag τ [60] y y_669 := by rw [hy_669]; exact hG.up (fx_50 hX) (by decide)
                    have : (y_669 (a 50) 43).toInt = (y_518 (a 50) 43).toInt := by rw [hy_669, up2_e (by decide)]
                    have : (y_669 (a 50) 44).toInt = (y_518 (a 50) 44).toInt := by rw [hy_669, up2_e (by decide)]
                    have : (y_669 (a 50) 45).toInt = x_668.toInt := (congrArg Int32.toInt (show y_669 (a 50) 45 = x_668 from by rw [hy_669]; exact up2_i)).trans rfl
                    have hPK : pk a y y_669 := by rw [hy_669]; exact hPK.up (by decide)
                    have hW : IW (u 1) (u 2) (u 9) (y_669 (a 89)) := by rw [hy_669, up2_o (kd_ne (fx_89 hX) (fx_50 hX) (by decide))]; exact hW
                    have hI := hI.put (f := 45) (x := x_668) (by decide)
                    rw [← hy_669] at hI
                    refine lv_aload_n hx hb dX12_thing_198 rfl (lv_at hl 1 rfl) ?_
                    refine tw_get (D := (dC, dI)) (v := .ref (a 92)) (C := RX12) (T := TX12) (N := 58) hx hb hts (fun _ hh => (List.mem_cons_of_mem _ (List.mem_append_right _ (List.mem_append_right _ (List.mem_append_right _ (List.mem_append_right _ (List.mem_append_left _ hh))))))) hown hK hT (fx_50 hX) (by decide) cl_e60 rfl 41 (by decide) (hts (.fieldLink RX12 116 "TypingPoolModel" "values" "[I") (List.mem_cons_of_mem _ (List.mem_append_left _ (List.mem_of_getElem? (i := 28) rfl)))) (fun _ h9 => h9) rfl dX12_thing_199 ?_
                    refine lv_iload_n hx hb dX12_thing_202 rfl (lv_at hl 0 rfl) ?_
                    refine tw_iald hx hb hK hT 0 (fx_92 hX) (by decide) cl_e102 rfl (z_in rfl (by omega) (by omega)) dX12_thing_203 ?_
                    have hrv : (y_669 (a 92) r_6669.toNatClampNeg).toInt = (y_669 (a 92) r_6669.toNatClampNeg).toInt := rfl
                    exact W.iret (v := y_669 (a 92) r_6669.toNatClampNeg) hx hb hr (fun t ht hW9 => ⟨⟨y_669 (a 92) r_6669.toNatClampNeg, y_669 (a 92) r_6669.toNatClampNeg, rfl, rfl, ⟨y_669, hG, hI, by omega, by omega, by omega, hPK, tw_at ht hT⟩⟩, hS.F ht⟩) hS.2.2 dX12_thing_204
                  · have nc_667 := z_nle (zk (x := 0) 0 rfl) rfl c_667
                    refine lv_aload_n hx hb dX12_thing_183 rfl (lv_at hl 1 rfl) ?_
                    have hFc := tw_free hF hS hA
                    refine va_calli (va_runV (As := []) (rest := []) ⟨hx, hb, hml, hown, hts⟩ (m_isWrong l dC dI ad av H.size a k τ ln y_518 g u  hI hW) (cwV 0 hts (gi_4 (List.mem_cons_of_mem _ (List.mem_append_left _ (List.mem_of_getElem? (i := 20) rfl))) (List.mem_cons_of_mem _ (List.mem_append_left _ (List.mem_of_getElem? (i := 21) rfl))) (List.mem_cons_of_mem _ (List.mem_append_left _ (List.mem_of_getElem? (i := 22) rfl))) (List.mem_cons_of_mem _ (List.mem_append_left _ (List.mem_of_getElem? (i := 9) rfl))) (fun _ hh => (List.mem_cons_of_mem _ (List.mem_append_right _ (List.mem_append_right _ (List.mem_append_right _ (List.mem_append_right _ (List.mem_append_right _ (List.mem_append_left _ hh)))))))) gd_m_isWrong) rfl rfl rfl (by decide +kernel) ⟨by show 0 + 1 ≤ 6 * (N + 1) + 12; omega, by show 8 + (1 + 11) + (0) ≤ 400 * (N + 1) + 400; omega⟩) ⟨pw_blind, tw_recv hK hT (fx_50 hX) (by decide) cl_e60 rfl, pw_use hT hK hFc hS hM⟩ rfl rfl hl.1 rfl (lv_room (Nat.le_of_ble_eq_true rfl)) dX12_thing_184 ⟨Nat.le_of_ble_eq_true rfl, Nat.le_of_ble_eq_true rfl⟩) hS (fun q _ h => hFc q h) hFc (fun r0 r_670 t H locs ht hvm hw hB hz1 hk1 hS => ?_)
                    refine W.widen (k := 0) (n := 0) (Nat.le_of_ble_eq_true rfl) (Nat.le_of_ble_eq_true rfl) ?_
                    clear hvm hz1 hk1
                    subst hw
                    obtain ⟨y_671, hgy_671, hI, hf_672, hf_673, hf_674, hf_675, hT⟩ := hB
                    rw [ht] at hT
                    have hG := hG.tr hgy_671 (by decide)
                    have hW : IW (u 1) (u 2) (u 9) (y_671 (a 89)) := by rw [hgy_671.at (fx_89 hX) (by decide)]; exact hW
                    have hPK := hPK.tr hf_675
                    have hrv : r_670.toInt = r_670.toInt := rfl
                    exact W.iret (v := r_670) hx hb hr (fun t ht hW9 => ⟨⟨r_670, r_670, rfl, rfl, ⟨y_671, hG, hI, by omega, by omega, by omega, hPK, tw_at ht hT⟩⟩, hS.F ht⟩) hS.2.2 dX12_thing_187
              · have nc_649 := z_eq rfl (zk (x := (-1)) (-1) rfl) c_649
                refine lv_iconst (v := (-1)) hx hb dX12_thing_162 (by decide) ?_
                refine lv_goto (tgt := 178) hx hb dX12_thing_163 (by decide) ?_
                refine lv_istore_n (lv' := [(2, .int (-1)), (0, .ref (a 50)), (1, .int p0)]) hx hb dX12_thing_178 rfl hl (by decide) rfl (fun ls hl => ?_)
                refine lv_iload_n hx hb dX12_thing_179 rfl (lv_at hl 0 rfl) ?_
                refine lv_if_ge (tgt := 188) hx hb dX12_thing_180 (by decide) (fun c_676 => absurd c_676 (by decide)) (fun c_676 => ?_)
                refine lv_aload_n hx hb dX12_thing_183 rfl (lv_at hl 1 rfl) ?_
                have hFc := tw_free hF hS hA
                refine va_calli (va_runV (As := []) (rest := []) ⟨hx, hb, hml, hown, hts⟩ (m_isWrong l dC dI ad av H.size a k τ ln y_518 g u  hI hW) (cwV 0 hts (gi_4 (List.mem_cons_of_mem _ (List.mem_append_left _ (List.mem_of_getElem? (i := 20) rfl))) (List.mem_cons_of_mem _ (List.mem_append_left _ (List.mem_of_getElem? (i := 21) rfl))) (List.mem_cons_of_mem _ (List.mem_append_left _ (List.mem_of_getElem? (i := 22) rfl))) (List.mem_cons_of_mem _ (List.mem_append_left _ (List.mem_of_getElem? (i := 9) rfl))) (fun _ hh => (List.mem_cons_of_mem _ (List.mem_append_right _ (List.mem_append_right _ (List.mem_append_right _ (List.mem_append_right _ (List.mem_append_right _ (List.mem_append_left _ hh)))))))) gd_m_isWrong) rfl rfl rfl (by decide +kernel) ⟨by show 0 + 1 ≤ 6 * (N + 1) + 12; omega, by show 8 + (1 + 11) + (0) ≤ 400 * (N + 1) + 400; omega⟩) ⟨pw_blind, tw_recv hK hT (fx_50 hX) (by decide) cl_e60 rfl, pw_use hT hK hFc hS hM⟩ rfl rfl hl.1 rfl (lv_room (Nat.le_of_ble_eq_true rfl)) dX12_thing_184 ⟨Nat.le_of_ble_eq_true rfl, Nat.le_of_ble_eq_true rfl⟩) hS (fun q _ h => hFc q h) hFc (fun r0 r_677 t H locs ht hvm hw hB hz1 hk1 hS => ?_)
                refine W.widen (k := 0) (n := 0) (Nat.le_of_ble_eq_true rfl) (Nat.le_of_ble_eq_true rfl) ?_
                clear hvm hz1 hk1
                subst hw
                obtain ⟨y_678, hgy_678, hI, hf_679, hf_680, hf_681, hf_682, hT⟩ := hB
                rw [ht] at hT
                have hG := hG.tr hgy_678 (by decide)
                have hW : IW (u 1) (u 2) (u 9) (y_678 (a 89)) := by rw [hgy_678.at (fx_89 hX) (by decide)]; exact hW
                have hPK := hPK.tr hf_682
                have hrv : r_677.toInt = r_677.toInt := rfl
                exact W.iret (v := r_677) hx hb hr (fun t ht hW9 => ⟨⟨r_677, r_677, rfl, rfl, ⟨y_678, hG, hI, by omega, by omega, by omega, hPK, tw_at ht hT⟩⟩, hS.F ht⟩) hS.2.2 dX12_thing_187
        · have nc_610 := z_eq rfl (zk (x := 40) 40 rfl) c_610
          refine lv_iload_n hx hb dX12_thing_48 rfl (lv_at hl 1 rfl) ?_
          refine lv_bipush (v := 6) hx hb dX12_thing_49 (by decide) ?_
          refine lv_icmp_ne (tgt := 59) hx hb dX12_thing_51 (by decide) (fun c_683 => ?_) (fun c_683 => ?_)
          · have nc_683 := z_ne rfl (zk (x := 6) 6 rfl) c_683
            refine lv_aload_n hx hb dX12_thing_59 rfl (lv_at hl 0 rfl) ?_
            refine lv_dup hx hb dX12_thing_60 rfl ?_
            refine tw_get (D := (dC, dI)) (v := .int (y_518 (a 50) 45)) (C := RX12) (T := TX12) (N := 58) hx hb hts (fun _ hh => (List.mem_cons_of_mem _ (List.mem_append_right _ (List.mem_append_right _ (List.mem_append_right _ (List.mem_append_right _ (List.mem_append_left _ hh))))))) hown hK hT (fx_50 hX) (by decide) cl_e60 rfl 45 (by decide) (hts (.fieldLink RX12 197 "TypingPoolModel" "at" "I") (List.mem_cons_of_mem _ (List.mem_append_left _ (List.mem_of_getElem? (i := 19) rfl)))) (fun _ h9 => h9) rfl dX12_thing_61 ?_
            refine lv_iconst (v := 1) hx hb dX12_thing_64 (by decide) ?_
            refine lv_iadd hx hb dX12_thing_65 ?_
            refine lv_topi (fun x_684 ex_684 => ?_)
            have hx_684 := z_add ex_684 rfl (zk (x := 1) 1 rfl) (by omega) (by omega)
            refine tw_put (D := (dC, dI)) (x := x_684) (ty := .int) (C := RX12) (T := TX12) (N := 58) hx hb hts (fun _ hh => (List.mem_cons_of_mem _ (List.mem_append_right _ (List.mem_append_right _ (List.mem_append_right _ (List.mem_append_right _ (List.mem_append_left _ hh))))))) tyX12 tyX12_ok nmX12 hown hK hT hF hS (fx_50 hX) (by decide) cl_e60 rfl 45 (by decide) (hts (.fieldLink RX12 197 "TypingPoolModel" "at" "I") (List.mem_cons_of_mem _ (List.mem_append_left _ (List.mem_of_getElem? (i := 19) rfl)))) (fun _ h9 => h9) rfl (tyX12_ok 45 (by decide)) rfl rfl (Nat.le_of_ble_eq_true rfl) rfl dX12_thing_66 (fun H locs hT hS => ?_)
            obtain ⟨y_685, hy_685, hT⟩ : ∃ z : Nat → Nat → Int32, z = up2 y_518 (a 50) 45 x_684 ∧ tw (dC, dI) a k τ ln z g H := ⟨_, rfl, hT⟩
            have hG : ag τ [60] y y_685 := by rw [hy_685]; exact hG.up (fx_50 hX) (by decide)
            have : (y_685 (a 50) 43).toInt = (y_518 (a 50) 43).toInt := by rw [hy_685, up2_e (by decide)]
            have : (y_685 (a 50) 44).toInt = (y_518 (a 50) 44).toInt := by rw [hy_685, up2_e (by decide)]
            have : (y_685 (a 50) 45).toInt = x_684.toInt := (congrArg Int32.toInt (show y_685 (a 50) 45 = x_684 from by rw [hy_685]; exact up2_i)).trans rfl
            have hPK : pk a y y_685 := by rw [hy_685]; exact hPK.up (by decide)
            have hW : IW (u 1) (u 2) (u 9) (y_685 (a 89)) := by rw [hy_685, up2_o (kd_ne (fx_89 hX) (fx_50 hX) (by decide))]; exact hW
            have hI := hI.put (f := 45) (x := x_684) (by decide)
            rw [← hy_685] at hI
            refine lv_aload_n hx hb dX12_thing_69 rfl (lv_at hl 0 rfl) ?_
            refine lv_iload_n hx hb dX12_thing_70 rfl (lv_at hl 1 rfl) ?_
            refine lv_iconst (v := 1) hx hb dX12_thing_71 (by decide) ?_
            refine lv_iadd hx hb dX12_thing_72 ?_
            refine lv_topi (fun x_686 ex_686 => ?_)
            have hFc := tw_free hF hS hA
            refine va_calli (va_runV (As := [.int x_686]) (rest := []) ⟨hx, hb, hml, hown, hts⟩ (ih2 l dC dI ad av H.size a k τ ln y_685 g u x_686 sq nS i hI hs0 hcl hsg hltr hi_i hsl (by omega) (by omega) (by omega) (by omega) (by omega) hW) (cwV 1 hts (gi_4 (List.mem_cons_of_mem _ (List.mem_append_left _ (List.mem_of_getElem? (i := 29) rfl))) (List.mem_cons_of_mem _ (List.mem_append_left _ (List.mem_of_getElem? (i := 30) rfl))) (List.mem_cons_of_mem _ (List.mem_append_left _ (List.mem_of_getElem? (i := 31) rfl))) (List.mem_cons_of_mem _ (List.mem_append_left _ (List.mem_of_getElem? (i := 9) rfl))) (fun _ hh => (List.mem_cons.mp hh).elim (fun ee => by rw [ee]; exact (List.mem_cons_of_mem _ (List.mem_append_left _ (List.mem_of_getElem? (i := 5) rfl)))) (fun h9 => List.mem_cons_of_mem _ h9)) gd_g_any) rfl rfl rfl (by decide +kernel) ⟨by show 6 * N + 17 + 1 ≤ 6 * (N + 1) + 12; omega, by show 8 + (3 + 11) + (400 * N + 700) ≤ 400 * (N + 1) + 400; omega⟩) ⟨pw_blind, tw_recv hK hT (fx_50 hX) (by decide) cl_e60 rfl, pw_use hT hK hFc hS hM⟩ rfl rfl hl.1 rfl (lv_room (Nat.le_of_ble_eq_true rfl)) dX12_thing_73 ⟨Nat.le_of_ble_eq_true rfl, Nat.le_of_ble_eq_true rfl⟩) hS (fun q _ h => hFc q h) hFc (fun r0 r_687 t H locs ht hvm hw hB hz1 hk1 hS => ?_)
            refine W.widen (k := 0) (n := 0) (Nat.le_of_ble_eq_true rfl) (Nat.le_of_ble_eq_true rfl) ?_
            clear hvm hz1 hk1
            subst hw
            obtain ⟨y_688, hgy_688, hI, hf_689, hf_690, hf_691, hf_692, hT⟩ := hB
            rw [ht] at hT
            have hG := hG.tr hgy_688 (by decide)
            have hW : IW (u 1) (u 2) (u 9) (y_688 (a 89)) := by rw [hgy_688.at (fx_89 hX) (by decide)]; exact hW
            have hPK := hPK.tr hf_692
            refine lv_istore_n (lv' := [(2, .int r_687), (0, .ref (a 50)), (1, .int p0)]) hx hb dX12_thing_76 rfl hl (by decide) rfl (fun ls hl => ?_)
            refine lv_aload_n hx hb dX12_thing_77 rfl (lv_at hl 1 rfl) ?_
            have hFc := tw_free hF hS hA
            refine va_calli (va_runV (As := []) (rest := []) ⟨hx, hb, hml, hown, hts⟩ (m_fine l dC dI ad av H.size a k τ ln y_688 g u  hI hW) (cwV 0 hts (gi_4 (List.mem_cons_of_mem _ (List.mem_append_left _ (List.mem_of_getElem? (i := 32) rfl))) (List.mem_cons_of_mem _ (List.mem_append_left _ (List.mem_of_getElem? (i := 33) rfl))) (List.mem_cons_of_mem _ (List.mem_append_left _ (List.mem_of_getElem? (i := 34) rfl))) (List.mem_cons_of_mem _ (List.mem_append_left _ (List.mem_of_getElem? (i := 9) rfl))) (fun _ hh => (List.mem_cons_of_mem _ (List.mem_append_right _ (List.mem_append_right _ (List.mem_append_right _ (List.mem_append_right _ (List.mem_append_right _ (List.mem_append_right _ (List.mem_append_right _ (List.mem_append_left _ hh)))))))))) gd_m_fine) rfl rfl rfl (by decide +kernel) ⟨by show 0 + 1 ≤ 6 * (N + 1) + 12; omega, by show 8 + (1 + 11) + (0) ≤ 400 * (N + 1) + 400; omega⟩) ⟨pw_blind, tw_recv hK hT (fx_50 hX) (by decide) cl_e60 rfl, pw_use hT hK hFc hS hM⟩ rfl rfl hl.1 rfl (lv_room (Nat.le_of_ble_eq_true rfl)) dX12_thing_78 ⟨Nat.le_of_ble_eq_true rfl, Nat.le_of_ble_eq_true rfl⟩) hS (fun q _ h => hFc q h) hFc (fun r0 r_693 t H locs ht hvm hw hB hz1 hk1 hS => ?_)
            refine W.widen (k := 0) (n := 0) (Nat.le_of_ble_eq_true rfl) (Nat.le_of_ble_eq_true rfl) ?_
            clear hvm hz1 hk1
            subst hw
            rcases hB with ⟨hre, hT⟩ | ⟨hre, hT⟩
            · refine lq_top (v := 1) hre ?_
              rw [ht] at hT
              refine lv_if_eq (tgt := 98) hx hb dX12_thing_81 (by decide) (fun c_694 => absurd c_694 (by decide)) (fun c_694 => ?_)
              refine lv_aload_n hx hb dX12_thing_84 rfl (lv_at hl 1 rfl) ?_
              refine lv_bipush (v := 41) hx hb dX12_thing_85 (by decide) ?_
              have hFc := tw_free hF hS hA
              have hp_695 : (41 : Int32).toInt = 41 := (zk (x := 41) 41 rfl)
              refine va_calli (va_runV (As := [.int 41]) (rest := []) ⟨hx, hb, hml, hown, hts⟩ (m_comes l dC dI ad av H.size a k τ ln y_688 g u (41 : Int32) sq nS i hI hs0 hcl hsg hltr hi_i hsl (by omega) (by omega) (by omega) (by omega) (by decide) hW) (cwV 1 hts (gi_4 (List.mem_cons_of_mem _ (List.mem_append_left _ (List.mem_of_getElem? (i := 6) rfl))) (List.mem_cons_of_mem _ (List.mem_append_left _ (List.mem_of_getElem? (i := 7) rfl))) (List.mem_cons_of_mem _ (List.mem_append_left _ (List.mem_of_getElem? (i := 8) rfl))) (List.mem_cons_of_mem _ (List.mem_append_left _ (List.mem_of_getElem? (i := 9) rfl))) (fun _ hh => (List.mem_cons_of_mem _ (List.mem_append_right _ (List.mem_append_left _ hh)))) gd_m_comes) rfl rfl rfl (by decide +kernel) ⟨by show 1 + 1 ≤ 6 * (N + 1) + 12; omega, by show 8 + (2 + 11) + (60) ≤ 400 * (N + 1) + 400; omega⟩) ⟨pw_blind, tw_recv hK hT (fx_50 hX) (by decide) cl_e60 rfl, pw_use hT hK hFc hS hM⟩ rfl rfl hl.1 rfl (lv_room (Nat.le_of_ble_eq_true rfl)) dX12_thing_87 ⟨Nat.le_of_ble_eq_true rfl, Nat.le_of_ble_eq_true rfl⟩) hS (fun q _ h => hFc q h) hFc (fun r0 r_696 t H locs ht hvm hw hB hz1 hk1 hS => ?_)
              refine W.widen (k := 0) (n := 0) (Nat.le_of_ble_eq_true rfl) (Nat.le_of_ble_eq_true rfl) ?_
              clear hvm hz1 hk1
              subst hw
              rcases hB with ⟨y_697, hre, hgy_697, hI, hf_698, hf_699, hf_700, hf_701, hf_702, hT⟩ | ⟨y_703, hre, hgy_703, hI, hf_704, hf_705, hf_706, hf_707, hf_708, hT⟩
              · refine lq_top (v := 1) hre ?_
                rw [ht] at hT
                have hG := hG.tr hgy_697 (by decide)
                have hW : IW (u 1) (u 2) (u 9) (y_697 (a 89)) := by rw [hgy_697.at (fx_89 hX) (by decide)]; exact hW
                try simp only [hp_695] at hf_698 hf_699 hf_700 hf_701 hf_702
                clear hp_695
                have hPK := hPK.tr hf_701
                refine lv_if_ne (tgt := 98) hx hb dX12_thing_90 (by decide) (fun c_709 => ?_) (fun c_709 => absurd c_709 (by decide))
                refine lv_iload_n hx hb dX12_thing_98 rfl (lv_at hl 0 rfl) ?_
                have hrv : r_687.toInt = r_687.toInt := rfl
                exact W.iret (v := r_687) hx hb hr (fun t ht hW9 => ⟨⟨r_687, r_687, rfl, rfl, ⟨y_697, hG, hI, by omega, by omega, by omega, hPK, tw_at ht hT⟩⟩, hS.F ht⟩) hS.2.2 dX12_thing_99
              · refine lq_top (v := 0) hre ?_
                rw [ht] at hT
                have hG := hG.tr hgy_703 (by decide)
                have hW : IW (u 1) (u 2) (u 9) (y_703 (a 89)) := by rw [hgy_703.at (fx_89 hX) (by decide)]; exact hW
                try simp only [hp_695] at hf_704 hf_705 hf_706 hf_707 hf_708
                clear hp_695
                have hPK := hPK.tr hf_707
                refine lv_if_ne (tgt := 98) hx hb dX12_thing_90 (by decide) (fun c_710 => absurd c_710 (by decide)) (fun c_710 => ?_)
                refine lv_aload_n hx hb dX12_thing_93 rfl (lv_at hl 1 rfl) ?_
                have hFc := tw_free hF hS hA
                refine va_calli (va_runV (As := []) (rest := []) ⟨hx, hb, hml, hown, hts⟩ (m_isWrong l dC dI ad av H.size a k τ ln y_703 g u  hI hW) (cwV 0 hts (gi_4 (List.mem_cons_of_mem _ (List.mem_append_left _ (List.mem_of_getElem? (i := 20) rfl))) (List.mem_cons_of_mem _ (List.mem_append_left _ (List.mem_of_getElem? (i := 21) rfl))) (List.mem_cons_of_mem _ (List.mem_append_left _ (List.mem_of_getElem? (i := 22) rfl))) (List.mem_cons_of_mem _ (List.mem_append_left _ (List.mem_of_getElem? (i := 9) rfl))) (fun _ hh => (List.mem_cons_of_mem _ (List.mem_append_right _ (List.mem_append_right _ (List.mem_append_right _ (List.mem_append_right _ (List.mem_append_right _ (List.mem_append_left _ hh)))))))) gd_m_isWrong) rfl rfl rfl (by decide +kernel) ⟨by show 0 + 1 ≤ 6 * (N + 1) + 12; omega, by show 8 + (1 + 11) + (0) ≤ 400 * (N + 1) + 400; omega⟩) ⟨pw_blind, tw_recv hK hT (fx_50 hX) (by decide) cl_e60 rfl, pw_use hT hK hFc hS hM⟩ rfl rfl hl.1 rfl (lv_room (Nat.le_of_ble_eq_true rfl)) dX12_thing_94 ⟨Nat.le_of_ble_eq_true rfl, Nat.le_of_ble_eq_true rfl⟩) hS (fun q _ h => hFc q h) hFc (fun r0 r_711 t H locs ht hvm hw hB hz1 hk1 hS => ?_)
                refine W.widen (k := 0) (n := 0) (Nat.le_of_ble_eq_true rfl) (Nat.le_of_ble_eq_true rfl) ?_
                clear hvm hz1 hk1
                subst hw
                obtain ⟨y_712, hgy_712, hI, hf_713, hf_714, hf_715, hf_716, hT⟩ := hB
                rw [ht] at hT
                have hG := hG.tr hgy_712 (by decide)
                have hW : IW (u 1) (u 2) (u 9) (y_712 (a 89)) := by rw [hgy_712.at (fx_89 hX) (by decide)]; exact hW
                have hPK := hPK.tr hf_716
                refine lv_pop hx hb dX12_thing_97 rfl ?_
                refine lv_iload_n hx hb dX12_thing_98 rfl (lv_at hl 0 rfl) ?_
                have hrv : r_687.toInt = r_687.toInt := rfl
                exact W.iret (v := r_687) hx hb hr (fun t ht hW9 => ⟨⟨r_687, r_687, rfl, rfl, ⟨y_712, hG, hI, by omega, by omega, by omega, hPK, tw_at ht hT⟩⟩, hS.F ht⟩) hS.2.2 dX12_thing_99
            · refine lq_top (v := 0) hre ?_
              rw [ht] at hT
              refine lv_if_eq (tgt := 98) hx hb dX12_thing_81 (by decide) (fun c_717 => ?_) (fun c_717 => absurd c_717 (by decide))
              refine lv_iload_n hx hb dX12_thing_98 rfl (lv_at hl 0 rfl) ?_
              have hrv : r_687.toInt = r_687.toInt := rfl
              exact W.iret (v := r_687) hx hb hr (fun t ht hW9 => ⟨⟨r_687, r_687, rfl, rfl, ⟨y_688, hG, hI, by omega, by omega, by omega, hPK, tw_at ht hT⟩⟩, hS.F ht⟩) hS.2.2 dX12_thing_99
          · have nc_683 := z_eq rfl (zk (x := 6) 6 rfl) c_683
            refine lv_aload_n hx hb dX12_thing_54 rfl (lv_at hl 0 rfl) ?_
            have hFc := tw_free hF hS hA
            refine va_calli (va_runV (As := []) (rest := []) ⟨hx, hb, hml, hown, hts⟩ (m_isWrong l dC dI ad av H.size a k τ ln y_518 g u  hI hW) (cwV 0 hts (gi_4 (List.mem_cons_of_mem _ (List.mem_append_left _ (List.mem_of_getElem? (i := 20) rfl))) (List.mem_cons_of_mem _ (List.mem_append_left _ (List.mem_of_getElem? (i := 21) rfl))) (List.mem_cons_of_mem _ (List.mem_append_left _ (List.mem_of_getElem? (i := 22) rfl))) (List.mem_cons_of_mem _ (List.mem_append_left _ (List.mem_of_getElem? (i := 9) rfl))) (fun _ hh => (List.mem_cons_of_mem _ (List.mem_append_right _ (List.mem_append_right _ (List.mem_append_right _ (List.mem_append_right _ (List.mem_append_right _ (List.mem_append_left _ hh)))))))) gd_m_isWrong) rfl rfl rfl (by decide +kernel) ⟨by show 0 + 1 ≤ 6 * (N + 1) + 12; omega, by show 8 + (1 + 11) + (0) ≤ 400 * (N + 1) + 400; omega⟩) ⟨pw_blind, tw_recv hK hT (fx_50 hX) (by decide) cl_e60 rfl, pw_use hT hK hFc hS hM⟩ rfl rfl hl.1 rfl (lv_room (Nat.le_of_ble_eq_true rfl)) dX12_thing_55 ⟨Nat.le_of_ble_eq_true rfl, Nat.le_of_ble_eq_true rfl⟩) hS (fun q _ h => hFc q h) hFc (fun r0 r_718 t H locs ht hvm hw hB hz1 hk1 hS => ?_)
            refine W.widen (k := 0) (n := 0) (Nat.le_of_ble_eq_true rfl) (Nat.le_of_ble_eq_true rfl) ?_
            clear hvm hz1 hk1
            subst hw
            obtain ⟨y_719, hgy_719, hI, hf_720, hf_721, hf_722, hf_723, hT⟩ := hB
            rw [ht] at hT
            have hG := hG.tr hgy_719 (by decide)
            have hW : IW (u 1) (u 2) (u 9) (y_719 (a 89)) := by rw [hgy_719.at (fx_89 hX) (by decide)]; exact hW
            have hPK := hPK.tr hf_723
            have hrv : r_718.toInt = r_718.toInt := rfl
            exact W.iret (v := r_718) hx hb hr (fun t ht hW9 => ⟨⟨r_718, r_718, rfl, rfl, ⟨y_719, hG, hI, by omega, by omega, by omega, hPK, tw_at ht hT⟩⟩, hS.F ht⟩) hS.2.2 dX12_thing_58

set_option maxHeartbeats 4000000 in
set_option maxRecDepth 100000 in
theorem g_product_step (N : Nat) (ih1 : St_g_thing N) : St_g_product N := by
  intro l dC dI ad av sz a k τ ln y g u p0 sq nS i hI hs0 hcl hsg hltr hi_i hsl hbg hsz hft hat hN hW
  refine Met.ofW (cc := cX12_product) (maxL := 3) (ret := (some .int)) (by decide) rfl ?_
  intro p e s m args below meth c s₁ B hml hv
  obtain ⟨rfl, hsz, hT, hK, hM⟩ := hv
  have hx := B.exec
  have hb := B.bytes
  have hr := B.returns
  have hts := atoms_spec (ws := wm_g_product) B.pre
  have hown : s.vm.findClass RX12 = some m.cls := findClass_of_methodNamed B.named
  have hlocks := B.notSynchronized
  subst hsz
  generalize hAe : fr τ s.heap.size = A at hM ⊢
  have hA : ∀ q : Nat, s.heap.size ≤ q → A q := fun q h => by rw [← hAe]; exact Or.inr h
  have hF : ∀ q, τ q ≠ 0 → A q := fun q h => by rw [← hAe]; exact Or.inl h
  have hS : va_S A s.heap s.heap [] := va_S.rf
  have hX := hI.1
  have hR := im_r hI
  have hG : ag τ [60] y y := ag.rf
  have hl := lv_entry ([.ref (a 50), .int p0]) (n := 3) (Nat.le_of_ble_eq_true rfl)
  rw [lg_entry_eq]
  generalize (lg_sl ([.ref (a 50), .int p0]) ++ List.replicate (3 - (lg_sl ([.ref (a 50), .int p0])).length) Slot.unset).toArray = ls at hl ⊢
  have hl : lv_has ls 3 [(0, .ref (a 50)), (1, .int p0)] := hl
  have hPK : pk a y y := pk_rf
  refine lv_aload_n hx hb dX12_product_0 rfl (lv_at hl 0 rfl) ?_
  refine lv_iload_n hx hb dX12_product_1 rfl (lv_at hl 1 rfl) ?_
  have hFc := tw_free hF hS hA
  refine va_calli (va_runV (As := [.int p0]) (rest := []) ⟨hx, hb, hml, hown, hts⟩ (ih1 l dC dI ad av s.heap.size a k τ ln y g u p0 sq nS i hI hs0 hcl hsg hltr hi_i hsl (by omega) (by omega) (by omega) (by omega) (by omega) hW) (cwV 1 hts (gi_4 (List.mem_cons_of_mem _ (List.mem_append_left _ (List.mem_of_getElem? (i := 10) rfl))) (List.mem_cons_of_mem _ (List.mem_append_left _ (List.mem_of_getElem? (i := 11) rfl))) (List.mem_cons_of_mem _ (List.mem_append_left _ (List.mem_of_getElem? (i := 12) rfl))) (List.mem_cons_of_mem _ (List.mem_append_left _ (List.mem_of_getElem? (i := 9) rfl))) (fun _ hh => (List.mem_cons.mp hh).elim (fun ee => by rw [ee]; exact (List.mem_cons_of_mem _ (List.mem_append_left _ (List.mem_of_getElem? (i := 0) rfl)))) (fun h9 => List.mem_cons_of_mem _ h9)) gd_g_thing) rfl rfl rfl (by decide +kernel) ⟨by show 6 * N + 12 + 1 ≤ 6 * N + 13; omega, by show 8 + (4 + 11) + (400 * N + 400) ≤ 400 * N + 460; omega⟩) ⟨pw_blind, tw_recv hK hT (fx_50 hX) (by decide) cl_e60 rfl, pw_use hT hK hFc hS hM⟩ rfl rfl hl.1 rfl (lv_room (Nat.le_of_ble_eq_true rfl)) dX12_product_2 ⟨Nat.le_of_ble_eq_true rfl, Nat.le_of_ble_eq_true rfl⟩) hS (fun q _ h => hFc q h) hFc (fun r0 r_724 t H locs ht hvm hw hB hz1 hk1 hS => ?_)
  refine W.widen (k := 0) (n := 0) (Nat.le_of_ble_eq_true rfl) (Nat.le_of_ble_eq_true rfl) ?_
  clear hvm hz1 hk1
  subst hw
  obtain ⟨y_725, hgy_725, hI, hf_726, hf_727, hf_728, hf_729, hT⟩ := hB
  rw [ht] at hT
  have hG := hG.tr hgy_725 (by decide)
  have hW : IW (u 1) (u 2) (u 9) (y_725 (a 89)) := by rw [hgy_725.at (fx_89 hX) (by decide)]; exact hW
  have hPK := hPK.tr hf_729
  refine lv_istore_n (lv' := [(2, .int r_724), (0, .ref (a 50)), (1, .int p0)]) hx hb dX12_product_5 rfl hl (by decide) rfl (fun ls hl => ?_)
  have loop_6 : ∀ (n : Nat) (w2 : Int32) (y_L6 : Nat → Nat → Int32) (H : Heap) (locs : List Loc) (ls : Array Slot), (60 - (y_L6 (a 50) 45).toInt).toNat < n → ag τ [60] y y_L6 → IM a u τ y_L6 → IW (u 1) (u 2) (u 9) (y_L6 (a 89)) → pk a y y_L6 → (y_L6 (a 50) 43).toInt = (y (a 50) 43).toInt → (y_L6 (a 50) 44).toInt = (y (a 50) 44).toInt → (y (a 50) 45).toInt ≤ (y_L6 (a 50) 45).toInt ∧ (y_L6 (a 50) 45).toInt ≤ 60 → tw (dC, dI) a k τ ln y_L6 g H → va_S A s.heap H locs → lv_has ls 3 [(0, .ref (a 50)), (1, .int p0), (2, .int w2)] → W p l e (headSpec wm_g_product ({ frames := 6 * N + 13, cells := 0, slots := 0, locals := 400 * N + 460 })).room s m ([.ref (a 50), .int p0] : List Value).toArray below meth c H locs 0 0 (MQ below (va_Qi (fun (r u : Int32) => u = r) (fun (r : Int32) (t : State) => (∃ (y' : Nat → Nat → Int32), ag τ [60] y y' ∧ IM a u τ y' ∧ (y' (a 50) 43).toInt = (y (a 50) 43).toInt ∧ (y' (a 50) 44).toInt = (y (a 50) 44).toInt ∧ ((y (a 50) 45).toInt ≤ (y' (a 50) 45).toInt ∧ (y' (a 50) 45).toInt ≤ 60) ∧ pk a y y' ∧ tw (dC, dI) a k τ ln y' g t.heap)) A) ([.ref (a 50), .int p0] : List Value).toArray s 0 0 A) (F0 m 6 ls []) := by
    intro n
    induction n with
    | zero => intro w2 y_L6 H locs ls hlt; exact absurd hlt (Nat.not_lt_zero _)
    | succ n ih_6 =>
      intro w2 y_L6 H locs ls hlt hG hI hW hPK hi6_0 hi6_1 hi6_2 hT hS hl
      refine lv_aload_n hx hb dX12_product_6 rfl (lv_at hl 0 rfl) ?_
      have hFc := tw_free hF hS hA
      refine va_calli (va_runV (As := []) (rest := []) ⟨hx, hb, hml, hown, hts⟩ (m_fine l dC dI ad av H.size a k τ ln y_L6 g u  hI hW) (cwV 0 hts (gi_4 (List.mem_cons_of_mem _ (List.mem_append_left _ (List.mem_of_getElem? (i := 32) rfl))) (List.mem_cons_of_mem _ (List.mem_append_left _ (List.mem_of_getElem? (i := 33) rfl))) (List.mem_cons_of_mem _ (List.mem_append_left _ (List.mem_of_getElem? (i := 34) rfl))) (List.mem_cons_of_mem _ (List.mem_append_left _ (List.mem_of_getElem? (i := 9) rfl))) (fun _ hh => (List.mem_cons_of_mem _ (List.mem_append_right _ (List.mem_append_right _ (List.mem_append_right _ (List.mem_append_right _ (List.mem_append_right _ (List.mem_append_right _ (List.mem_append_right _ (List.mem_append_left _ hh)))))))))) gd_m_fine) rfl rfl rfl (by decide +kernel) ⟨by show 0 + 1 ≤ 6 * N + 13; omega, by show 8 + (1 + 11) + (0) ≤ 400 * N + 460; omega⟩) ⟨pw_blind, tw_recv hK hT (fx_50 hX) (by decide) cl_e60 rfl, pw_use hT hK hFc hS hM⟩ rfl rfl hl.1 rfl (lv_room (Nat.le_of_ble_eq_true rfl)) dX12_product_7 ⟨Nat.le_of_ble_eq_true rfl, Nat.le_of_ble_eq_true rfl⟩) hS (fun q _ h => hFc q h) hFc (fun r0 r_730 t H locs ht hvm hw hB hz1 hk1 hS => ?_)
      refine W.widen (k := 0) (n := 0) (Nat.le_of_ble_eq_true rfl) (Nat.le_of_ble_eq_true rfl) ?_
      clear hvm hz1 hk1
      subst hw
      rcases hB with ⟨hre, hT⟩ | ⟨hre, hT⟩
      · refine lq_top (v := 1) hre ?_
        rw [ht] at hT
        refine lv_if_eq (tgt := 33) hx hb dX12_product_10 (by decide) (fun c_731 => absurd c_731 (by decide)) (fun c_731 => ?_)
        refine lv_aload_n hx hb dX12_product_13 rfl (lv_at hl 0 rfl) ?_
        refine lv_bipush (v := 42) hx hb dX12_product_14 (by decide) ?_
        have hFc := tw_free hF hS hA
        have hp_732 : (42 : Int32).toInt = 42 := (zk (x := 42) 42 rfl)
        refine va_calli (va_runV (As := [.int 42]) (rest := []) ⟨hx, hb, hml, hown, hts⟩ (m_comes l dC dI ad av H.size a k τ ln y_L6 g u (42 : Int32) sq nS i hI hs0 hcl hsg hltr hi_i hsl (by omega) (by omega) (by omega) (by omega) (by decide) hW) (cwV 1 hts (gi_4 (List.mem_cons_of_mem _ (List.mem_append_left _ (List.mem_of_getElem? (i := 6) rfl))) (List.mem_cons_of_mem _ (List.mem_append_left _ (List.mem_of_getElem? (i := 7) rfl))) (List.mem_cons_of_mem _ (List.mem_append_left _ (List.mem_of_getElem? (i := 8) rfl))) (List.mem_cons_of_mem _ (List.mem_append_left _ (List.mem_of_getElem? (i := 9) rfl))) (fun _ hh => (List.mem_cons_of_mem _ (List.mem_append_right _ (List.mem_append_left _ hh)))) gd_m_comes) rfl rfl rfl (by decide +kernel) ⟨by show 1 + 1 ≤ 6 * N + 13; omega, by show 8 + (2 + 11) + (60) ≤ 400 * N + 460; omega⟩) ⟨pw_blind, tw_recv hK hT (fx_50 hX) (by decide) cl_e60 rfl, pw_use hT hK hFc hS hM⟩ rfl rfl hl.1 rfl (lv_room (Nat.le_of_ble_eq_true rfl)) dX12_product_16 ⟨Nat.le_of_ble_eq_true rfl, Nat.le_of_ble_eq_true rfl⟩) hS (fun q _ h => hFc q h) hFc (fun r0 r_733 t H locs ht hvm hw hB hz1 hk1 hS => ?_)
        refine W.widen (k := 0) (n := 0) (Nat.le_of_ble_eq_true rfl) (Nat.le_of_ble_eq_true rfl) ?_
        clear hvm hz1 hk1
        subst hw
        rcases hB with ⟨y_734, hre, hgy_734, hI, hf_735, hf_736, hf_737, hf_738, hf_739, hT⟩ | ⟨y_740, hre, hgy_740, hI, hf_741, hf_742, hf_743, hf_744, hf_745, hT⟩
        · refine lq_top (v := 1) hre ?_
          rw [ht] at hT
          have hG := hG.tr hgy_734 (by decide)
          have hW : IW (u 1) (u 2) (u 9) (y_734 (a 89)) := by rw [hgy_734.at (fx_89 hX) (by decide)]; exact hW
          try simp only [hp_732] at hf_735 hf_736 hf_737 hf_738 hf_739
          clear hp_732
          have hPK := hPK.tr hf_738
          refine lv_if_eq (tgt := 33) hx hb dX12_product_19 (by decide) (fun c_746 => absurd c_746 (by decide)) (fun c_746 => ?_)
          refine lv_iload_n hx hb dX12_product_22 rfl (lv_at hl 2 rfl) ?_
          refine lv_aload_n hx hb dX12_product_23 rfl (lv_at hl 0 rfl) ?_
          refine lv_iload_n hx hb dX12_product_24 rfl (lv_at hl 1 rfl) ?_
          have hFc := tw_free hF hS hA
          refine va_calli (va_runV (As := [.int p0]) (rest := [.int w2]) ⟨hx, hb, hml, hown, hts⟩ (ih1 l dC dI ad av H.size a k τ ln y_734 g u p0 sq nS i hI hs0 hcl hsg hltr hi_i hsl (by omega) (by omega) (by omega) (by omega) (by omega) hW) (cwV 1 hts (gi_4 (List.mem_cons_of_mem _ (List.mem_append_left _ (List.mem_of_getElem? (i := 10) rfl))) (List.mem_cons_of_mem _ (List.mem_append_left _ (List.mem_of_getElem? (i := 11) rfl))) (List.mem_cons_of_mem _ (List.mem_append_left _ (List.mem_of_getElem? (i := 12) rfl))) (List.mem_cons_of_mem _ (List.mem_append_left _ (List.mem_of_getElem? (i := 9) rfl))) (fun _ hh => (List.mem_cons.mp hh).elim (fun ee => by rw [ee]; exact (List.mem_cons_of_mem _ (List.mem_append_left _ (List.mem_of_getElem? (i := 0) rfl)))) (fun h9 => List.mem_cons_of_mem _ h9)) gd_g_thing) rfl rfl rfl (by decide +kernel) ⟨by show 6 * N + 12 + 1 ≤ 6 * N + 13; omega, by show 8 + (4 + 11) + (400 * N + 400) ≤ 400 * N + 460; omega⟩) ⟨pw_blind, tw_recv hK hT (fx_50 hX) (by decide) cl_e60 rfl, pw_use hT hK hFc hS hM⟩ rfl rfl hl.1 rfl (lv_room (Nat.le_of_ble_eq_true rfl)) dX12_product_25 ⟨Nat.le_of_ble_eq_true rfl, Nat.le_of_ble_eq_true rfl⟩) hS (fun q _ h => hFc q h) hFc (fun r0 r_747 t H locs ht hvm hw hB hz1 hk1 hS => ?_)
          refine W.widen (k := 0) (n := 0) (Nat.le_of_ble_eq_true rfl) (Nat.le_of_ble_eq_true rfl) ?_
          clear hvm hz1 hk1
          subst hw
          obtain ⟨y_748, hgy_748, hI, hf_749, hf_750, hf_751, hf_752, hT⟩ := hB
          rw [ht] at hT
          have hG := hG.tr hgy_748 (by decide)
          have hW : IW (u 1) (u 2) (u 9) (y_748 (a 89)) := by rw [hgy_748.at (fx_89 hX) (by decide)]; exact hW
          have hPK := hPK.tr hf_752
          refine lv_imul hx hb dX12_product_28 ?_
          refine lv_topi (fun x_753 ex_753 => ?_)
          refine lv_istore_n (lv' := [(2, .int x_753), (0, .ref (a 50)), (1, .int p0)]) hx hb dX12_product_29 rfl hl (by decide) rfl (fun ls hl => ?_)
          refine lv_goto (tgt := 6) hx hb dX12_product_30 (by decide) ?_
          exact ih_6  x_753 y_748 H _ ls (by omega) hG hI hW hPK (by omega) (by omega) (by omega) hT hS (lv_sub hl [1, 2, 0] rfl)
        · refine lq_top (v := 0) hre ?_
          rw [ht] at hT
          have hG := hG.tr hgy_740 (by decide)
          have hW : IW (u 1) (u 2) (u 9) (y_740 (a 89)) := by rw [hgy_740.at (fx_89 hX) (by decide)]; exact hW
          try simp only [hp_732] at hf_741 hf_742 hf_743 hf_744 hf_745
          clear hp_732
          have hPK := hPK.tr hf_744
          refine lv_if_eq (tgt := 33) hx hb dX12_product_19 (by decide) (fun c_754 => ?_) (fun c_754 => absurd c_754 (by decide))
          refine lv_iload_n hx hb dX12_product_33 rfl (lv_at hl 2 rfl) ?_
          have hrv : w2.toInt = w2.toInt := rfl
          exact W.iret (v := w2) hx hb hr (fun t ht hW9 => ⟨⟨w2, w2, rfl, rfl, ⟨y_740, hG, hI, by omega, by omega, by omega, hPK, tw_at ht hT⟩⟩, hS.F ht⟩) hS.2.2 dX12_product_34
      · refine lq_top (v := 0) hre ?_
        rw [ht] at hT
        refine lv_if_eq (tgt := 33) hx hb dX12_product_10 (by decide) (fun c_755 => ?_) (fun c_755 => absurd c_755 (by decide))
        refine lv_iload_n hx hb dX12_product_33 rfl (lv_at hl 2 rfl) ?_
        have hrv : w2.toInt = w2.toInt := rfl
        exact W.iret (v := w2) hx hb hr (fun t ht hW9 => ⟨⟨w2, w2, rfl, rfl, ⟨y_L6, hG, hI, by omega, by omega, by omega, hPK, tw_at ht hT⟩⟩, hS.F ht⟩) hS.2.2 dX12_product_34
  exact loop_6 _ r_724 y_725 H _ ls (Nat.lt_succ_self _) hG hI hW hPK (by omega) (by omega) (by omega) hT hS (lv_sub hl [1, 2, 0] rfl)

set_option maxHeartbeats 4000000 in
set_option maxRecDepth 100000 in
theorem g_sum_step (N : Nat) (ih1 : St_g_product N) : St_g_sum N := by
  intro l dC dI ad av sz a k τ ln y g u p0 sq nS i hI hs0 hcl hsg hltr hi_i hsl hbg hsz hft hat hN hW
  refine Met.ofW (cc := cX12_sum) (maxL := 3) (ret := (some .int)) (by decide) rfl ?_
  intro p e s m args below meth c s₁ B hml hv
  obtain ⟨rfl, hsz, hT, hK, hM⟩ := hv
  have hx := B.exec
  have hb := B.bytes
  have hr := B.returns
  have hts := atoms_spec (ws := wm_g_sum) B.pre
  have hown : s.vm.findClass RX12 = some m.cls := findClass_of_methodNamed B.named
  have hlocks := B.notSynchronized
  subst hsz
  generalize hAe : fr τ s.heap.size = A at hM ⊢
  have hA : ∀ q : Nat, s.heap.size ≤ q → A q := fun q h => by rw [← hAe]; exact Or.inr h
  have hF : ∀ q, τ q ≠ 0 → A q := fun q h => by rw [← hAe]; exact Or.inl h
  have hS : va_S A s.heap s.heap [] := va_S.rf
  have hX := hI.1
  have hR := im_r hI
  have hG : ag τ [60] y y := ag.rf
  have hl := lv_entry ([.ref (a 50), .int p0]) (n := 3) (Nat.le_of_ble_eq_true rfl)
  rw [lg_entry_eq]
  generalize (lg_sl ([.ref (a 50), .int p0]) ++ List.replicate (3 - (lg_sl ([.ref (a 50), .int p0])).length) Slot.unset).toArray = ls at hl ⊢
  have hl : lv_has ls 3 [(0, .ref (a 50)), (1, .int p0)] := hl
  have hPK : pk a y y := pk_rf
  refine lv_aload_n hx hb dX12_sum_0 rfl (lv_at hl 0 rfl) ?_
  refine lv_iload_n hx hb dX12_sum_1 rfl (lv_at hl 1 rfl) ?_
  have hFc := tw_free hF hS hA
  refine va_calli (va_runV (As := [.int p0]) (rest := []) ⟨hx, hb, hml, hown, hts⟩ (ih1 l dC dI ad av s.heap.size a k τ ln y g u p0 sq nS i hI hs0 hcl hsg hltr hi_i hsl (by omega) (by omega) (by omega) (by omega) (by omega) hW) (cwV 1 hts (gi_4 (List.mem_cons_of_mem _ (List.mem_append_left _ (List.mem_of_getElem? (i := 35) rfl))) (List.mem_cons_of_mem _ (List.mem_append_left _ (List.mem_of_getElem? (i := 36) rfl))) (List.mem_cons_of_mem _ (List.mem_append_left _ (List.mem_of_getElem? (i := 37) rfl))) (List.mem_cons_of_mem _ (List.mem_append_left _ (List.mem_of_getElem? (i := 9) rfl))) (fun _ hh => (List.mem_cons.mp hh).elim (fun ee => by rw [ee]; exact (List.mem_cons_of_mem _ (List.mem_append_left _ (List.mem_of_getElem? (i := 1) rfl)))) (fun h9 => List.mem_cons_of_mem _ h9)) gd_g_product) rfl rfl rfl (by decide +kernel) ⟨by show 6 * N + 13 + 1 ≤ 6 * N + 14; omega, by show 8 + (3 + 11) + (400 * N + 460) ≤ 400 * N + 520; omega⟩) ⟨pw_blind, tw_recv hK hT (fx_50 hX) (by decide) cl_e60 rfl, pw_use hT hK hFc hS hM⟩ rfl rfl hl.1 rfl (lv_room (Nat.le_of_ble_eq_true rfl)) dX12_sum_2 ⟨Nat.le_of_ble_eq_true rfl, Nat.le_of_ble_eq_true rfl⟩) hS (fun q _ h => hFc q h) hFc (fun r0 r_756 t H locs ht hvm hw hB hz1 hk1 hS => ?_)
  refine W.widen (k := 0) (n := 0) (Nat.le_of_ble_eq_true rfl) (Nat.le_of_ble_eq_true rfl) ?_
  clear hvm hz1 hk1
  subst hw
  obtain ⟨y_757, hgy_757, hI, hf_758, hf_759, hf_760, hf_761, hT⟩ := hB
  rw [ht] at hT
  have hG := hG.tr hgy_757 (by decide)
  have hW : IW (u 1) (u 2) (u 9) (y_757 (a 89)) := by rw [hgy_757.at (fx_89 hX) (by decide)]; exact hW
  have hPK := hPK.tr hf_761
  refine lv_istore_n (lv' := [(2, .int r_756), (0, .ref (a 50)), (1, .int p0)]) hx hb dX12_sum_5 rfl hl (by decide) rfl (fun ls hl => ?_)
  have loop_6 : ∀ (n : Nat) (w2 : Int32) (y_L6 : Nat → Nat → Int32) (H : Heap) (locs : List Loc) (ls : Array Slot), (60 - (y_L6 (a 50) 45).toInt).toNat < n → ag τ [60] y y_L6 → IM a u τ y_L6 → IW (u 1) (u 2) (u 9) (y_L6 (a 89)) → pk a y y_L6 → (y_L6 (a 50) 43).toInt = (y (a 50) 43).toInt → (y_L6 (a 50) 44).toInt = (y (a 50) 44).toInt → (y (a 50) 45).toInt ≤ (y_L6 (a 50) 45).toInt ∧ (y_L6 (a 50) 45).toInt ≤ 60 → tw (dC, dI) a k τ ln y_L6 g H → va_S A s.heap H locs → lv_has ls 3 [(0, .ref (a 50)), (1, .int p0), (2, .int w2)] → W p l e (headSpec wm_g_sum ({ frames := 6 * N + 14, cells := 0, slots := 0, locals := 400 * N + 520 })).room s m ([.ref (a 50), .int p0] : List Value).toArray below meth c H locs 0 0 (MQ below (va_Qi (fun (r u : Int32) => u = r) (fun (r : Int32) (t : State) => (∃ (y' : Nat → Nat → Int32), ag τ [60] y y' ∧ IM a u τ y' ∧ (y' (a 50) 43).toInt = (y (a 50) 43).toInt ∧ (y' (a 50) 44).toInt = (y (a 50) 44).toInt ∧ ((y (a 50) 45).toInt ≤ (y' (a 50) 45).toInt ∧ (y' (a 50) 45).toInt ≤ 60) ∧ pk a y y' ∧ tw (dC, dI) a k τ ln y' g t.heap)) A) ([.ref (a 50), .int p0] : List Value).toArray s 0 0 A) (F0 m 6 ls []) := by
    intro n
    induction n with
    | zero => intro w2 y_L6 H locs ls hlt; exact absurd hlt (Nat.not_lt_zero _)
    | succ n ih_6 =>
      intro w2 y_L6 H locs ls hlt hG hI hW hPK hi6_0 hi6_1 hi6_2 hT hS hl
      refine lv_aload_n hx hb dX12_sum_6 rfl (lv_at hl 0 rfl) ?_
      have hFc := tw_free hF hS hA
      refine va_calli (va_runV (As := []) (rest := []) ⟨hx, hb, hml, hown, hts⟩ (m_fine l dC dI ad av H.size a k τ ln y_L6 g u  hI hW) (cwV 0 hts (gi_4 (List.mem_cons_of_mem _ (List.mem_append_left _ (List.mem_of_getElem? (i := 32) rfl))) (List.mem_cons_of_mem _ (List.mem_append_left _ (List.mem_of_getElem? (i := 33) rfl))) (List.mem_cons_of_mem _ (List.mem_append_left _ (List.mem_of_getElem? (i := 34) rfl))) (List.mem_cons_of_mem _ (List.mem_append_left _ (List.mem_of_getElem? (i := 9) rfl))) (fun _ hh => (List.mem_cons_of_mem _ (List.mem_append_right _ (List.mem_append_right _ (List.mem_append_right _ (List.mem_append_right _ (List.mem_append_right _ (List.mem_append_right _ (List.mem_append_right _ (List.mem_append_left _ hh)))))))))) gd_m_fine) rfl rfl rfl (by decide +kernel) ⟨by show 0 + 1 ≤ 6 * N + 14; omega, by show 8 + (1 + 11) + (0) ≤ 400 * N + 520; omega⟩) ⟨pw_blind, tw_recv hK hT (fx_50 hX) (by decide) cl_e60 rfl, pw_use hT hK hFc hS hM⟩ rfl rfl hl.1 rfl (lv_room (Nat.le_of_ble_eq_true rfl)) dX12_sum_7 ⟨Nat.le_of_ble_eq_true rfl, Nat.le_of_ble_eq_true rfl⟩) hS (fun q _ h => hFc q h) hFc (fun r0 r_762 t H locs ht hvm hw hB hz1 hk1 hS => ?_)
      refine W.widen (k := 0) (n := 0) (Nat.le_of_ble_eq_true rfl) (Nat.le_of_ble_eq_true rfl) ?_
      clear hvm hz1 hk1
      subst hw
      rcases hB with ⟨hre, hT⟩ | ⟨hre, hT⟩
      · refine lq_top (v := 1) hre ?_
        rw [ht] at hT
        refine lv_if_eq (tgt := 53) hx hb dX12_sum_10 (by decide) (fun c_763 => absurd c_763 (by decide)) (fun c_763 => ?_)
        refine lv_aload_n hx hb dX12_sum_13 rfl (lv_at hl 0 rfl) ?_
        refine lv_bipush (v := 43) hx hb dX12_sum_14 (by decide) ?_
        have hFc := tw_free hF hS hA
        have hp_764 : (43 : Int32).toInt = 43 := (zk (x := 43) 43 rfl)
        refine va_calli (va_runV (As := [.int 43]) (rest := []) ⟨hx, hb, hml, hown, hts⟩ (m_comes l dC dI ad av H.size a k τ ln y_L6 g u (43 : Int32) sq nS i hI hs0 hcl hsg hltr hi_i hsl (by omega) (by omega) (by omega) (by omega) (by decide) hW) (cwV 1 hts (gi_4 (List.mem_cons_of_mem _ (List.mem_append_left _ (List.mem_of_getElem? (i := 6) rfl))) (List.mem_cons_of_mem _ (List.mem_append_left _ (List.mem_of_getElem? (i := 7) rfl))) (List.mem_cons_of_mem _ (List.mem_append_left _ (List.mem_of_getElem? (i := 8) rfl))) (List.mem_cons_of_mem _ (List.mem_append_left _ (List.mem_of_getElem? (i := 9) rfl))) (fun _ hh => (List.mem_cons_of_mem _ (List.mem_append_right _ (List.mem_append_left _ hh)))) gd_m_comes) rfl rfl rfl (by decide +kernel) ⟨by show 1 + 1 ≤ 6 * N + 14; omega, by show 8 + (2 + 11) + (60) ≤ 400 * N + 520; omega⟩) ⟨pw_blind, tw_recv hK hT (fx_50 hX) (by decide) cl_e60 rfl, pw_use hT hK hFc hS hM⟩ rfl rfl hl.1 rfl (lv_room (Nat.le_of_ble_eq_true rfl)) dX12_sum_16 ⟨Nat.le_of_ble_eq_true rfl, Nat.le_of_ble_eq_true rfl⟩) hS (fun q _ h => hFc q h) hFc (fun r0 r_765 t H locs ht hvm hw hB hz1 hk1 hS => ?_)
        refine W.widen (k := 0) (n := 0) (Nat.le_of_ble_eq_true rfl) (Nat.le_of_ble_eq_true rfl) ?_
        clear hvm hz1 hk1
        subst hw
        rcases hB with ⟨y_766, hre, hgy_766, hI, hf_767, hf_768, hf_769, hf_770, hf_771, hT⟩ | ⟨y_772, hre, hgy_772, hI, hf_773, hf_774, hf_775, hf_776, hf_777, hT⟩
        · refine lq_top (v := 1) hre ?_
          rw [ht] at hT
          have hG := hG.tr hgy_766 (by decide)
          have hW : IW (u 1) (u 2) (u 9) (y_766 (a 89)) := by rw [hgy_766.at (fx_89 hX) (by decide)]; exact hW
          try simp only [hp_764] at hf_767 hf_768 hf_769 hf_770 hf_771
          clear hp_764
          have hPK := hPK.tr hf_770
          refine lv_if_eq (tgt := 33) hx hb dX12_sum_19 (by decide) (fun c_778 => absurd c_778 (by decide)) (fun c_778 => ?_)
          refine lv_iload_n hx hb dX12_sum_22 rfl (lv_at hl 2 rfl) ?_
          refine lv_aload_n hx hb dX12_sum_23 rfl (lv_at hl 0 rfl) ?_
          refine lv_iload_n hx hb dX12_sum_24 rfl (lv_at hl 1 rfl) ?_
          have hFc := tw_free hF hS hA
          refine va_calli (va_runV (As := [.int p0]) (rest := [.int w2]) ⟨hx, hb, hml, hown, hts⟩ (ih1 l dC dI ad av H.size a k τ ln y_766 g u p0 sq nS i hI hs0 hcl hsg hltr hi_i hsl (by omega) (by omega) (by omega) (by omega) (by omega) hW) (cwV 1 hts (gi_4 (List.mem_cons_of_mem _ (List.mem_append_left _ (List.mem_of_getElem? (i := 35) rfl))) (List.mem_cons_of_mem _ (List.mem_append_left _ (List.mem_of_getElem? (i := 36) rfl))) (List.mem_cons_of_mem _ (List.mem_append_left _ (List.mem_of_getElem? (i := 37) rfl))) (List.mem_cons_of_mem _ (List.mem_append_left _ (List.mem_of_getElem? (i := 9) rfl))) (fun _ hh => (List.mem_cons.mp hh).elim (fun ee => by rw [ee]; exact (List.mem_cons_of_mem _ (List.mem_append_left _ (List.mem_of_getElem? (i := 1) rfl)))) (fun h9 => List.mem_cons_of_mem _ h9)) gd_g_product) rfl rfl rfl (by decide +kernel) ⟨by show 6 * N + 13 + 1 ≤ 6 * N + 14; omega, by show 8 + (3 + 11) + (400 * N + 460) ≤ 400 * N + 520; omega⟩) ⟨pw_blind, tw_recv hK hT (fx_50 hX) (by decide) cl_e60 rfl, pw_use hT hK hFc hS hM⟩ rfl rfl hl.1 rfl (lv_room (Nat.le_of_ble_eq_true rfl)) dX12_sum_25 ⟨Nat.le_of_ble_eq_true rfl, Nat.le_of_ble_eq_true rfl⟩) hS (fun q _ h => hFc q h) hFc (fun r0 r_779 t H locs ht hvm hw hB hz1 hk1 hS => ?_)
          refine W.widen (k := 0) (n := 0) (Nat.le_of_ble_eq_true rfl) (Nat.le_of_ble_eq_true rfl) ?_
          clear hvm hz1 hk1
          subst hw
          obtain ⟨y_780, hgy_780, hI, hf_781, hf_782, hf_783, hf_784, hT⟩ := hB
          rw [ht] at hT
          have hG := hG.tr hgy_780 (by decide)
          have hW : IW (u 1) (u 2) (u 9) (y_780 (a 89)) := by rw [hgy_780.at (fx_89 hX) (by decide)]; exact hW
          have hPK := hPK.tr hf_784
          refine lv_iadd hx hb dX12_sum_28 ?_
          refine lv_topi (fun x_785 ex_785 => ?_)
          refine lv_istore_n (lv' := [(2, .int x_785), (0, .ref (a 50)), (1, .int p0)]) hx hb dX12_sum_29 rfl hl (by decide) rfl (fun ls hl => ?_)
          refine lv_goto (tgt := 6) hx hb dX12_sum_30 (by decide) ?_
          exact ih_6  x_785 y_780 H _ ls (by omega) hG hI hW hPK (by omega) (by omega) (by omega) hT hS (lv_sub hl [1, 2, 0] rfl)
        · refine lq_top (v := 0) hre ?_
          rw [ht] at hT
          have hG := hG.tr hgy_772 (by decide)
          have hW : IW (u 1) (u 2) (u 9) (y_772 (a 89)) := by rw [hgy_772.at (fx_89 hX) (by decide)]; exact hW
          try simp only [hp_764] at hf_773 hf_774 hf_775 hf_776 hf_777
          clear hp_764
          have hPK := hPK.tr hf_776
          refine lv_if_eq (tgt := 33) hx hb dX12_sum_19 (by decide) (fun c_786 => ?_) (fun c_786 => absurd c_786 (by decide))
          refine lv_aload_n hx hb dX12_sum_33 rfl (lv_at hl 0 rfl) ?_
          refine lv_bipush (v := 45) hx hb dX12_sum_34 (by decide) ?_
          have hFc := tw_free hF hS hA
          have hp_787 : (45 : Int32).toInt = 45 := (zk (x := 45) 45 rfl)
          refine va_calli (va_runV (As := [.int 45]) (rest := []) ⟨hx, hb, hml, hown, hts⟩ (m_comes l dC dI ad av H.size a k τ ln y_772 g u (45 : Int32) sq nS i hI hs0 hcl hsg hltr hi_i hsl (by omega) (by omega) (by omega) (by omega) (by decide) hW) (cwV 1 hts (gi_4 (List.mem_cons_of_mem _ (List.mem_append_left _ (List.mem_of_getElem? (i := 6) rfl))) (List.mem_cons_of_mem _ (List.mem_append_left _ (List.mem_of_getElem? (i := 7) rfl))) (List.mem_cons_of_mem _ (List.mem_append_left _ (List.mem_of_getElem? (i := 8) rfl))) (List.mem_cons_of_mem _ (List.mem_append_left _ (List.mem_of_getElem? (i := 9) rfl))) (fun _ hh => (List.mem_cons_of_mem _ (List.mem_append_right _ (List.mem_append_left _ hh)))) gd_m_comes) rfl rfl rfl (by decide +kernel) ⟨by show 1 + 1 ≤ 6 * N + 14; omega, by show 8 + (2 + 11) + (60) ≤ 400 * N + 520; omega⟩) ⟨pw_blind, tw_recv hK hT (fx_50 hX) (by decide) cl_e60 rfl, pw_use hT hK hFc hS hM⟩ rfl rfl hl.1 rfl (lv_room (Nat.le_of_ble_eq_true rfl)) dX12_sum_36 ⟨Nat.le_of_ble_eq_true rfl, Nat.le_of_ble_eq_true rfl⟩) hS (fun q _ h => hFc q h) hFc (fun r0 r_788 t H locs ht hvm hw hB hz1 hk1 hS => ?_)
          refine W.widen (k := 0) (n := 0) (Nat.le_of_ble_eq_true rfl) (Nat.le_of_ble_eq_true rfl) ?_
          clear hvm hz1 hk1
          subst hw
          rcases hB with ⟨y_789, hre, hgy_789, hI, hf_790, hf_791, hf_792, hf_793, hf_794, hT⟩ | ⟨y_795, hre, hgy_795, hI, hf_796, hf_797, hf_798, hf_799, hf_800, hT⟩
          · refine lq_top (v := 1) hre ?_
            rw [ht] at hT
            have hG := hG.tr hgy_789 (by decide)
            have hW : IW (u 1) (u 2) (u 9) (y_789 (a 89)) := by rw [hgy_789.at (fx_89 hX) (by decide)]; exact hW
            try simp only [hp_787] at hf_790 hf_791 hf_792 hf_793 hf_794
            clear hp_787
            have hPK := hPK.tr hf_793
            refine lv_if_eq (tgt := 53) hx hb dX12_sum_39 (by decide) (fun c_801 => absurd c_801 (by decide)) (fun c_801 => ?_)
            refine lv_iload_n hx hb dX12_sum_42 rfl (lv_at hl 2 rfl) ?_
            refine lv_aload_n hx hb dX12_sum_43 rfl (lv_at hl 0 rfl) ?_
            refine lv_iload_n hx hb dX12_sum_44 rfl (lv_at hl 1 rfl) ?_
            have hFc := tw_free hF hS hA
            refine va_calli (va_runV (As := [.int p0]) (rest := [.int w2]) ⟨hx, hb, hml, hown, hts⟩ (ih1 l dC dI ad av H.size a k τ ln y_789 g u p0 sq nS i hI hs0 hcl hsg hltr hi_i hsl (by omega) (by omega) (by omega) (by omega) (by omega) hW) (cwV 1 hts (gi_4 (List.mem_cons_of_mem _ (List.mem_append_left _ (List.mem_of_getElem? (i := 35) rfl))) (List.mem_cons_of_mem _ (List.mem_append_left _ (List.mem_of_getElem? (i := 36) rfl))) (List.mem_cons_of_mem _ (List.mem_append_left _ (List.mem_of_getElem? (i := 37) rfl))) (List.mem_cons_of_mem _ (List.mem_append_left _ (List.mem_of_getElem? (i := 9) rfl))) (fun _ hh => (List.mem_cons.mp hh).elim (fun ee => by rw [ee]; exact (List.mem_cons_of_mem _ (List.mem_append_left _ (List.mem_of_getElem? (i := 1) rfl)))) (fun h9 => List.mem_cons_of_mem _ h9)) gd_g_product) rfl rfl rfl (by decide +kernel) ⟨by show 6 * N + 13 + 1 ≤ 6 * N + 14; omega, by show 8 + (3 + 11) + (400 * N + 460) ≤ 400 * N + 520; omega⟩) ⟨pw_blind, tw_recv hK hT (fx_50 hX) (by decide) cl_e60 rfl, pw_use hT hK hFc hS hM⟩ rfl rfl hl.1 rfl (lv_room (Nat.le_of_ble_eq_true rfl)) dX12_sum_45 ⟨Nat.le_of_ble_eq_true rfl, Nat.le_of_ble_eq_true rfl⟩) hS (fun q _ h => hFc q h) hFc (fun r0 r_802 t H locs ht hvm hw hB hz1 hk1 hS => ?_)
            refine W.widen (k := 0) (n := 0) (Nat.le_of_ble_eq_true rfl) (Nat.le_of_ble_eq_true rfl) ?_
            clear hvm hz1 hk1
            subst hw
            obtain ⟨y_803, hgy_803, hI, hf_804, hf_805, hf_806, hf_807, hT⟩ := hB
            rw [ht] at hT
            have hG := hG.tr hgy_803 (by decide)
            have hW : IW (u 1) (u 2) (u 9) (y_803 (a 89)) := by rw [hgy_803.at (fx_89 hX) (by decide)]; exact hW
            have hPK := hPK.tr hf_807
            refine lv_isub hx hb dX12_sum_48 ?_
            refine lv_topi (fun x_808 ex_808 => ?_)
            refine lv_istore_n (lv' := [(2, .int x_808), (0, .ref (a 50)), (1, .int p0)]) hx hb dX12_sum_49 rfl hl (by decide) rfl (fun ls hl => ?_)
            refine lv_goto (tgt := 6) hx hb dX12_sum_50 (by decide) ?_
            exact ih_6  x_808 y_803 H _ ls (by omega) hG hI hW hPK (by omega) (by omega) (by omega) hT hS (lv_sub hl [1, 2, 0] rfl)
          · refine lq_top (v := 0) hre ?_
            rw [ht] at hT
            have hG := hG.tr hgy_795 (by decide)
            have hW : IW (u 1) (u 2) (u 9) (y_795 (a 89)) := by rw [hgy_795.at (fx_89 hX) (by decide)]; exact hW
            try simp only [hp_787] at hf_796 hf_797 hf_798 hf_799 hf_800
            clear hp_787
            have hPK := hPK.tr hf_799
            refine lv_if_eq (tgt := 53) hx hb dX12_sum_39 (by decide) (fun c_809 => ?_) (fun c_809 => absurd c_809 (by decide))
            refine lv_iload_n hx hb dX12_sum_53 rfl (lv_at hl 2 rfl) ?_
            have hrv : w2.toInt = w2.toInt := rfl
            exact W.iret (v := w2) hx hb hr (fun t ht hW9 => ⟨⟨w2, w2, rfl, rfl, ⟨y_795, hG, hI, by omega, by omega, by omega, hPK, tw_at ht hT⟩⟩, hS.F ht⟩) hS.2.2 dX12_sum_54
      · refine lq_top (v := 0) hre ?_
        rw [ht] at hT
        refine lv_if_eq (tgt := 53) hx hb dX12_sum_10 (by decide) (fun c_810 => ?_) (fun c_810 => absurd c_810 (by decide))
        refine lv_iload_n hx hb dX12_sum_53 rfl (lv_at hl 2 rfl) ?_
        have hrv : w2.toInt = w2.toInt := rfl
        exact W.iret (v := w2) hx hb hr (fun t ht hW9 => ⟨⟨w2, w2, rfl, rfl, ⟨y_L6, hG, hI, by omega, by omega, by omega, hPK, tw_at ht hT⟩⟩, hS.F ht⟩) hS.2.2 dX12_sum_54
  exact loop_6 _ r_756 y_757 H _ ls (Nat.lt_succ_self _) hG hI hW hPK (by omega) (by omega) (by omega) hT hS (lv_sub hl [1, 2, 0] rfl)

set_option maxHeartbeats 4000000 in
set_option maxRecDepth 100000 in
theorem g_held_step (N : Nat) (ih1 : St_g_sum N) : St_g_held N := by
  intro l dC dI ad av sz a k τ ln y g u p0 sq nS i hI hs0 hcl hsg hltr hi_i hsl hbg hsz hft hat hN hW
  refine Met.ofW (cc := cX12_held) (maxL := 3) (ret := (some .int)) (by decide) rfl ?_
  intro p e s m args below meth c s₁ B hml hv
  obtain ⟨rfl, hsz, hT, hK, hM⟩ := hv
  have hx := B.exec
  have hb := B.bytes
  have hr := B.returns
  have hts := atoms_spec (ws := wm_g_held) B.pre
  have hown : s.vm.findClass RX12 = some m.cls := findClass_of_methodNamed B.named
  have hlocks := B.notSynchronized
  subst hsz
  generalize hAe : fr τ s.heap.size = A at hM ⊢
  have hA : ∀ q : Nat, s.heap.size ≤ q → A q := fun q h => by rw [← hAe]; exact Or.inr h
  have hF : ∀ q, τ q ≠ 0 → A q := fun q h => by rw [← hAe]; exact Or.inl h
  have hS : va_S A s.heap s.heap [] := va_S.rf
  have hX := hI.1
  have hR := im_r hI
  have hG : ag τ [60] y y := ag.rf
  have hl := lv_entry ([.ref (a 50), .int p0]) (n := 3) (Nat.le_of_ble_eq_true rfl)
  rw [lg_entry_eq]
  generalize (lg_sl ([.ref (a 50), .int p0]) ++ List.replicate (3 - (lg_sl ([.ref (a 50), .int p0])).length) Slot.unset).toArray = ls at hl ⊢
  have hl : lv_has ls 3 [(0, .ref (a 50)), (1, .int p0)] := hl
  have hPK : pk a y y := pk_rf
  refine lv_aload_n hx hb dX12_held_0 rfl (lv_at hl 0 rfl) ?_
  refine lv_iload_n hx hb dX12_held_1 rfl (lv_at hl 1 rfl) ?_
  have hFc := tw_free hF hS hA
  refine va_calli (va_runV (As := [.int p0]) (rest := []) ⟨hx, hb, hml, hown, hts⟩ (ih1 l dC dI ad av s.heap.size a k τ ln y g u p0 sq nS i hI hs0 hcl hsg hltr hi_i hsl (by omega) (by omega) (by omega) (by omega) (by omega) hW) (cwV 1 hts (gi_4 (List.mem_cons_of_mem _ (List.mem_append_left _ (List.mem_of_getElem? (i := 38) rfl))) (List.mem_cons_of_mem _ (List.mem_append_left _ (List.mem_of_getElem? (i := 39) rfl))) (List.mem_cons_of_mem _ (List.mem_append_left _ (List.mem_of_getElem? (i := 40) rfl))) (List.mem_cons_of_mem _ (List.mem_append_left _ (List.mem_of_getElem? (i := 9) rfl))) (fun _ hh => (List.mem_cons.mp hh).elim (fun ee => by rw [ee]; exact (List.mem_cons_of_mem _ (List.mem_append_left _ (List.mem_of_getElem? (i := 2) rfl)))) (fun h9 => List.mem_cons_of_mem _ h9)) gd_g_sum) rfl rfl rfl (by decide +kernel) ⟨by show 6 * N + 14 + 1 ≤ 6 * N + 15; omega, by show 8 + (3 + 11) + (400 * N + 520) ≤ 400 * N + 580; omega⟩) ⟨pw_blind, tw_recv hK hT (fx_50 hX) (by decide) cl_e60 rfl, pw_use hT hK hFc hS hM⟩ rfl rfl hl.1 rfl (lv_room (Nat.le_of_ble_eq_true rfl)) dX12_held_2 ⟨Nat.le_of_ble_eq_true rfl, Nat.le_of_ble_eq_true rfl⟩) hS (fun q _ h => hFc q h) hFc (fun r0 r_811 t H locs ht hvm hw hB hz1 hk1 hS => ?_)
  refine W.widen (k := 0) (n := 0) (Nat.le_of_ble_eq_true rfl) (Nat.le_of_ble_eq_true rfl) ?_
  clear hvm hz1 hk1
  subst hw
  obtain ⟨y_812, hgy_812, hI, hf_813, hf_814, hf_815, hf_816, hT⟩ := hB
  rw [ht] at hT
  have hG := hG.tr hgy_812 (by decide)
  have hW : IW (u 1) (u 2) (u 9) (y_812 (a 89)) := by rw [hgy_812.at (fx_89 hX) (by decide)]; exact hW
  have hPK := hPK.tr hf_816
  refine lv_istore_n (lv' := [(2, .int r_811), (0, .ref (a 50)), (1, .int p0)]) hx hb dX12_held_5 rfl hl (by decide) rfl (fun ls hl => ?_)
  refine lv_aload_n hx hb dX12_held_6 rfl (lv_at hl 1 rfl) ?_
  have hFc := tw_free hF hS hA
  refine va_calli (va_runV (As := []) (rest := []) ⟨hx, hb, hml, hown, hts⟩ (m_fine l dC dI ad av H.size a k τ ln y_812 g u  hI hW) (cwV 0 hts (gi_4 (List.mem_cons_of_mem _ (List.mem_append_left _ (List.mem_of_getElem? (i := 32) rfl))) (List.mem_cons_of_mem _ (List.mem_append_left _ (List.mem_of_getElem? (i := 33) rfl))) (List.mem_cons_of_mem _ (List.mem_append_left _ (List.mem_of_getElem? (i := 34) rfl))) (List.mem_cons_of_mem _ (List.mem_append_left _ (List.mem_of_getElem? (i := 9) rfl))) (fun _ hh => (List.mem_cons_of_mem _ (List.mem_append_right _ (List.mem_append_right _ (List.mem_append_right _ (List.mem_append_right _ (List.mem_append_right _ (List.mem_append_right _ (List.mem_append_right _ (List.mem_append_left _ hh)))))))))) gd_m_fine) rfl rfl rfl (by decide +kernel) ⟨by show 0 + 1 ≤ 6 * N + 15; omega, by show 8 + (1 + 11) + (0) ≤ 400 * N + 580; omega⟩) ⟨pw_blind, tw_recv hK hT (fx_50 hX) (by decide) cl_e60 rfl, pw_use hT hK hFc hS hM⟩ rfl rfl hl.1 rfl (lv_room (Nat.le_of_ble_eq_true rfl)) dX12_held_7 ⟨Nat.le_of_ble_eq_true rfl, Nat.le_of_ble_eq_true rfl⟩) hS (fun q _ h => hFc q h) hFc (fun r0 r_817 t H locs ht hvm hw hB hz1 hk1 hS => ?_)
  refine W.widen (k := 0) (n := 0) (Nat.le_of_ble_eq_true rfl) (Nat.le_of_ble_eq_true rfl) ?_
  clear hvm hz1 hk1
  subst hw
  rcases hB with ⟨hre, hT⟩ | ⟨hre, hT⟩
  · refine lq_top (v := 1) hre ?_
    rw [ht] at hT
    refine lv_if_ne (tgt := 15) hx hb dX12_held_10 (by decide) (fun c_818 => ?_) (fun c_818 => absurd c_818 (by decide))
    refine lv_aload_n hx hb dX12_held_15 rfl (lv_at hl 1 rfl) ?_
    refine lv_bipush (v := 60) hx hb dX12_held_16 (by decide) ?_
    have hFc := tw_free hF hS hA
    have hp_819 : (60 : Int32).toInt = 60 := (zk (x := 60) 60 rfl)
    refine va_calli (va_runV (As := [.int 60]) (rest := []) ⟨hx, hb, hml, hown, hts⟩ (m_comes l dC dI ad av H.size a k τ ln y_812 g u (60 : Int32) sq nS i hI hs0 hcl hsg hltr hi_i hsl (by omega) (by omega) (by omega) (by omega) (by decide) hW) (cwV 1 hts (gi_4 (List.mem_cons_of_mem _ (List.mem_append_left _ (List.mem_of_getElem? (i := 6) rfl))) (List.mem_cons_of_mem _ (List.mem_append_left _ (List.mem_of_getElem? (i := 7) rfl))) (List.mem_cons_of_mem _ (List.mem_append_left _ (List.mem_of_getElem? (i := 8) rfl))) (List.mem_cons_of_mem _ (List.mem_append_left _ (List.mem_of_getElem? (i := 9) rfl))) (fun _ hh => (List.mem_cons_of_mem _ (List.mem_append_right _ (List.mem_append_left _ hh)))) gd_m_comes) rfl rfl rfl (by decide +kernel) ⟨by show 1 + 1 ≤ 6 * N + 15; omega, by show 8 + (2 + 11) + (60) ≤ 400 * N + 580; omega⟩) ⟨pw_blind, tw_recv hK hT (fx_50 hX) (by decide) cl_e60 rfl, pw_use hT hK hFc hS hM⟩ rfl rfl hl.1 rfl (lv_room (Nat.le_of_ble_eq_true rfl)) dX12_held_18 ⟨Nat.le_of_ble_eq_true rfl, Nat.le_of_ble_eq_true rfl⟩) hS (fun q _ h => hFc q h) hFc (fun r0 r_820 t H locs ht hvm hw hB hz1 hk1 hS => ?_)
    refine W.widen (k := 0) (n := 0) (Nat.le_of_ble_eq_true rfl) (Nat.le_of_ble_eq_true rfl) ?_
    clear hvm hz1 hk1
    subst hw
    rcases hB with ⟨y_821, hre, hgy_821, hI, hf_822, hf_823, hf_824, hf_825, hf_826, hT⟩ | ⟨y_827, hre, hgy_827, hI, hf_828, hf_829, hf_830, hf_831, hf_832, hT⟩
    · refine lq_top (v := 1) hre ?_
      rw [ht] at hT
      have hG := hG.tr hgy_821 (by decide)
      have hW : IW (u 1) (u 2) (u 9) (y_821 (a 89)) := by rw [hgy_821.at (fx_89 hX) (by decide)]; exact hW
      try simp only [hp_819] at hf_822 hf_823 hf_824 hf_825 hf_826
      clear hp_819
      have hPK := hPK.tr hf_825
      refine lv_if_eq (tgt := 39) hx hb dX12_held_21 (by decide) (fun c_833 => absurd c_833 (by decide)) (fun c_833 => ?_)
      refine lv_iload_n hx hb dX12_held_24 rfl (lv_at hl 0 rfl) ?_
      refine lv_aload_n hx hb dX12_held_25 rfl (lv_at hl 1 rfl) ?_
      refine lv_iload_n hx hb dX12_held_26 rfl (lv_at hl 2 rfl) ?_
      have hFc := tw_free hF hS hA
      refine va_calli (va_runV (As := [.int p0]) (rest := [.int r_811]) ⟨hx, hb, hml, hown, hts⟩ (ih1 l dC dI ad av H.size a k τ ln y_821 g u p0 sq nS i hI hs0 hcl hsg hltr hi_i hsl (by omega) (by omega) (by omega) (by omega) (by omega) hW) (cwV 1 hts (gi_4 (List.mem_cons_of_mem _ (List.mem_append_left _ (List.mem_of_getElem? (i := 38) rfl))) (List.mem_cons_of_mem _ (List.mem_append_left _ (List.mem_of_getElem? (i := 39) rfl))) (List.mem_cons_of_mem _ (List.mem_append_left _ (List.mem_of_getElem? (i := 40) rfl))) (List.mem_cons_of_mem _ (List.mem_append_left _ (List.mem_of_getElem? (i := 9) rfl))) (fun _ hh => (List.mem_cons.mp hh).elim (fun ee => by rw [ee]; exact (List.mem_cons_of_mem _ (List.mem_append_left _ (List.mem_of_getElem? (i := 2) rfl)))) (fun h9 => List.mem_cons_of_mem _ h9)) gd_g_sum) rfl rfl rfl (by decide +kernel) ⟨by show 6 * N + 14 + 1 ≤ 6 * N + 15; omega, by show 8 + (3 + 11) + (400 * N + 520) ≤ 400 * N + 580; omega⟩) ⟨pw_blind, tw_recv hK hT (fx_50 hX) (by decide) cl_e60 rfl, pw_use hT hK hFc hS hM⟩ rfl rfl hl.1 rfl (lv_room (Nat.le_of_ble_eq_true rfl)) dX12_held_27 ⟨Nat.le_of_ble_eq_true rfl, Nat.le_of_ble_eq_true rfl⟩) hS (fun q _ h => hFc q h) hFc (fun r0 r_834 t H locs ht hvm hw hB hz1 hk1 hS => ?_)
      refine W.widen (k := 0) (n := 0) (Nat.le_of_ble_eq_true rfl) (Nat.le_of_ble_eq_true rfl) ?_
      clear hvm hz1 hk1
      subst hw
      obtain ⟨y_835, hgy_835, hI, hf_836, hf_837, hf_838, hf_839, hT⟩ := hB
      rw [ht] at hT
      have hG := hG.tr hgy_835 (by decide)
      have hW : IW (u 1) (u 2) (u 9) (y_835 (a 89)) := by rw [hgy_835.at (fx_89 hX) (by decide)]; exact hW
      have hPK := hPK.tr hf_839
      refine lv_icmp_ge (tgt := 37) hx hb dX12_held_30 (by decide) (fun c_840 => ?_) (fun c_840 => ?_)
      · have nc_840 := z_le rfl rfl c_840
        refine lv_iconst (v := 0) hx hb dX12_held_37 (by decide) ?_
        have hrv : (0 : Int32).toInt = 0 := (zk (x := 0) 0 rfl)
        exact W.iret (v := 0) hx hb hr (fun t ht hW9 => ⟨⟨0, 0, rfl, rfl, ⟨y_835, hG, hI, by omega, by omega, by omega, hPK, tw_at ht hT⟩⟩, hS.F ht⟩) hS.2.2 dX12_held_38
      · have nc_840 := z_nle rfl rfl c_840
        refine lv_iconst (v := 1) hx hb dX12_held_33 (by decide) ?_
        refine lv_goto (tgt := 38) hx hb dX12_held_34 (by decide) ?_
        have hrv : (1 : Int32).toInt = 1 := (zk (x := 1) 1 rfl)
        exact W.iret (v := 1) hx hb hr (fun t ht hW9 => ⟨⟨1, 1, rfl, rfl, ⟨y_835, hG, hI, by omega, by omega, by omega, hPK, tw_at ht hT⟩⟩, hS.F ht⟩) hS.2.2 dX12_held_38
    · refine lq_top (v := 0) hre ?_
      rw [ht] at hT
      have hG := hG.tr hgy_827 (by decide)
      have hW : IW (u 1) (u 2) (u 9) (y_827 (a 89)) := by rw [hgy_827.at (fx_89 hX) (by decide)]; exact hW
      try simp only [hp_819] at hf_828 hf_829 hf_830 hf_831 hf_832
      clear hp_819
      have hPK := hPK.tr hf_831
      refine lv_if_eq (tgt := 39) hx hb dX12_held_21 (by decide) (fun c_841 => ?_) (fun c_841 => absurd c_841 (by decide))
      refine lv_aload_n hx hb dX12_held_39 rfl (lv_at hl 1 rfl) ?_
      refine lv_bipush (v := 62) hx hb dX12_held_40 (by decide) ?_
      have hFc := tw_free hF hS hA
      have hp_842 : (62 : Int32).toInt = 62 := (zk (x := 62) 62 rfl)
      refine va_calli (va_runV (As := [.int 62]) (rest := []) ⟨hx, hb, hml, hown, hts⟩ (m_comes l dC dI ad av H.size a k τ ln y_827 g u (62 : Int32) sq nS i hI hs0 hcl hsg hltr hi_i hsl (by omega) (by omega) (by omega) (by omega) (by decide) hW) (cwV 1 hts (gi_4 (List.mem_cons_of_mem _ (List.mem_append_left _ (List.mem_of_getElem? (i := 6) rfl))) (List.mem_cons_of_mem _ (List.mem_append_left _ (List.mem_of_getElem? (i := 7) rfl))) (List.mem_cons_of_mem _ (List.mem_append_left _ (List.mem_of_getElem? (i := 8) rfl))) (List.mem_cons_of_mem _ (List.mem_append_left _ (List.mem_of_getElem? (i := 9) rfl))) (fun _ hh => (List.mem_cons_of_mem _ (List.mem_append_right _ (List.mem_append_left _ hh)))) gd_m_comes) rfl rfl rfl (by decide +kernel) ⟨by show 1 + 1 ≤ 6 * N + 15; omega, by show 8 + (2 + 11) + (60) ≤ 400 * N + 580; omega⟩) ⟨pw_blind, tw_recv hK hT (fx_50 hX) (by decide) cl_e60 rfl, pw_use hT hK hFc hS hM⟩ rfl rfl hl.1 rfl (lv_room (Nat.le_of_ble_eq_true rfl)) dX12_held_42 ⟨Nat.le_of_ble_eq_true rfl, Nat.le_of_ble_eq_true rfl⟩) hS (fun q _ h => hFc q h) hFc (fun r0 r_843 t H locs ht hvm hw hB hz1 hk1 hS => ?_)
      refine W.widen (k := 0) (n := 0) (Nat.le_of_ble_eq_true rfl) (Nat.le_of_ble_eq_true rfl) ?_
      clear hvm hz1 hk1
      subst hw
      rcases hB with ⟨y_844, hre, hgy_844, hI, hf_845, hf_846, hf_847, hf_848, hf_849, hT⟩ | ⟨y_850, hre, hgy_850, hI, hf_851, hf_852, hf_853, hf_854, hf_855, hT⟩
      · refine lq_top (v := 1) hre ?_
        rw [ht] at hT
        have hG := hG.tr hgy_844 (by decide)
        have hW : IW (u 1) (u 2) (u 9) (y_844 (a 89)) := by rw [hgy_844.at (fx_89 hX) (by decide)]; exact hW
        try simp only [hp_842] at hf_845 hf_846 hf_847 hf_848 hf_849
        clear hp_842
        have hPK := hPK.tr hf_848
        refine lv_if_eq (tgt := 63) hx hb dX12_held_45 (by decide) (fun c_856 => absurd c_856 (by decide)) (fun c_856 => ?_)
        refine lv_iload_n hx hb dX12_held_48 rfl (lv_at hl 0 rfl) ?_
        refine lv_aload_n hx hb dX12_held_49 rfl (lv_at hl 1 rfl) ?_
        refine lv_iload_n hx hb dX12_held_50 rfl (lv_at hl 2 rfl) ?_
        have hFc := tw_free hF hS hA
        refine va_calli (va_runV (As := [.int p0]) (rest := [.int r_811]) ⟨hx, hb, hml, hown, hts⟩ (ih1 l dC dI ad av H.size a k τ ln y_844 g u p0 sq nS i hI hs0 hcl hsg hltr hi_i hsl (by omega) (by omega) (by omega) (by omega) (by omega) hW) (cwV 1 hts (gi_4 (List.mem_cons_of_mem _ (List.mem_append_left _ (List.mem_of_getElem? (i := 38) rfl))) (List.mem_cons_of_mem _ (List.mem_append_left _ (List.mem_of_getElem? (i := 39) rfl))) (List.mem_cons_of_mem _ (List.mem_append_left _ (List.mem_of_getElem? (i := 40) rfl))) (List.mem_cons_of_mem _ (List.mem_append_left _ (List.mem_of_getElem? (i := 9) rfl))) (fun _ hh => (List.mem_cons.mp hh).elim (fun ee => by rw [ee]; exact (List.mem_cons_of_mem _ (List.mem_append_left _ (List.mem_of_getElem? (i := 2) rfl)))) (fun h9 => List.mem_cons_of_mem _ h9)) gd_g_sum) rfl rfl rfl (by decide +kernel) ⟨by show 6 * N + 14 + 1 ≤ 6 * N + 15; omega, by show 8 + (3 + 11) + (400 * N + 520) ≤ 400 * N + 580; omega⟩) ⟨pw_blind, tw_recv hK hT (fx_50 hX) (by decide) cl_e60 rfl, pw_use hT hK hFc hS hM⟩ rfl rfl hl.1 rfl (lv_room (Nat.le_of_ble_eq_true rfl)) dX12_held_51 ⟨Nat.le_of_ble_eq_true rfl, Nat.le_of_ble_eq_true rfl⟩) hS (fun q _ h => hFc q h) hFc (fun r0 r_857 t H locs ht hvm hw hB hz1 hk1 hS => ?_)
        refine W.widen (k := 0) (n := 0) (Nat.le_of_ble_eq_true rfl) (Nat.le_of_ble_eq_true rfl) ?_
        clear hvm hz1 hk1
        subst hw
        obtain ⟨y_858, hgy_858, hI, hf_859, hf_860, hf_861, hf_862, hT⟩ := hB
        rw [ht] at hT
        have hG := hG.tr hgy_858 (by decide)
        have hW : IW (u 1) (u 2) (u 9) (y_858 (a 89)) := by rw [hgy_858.at (fx_89 hX) (by decide)]; exact hW
        have hPK := hPK.tr hf_862
        refine lv_icmp_le (tgt := 61) hx hb dX12_held_54 (by decide) (fun c_863 => ?_) (fun c_863 => ?_)
        · have nc_863 := z_le rfl rfl c_863
          refine lv_iconst (v := 0) hx hb dX12_held_61 (by decide) ?_
          have hrv : (0 : Int32).toInt = 0 := (zk (x := 0) 0 rfl)
          exact W.iret (v := 0) hx hb hr (fun t ht hW9 => ⟨⟨0, 0, rfl, rfl, ⟨y_858, hG, hI, by omega, by omega, by omega, hPK, tw_at ht hT⟩⟩, hS.F ht⟩) hS.2.2 dX12_held_62
        · have nc_863 := z_nle rfl rfl c_863
          refine lv_iconst (v := 1) hx hb dX12_held_57 (by decide) ?_
          refine lv_goto (tgt := 62) hx hb dX12_held_58 (by decide) ?_
          have hrv : (1 : Int32).toInt = 1 := (zk (x := 1) 1 rfl)
          exact W.iret (v := 1) hx hb hr (fun t ht hW9 => ⟨⟨1, 1, rfl, rfl, ⟨y_858, hG, hI, by omega, by omega, by omega, hPK, tw_at ht hT⟩⟩, hS.F ht⟩) hS.2.2 dX12_held_62
      · refine lq_top (v := 0) hre ?_
        rw [ht] at hT
        have hG := hG.tr hgy_850 (by decide)
        have hW : IW (u 1) (u 2) (u 9) (y_850 (a 89)) := by rw [hgy_850.at (fx_89 hX) (by decide)]; exact hW
        try simp only [hp_842] at hf_851 hf_852 hf_853 hf_854 hf_855
        clear hp_842
        have hPK := hPK.tr hf_854
        refine lv_if_eq (tgt := 63) hx hb dX12_held_45 (by decide) (fun c_864 => ?_) (fun c_864 => absurd c_864 (by decide))
        refine lv_aload_n hx hb dX12_held_63 rfl (lv_at hl 1 rfl) ?_
        refine lv_bipush (v := 61) hx hb dX12_held_64 (by decide) ?_
        have hFc := tw_free hF hS hA
        have hp_865 : (61 : Int32).toInt = 61 := (zk (x := 61) 61 rfl)
        refine va_calli (va_runV (As := [.int 61]) (rest := []) ⟨hx, hb, hml, hown, hts⟩ (m_comes l dC dI ad av H.size a k τ ln y_850 g u (61 : Int32) sq nS i hI hs0 hcl hsg hltr hi_i hsl (by omega) (by omega) (by omega) (by omega) (by decide) hW) (cwV 1 hts (gi_4 (List.mem_cons_of_mem _ (List.mem_append_left _ (List.mem_of_getElem? (i := 6) rfl))) (List.mem_cons_of_mem _ (List.mem_append_left _ (List.mem_of_getElem? (i := 7) rfl))) (List.mem_cons_of_mem _ (List.mem_append_left _ (List.mem_of_getElem? (i := 8) rfl))) (List.mem_cons_of_mem _ (List.mem_append_left _ (List.mem_of_getElem? (i := 9) rfl))) (fun _ hh => (List.mem_cons_of_mem _ (List.mem_append_right _ (List.mem_append_left _ hh)))) gd_m_comes) rfl rfl rfl (by decide +kernel) ⟨by show 1 + 1 ≤ 6 * N + 15; omega, by show 8 + (2 + 11) + (60) ≤ 400 * N + 580; omega⟩) ⟨pw_blind, tw_recv hK hT (fx_50 hX) (by decide) cl_e60 rfl, pw_use hT hK hFc hS hM⟩ rfl rfl hl.1 rfl (lv_room (Nat.le_of_ble_eq_true rfl)) dX12_held_66 ⟨Nat.le_of_ble_eq_true rfl, Nat.le_of_ble_eq_true rfl⟩) hS (fun q _ h => hFc q h) hFc (fun r0 r_866 t H locs ht hvm hw hB hz1 hk1 hS => ?_)
        refine W.widen (k := 0) (n := 0) (Nat.le_of_ble_eq_true rfl) (Nat.le_of_ble_eq_true rfl) ?_
        clear hvm hz1 hk1
        subst hw
        rcases hB with ⟨y_867, hre, hgy_867, hI, hf_868, hf_869, hf_870, hf_871, hf_872, hT⟩ | ⟨y_873, hre, hgy_873, hI, hf_874, hf_875, hf_876, hf_877, hf_878, hT⟩
        · refine lq_top (v := 1) hre ?_
          rw [ht] at hT
          have hG := hG.tr hgy_867 (by decide)
          have hW : IW (u 1) (u 2) (u 9) (y_867 (a 89)) := by rw [hgy_867.at (fx_89 hX) (by decide)]; exact hW
          try simp only [hp_865] at hf_868 hf_869 hf_870 hf_871 hf_872
          clear hp_865
          have hPK := hPK.tr hf_871
          refine lv_if_eq (tgt := 87) hx hb dX12_held_69 (by decide) (fun c_879 => absurd c_879 (by decide)) (fun c_879 => ?_)
          refine lv_iload_n hx hb dX12_held_72 rfl (lv_at hl 0 rfl) ?_
          refine lv_aload_n hx hb dX12_held_73 rfl (lv_at hl 1 rfl) ?_
          refine lv_iload_n hx hb dX12_held_74 rfl (lv_at hl 2 rfl) ?_
          have hFc := tw_free hF hS hA
          refine va_calli (va_runV (As := [.int p0]) (rest := [.int r_811]) ⟨hx, hb, hml, hown, hts⟩ (ih1 l dC dI ad av H.size a k τ ln y_867 g u p0 sq nS i hI hs0 hcl hsg hltr hi_i hsl (by omega) (by omega) (by omega) (by omega) (by omega) hW) (cwV 1 hts (gi_4 (List.mem_cons_of_mem _ (List.mem_append_left _ (List.mem_of_getElem? (i := 38) rfl))) (List.mem_cons_of_mem _ (List.mem_append_left _ (List.mem_of_getElem? (i := 39) rfl))) (List.mem_cons_of_mem _ (List.mem_append_left _ (List.mem_of_getElem? (i := 40) rfl))) (List.mem_cons_of_mem _ (List.mem_append_left _ (List.mem_of_getElem? (i := 9) rfl))) (fun _ hh => (List.mem_cons.mp hh).elim (fun ee => by rw [ee]; exact (List.mem_cons_of_mem _ (List.mem_append_left _ (List.mem_of_getElem? (i := 2) rfl)))) (fun h9 => List.mem_cons_of_mem _ h9)) gd_g_sum) rfl rfl rfl (by decide +kernel) ⟨by show 6 * N + 14 + 1 ≤ 6 * N + 15; omega, by show 8 + (3 + 11) + (400 * N + 520) ≤ 400 * N + 580; omega⟩) ⟨pw_blind, tw_recv hK hT (fx_50 hX) (by decide) cl_e60 rfl, pw_use hT hK hFc hS hM⟩ rfl rfl hl.1 rfl (lv_room (Nat.le_of_ble_eq_true rfl)) dX12_held_75 ⟨Nat.le_of_ble_eq_true rfl, Nat.le_of_ble_eq_true rfl⟩) hS (fun q _ h => hFc q h) hFc (fun r0 r_880 t H locs ht hvm hw hB hz1 hk1 hS => ?_)
          refine W.widen (k := 0) (n := 0) (Nat.le_of_ble_eq_true rfl) (Nat.le_of_ble_eq_true rfl) ?_
          clear hvm hz1 hk1
          subst hw
          obtain ⟨y_881, hgy_881, hI, hf_882, hf_883, hf_884, hf_885, hT⟩ := hB
          rw [ht] at hT
          have hG := hG.tr hgy_881 (by decide)
          have hW : IW (u 1) (u 2) (u 9) (y_881 (a 89)) := by rw [hgy_881.at (fx_89 hX) (by decide)]; exact hW
          have hPK := hPK.tr hf_885
          refine lv_icmp_ne (tgt := 85) hx hb dX12_held_78 (by decide) (fun c_886 => ?_) (fun c_886 => ?_)
          · have nc_886 := z_ne rfl rfl c_886
            refine lv_iconst (v := 0) hx hb dX12_held_85 (by decide) ?_
            have hrv : (0 : Int32).toInt = 0 := (zk (x := 0) 0 rfl)
            exact W.iret (v := 0) hx hb hr (fun t ht hW9 => ⟨⟨0, 0, rfl, rfl, ⟨y_881, hG, hI, by omega, by omega, by omega, hPK, tw_at ht hT⟩⟩, hS.F ht⟩) hS.2.2 dX12_held_86
          · have nc_886 := z_eq rfl rfl c_886
            refine lv_iconst (v := 1) hx hb dX12_held_81 (by decide) ?_
            refine lv_goto (tgt := 86) hx hb dX12_held_82 (by decide) ?_
            have hrv : (1 : Int32).toInt = 1 := (zk (x := 1) 1 rfl)
            exact W.iret (v := 1) hx hb hr (fun t ht hW9 => ⟨⟨1, 1, rfl, rfl, ⟨y_881, hG, hI, by omega, by omega, by omega, hPK, tw_at ht hT⟩⟩, hS.F ht⟩) hS.2.2 dX12_held_86
        · refine lq_top (v := 0) hre ?_
          rw [ht] at hT
          have hG := hG.tr hgy_873 (by decide)
          have hW : IW (u 1) (u 2) (u 9) (y_873 (a 89)) := by rw [hgy_873.at (fx_89 hX) (by decide)]; exact hW
          try simp only [hp_865] at hf_874 hf_875 hf_876 hf_877 hf_878
          clear hp_865
          have hPK := hPK.tr hf_877
          refine lv_if_eq (tgt := 87) hx hb dX12_held_69 (by decide) (fun c_887 => ?_) (fun c_887 => absurd c_887 (by decide))
          refine lv_iload_n hx hb dX12_held_87 rfl (lv_at hl 0 rfl) ?_
          have hrv : r_811.toInt = r_811.toInt := rfl
          exact W.iret (v := r_811) hx hb hr (fun t ht hW9 => ⟨⟨r_811, r_811, rfl, rfl, ⟨y_873, hG, hI, by omega, by omega, by omega, hPK, tw_at ht hT⟩⟩, hS.F ht⟩) hS.2.2 dX12_held_88
  · refine lq_top (v := 0) hre ?_
    rw [ht] at hT
    refine lv_if_ne (tgt := 15) hx hb dX12_held_10 (by decide) (fun c_888 => absurd c_888 (by decide)) (fun c_888 => ?_)
    refine lv_iconst (v := 0) hx hb dX12_held_13 (by decide) ?_
    have hrv : (0 : Int32).toInt = 0 := (zk (x := 0) 0 rfl)
    exact W.iret (v := 0) hx hb hr (fun t ht hW9 => ⟨⟨0, 0, rfl, rfl, ⟨y_812, hG, hI, by omega, by omega, by omega, hPK, tw_at ht hT⟩⟩, hS.F ht⟩) hS.2.2 dX12_held_14

set_option maxHeartbeats 4000000 in
set_option maxRecDepth 100000 in
theorem g_both_step (N : Nat) (ih1 : St_g_held N) : St_g_both N := by
  intro l dC dI ad av sz a k τ ln y g u p0 sq nS i hI hs0 hcl hsg hltr hi_i hsl hbg hsz hft hat hN hW
  refine Met.ofW (cc := cX12_both) (maxL := 3) (ret := (some .int)) (by decide) rfl ?_
  intro p e s m args below meth c s₁ B hml hv
  obtain ⟨rfl, hsz, hT, hK, hM⟩ := hv
  have hx := B.exec
  have hb := B.bytes
  have hr := B.returns
  have hts := atoms_spec (ws := wm_g_both) B.pre
  have hown : s.vm.findClass RX12 = some m.cls := findClass_of_methodNamed B.named
  have hlocks := B.notSynchronized
  subst hsz
  generalize hAe : fr τ s.heap.size = A at hM ⊢
  have hA : ∀ q : Nat, s.heap.size ≤ q → A q := fun q h => by rw [← hAe]; exact Or.inr h
  have hF : ∀ q, τ q ≠ 0 → A q := fun q h => by rw [← hAe]; exact Or.inl h
  have hS : va_S A s.heap s.heap [] := va_S.rf
  have hX := hI.1
  have hR := im_r hI
  have hG : ag τ [60] y y := ag.rf
  have hl := lv_entry ([.ref (a 50), .int p0]) (n := 3) (Nat.le_of_ble_eq_true rfl)
  rw [lg_entry_eq]
  generalize (lg_sl ([.ref (a 50), .int p0]) ++ List.replicate (3 - (lg_sl ([.ref (a 50), .int p0])).length) Slot.unset).toArray = ls at hl ⊢
  have hl : lv_has ls 3 [(0, .ref (a 50)), (1, .int p0)] := hl
  have hPK : pk a y y := pk_rf
  refine lv_aload_n hx hb dX12_both_0 rfl (lv_at hl 0 rfl) ?_
  refine lv_iload_n hx hb dX12_both_1 rfl (lv_at hl 1 rfl) ?_
  have hFc := tw_free hF hS hA
  refine va_calli (va_runV (As := [.int p0]) (rest := []) ⟨hx, hb, hml, hown, hts⟩ (ih1 l dC dI ad av s.heap.size a k τ ln y g u p0 sq nS i hI hs0 hcl hsg hltr hi_i hsl (by omega) (by omega) (by omega) (by omega) (by omega) hW) (cwV 1 hts (gi_4 (List.mem_cons_of_mem _ (List.mem_append_left _ (List.mem_of_getElem? (i := 41) rfl))) (List.mem_cons_of_mem _ (List.mem_append_left _ (List.mem_of_getElem? (i := 42) rfl))) (List.mem_cons_of_mem _ (List.mem_append_left _ (List.mem_of_getElem? (i := 43) rfl))) (List.mem_cons_of_mem _ (List.mem_append_left _ (List.mem_of_getElem? (i := 9) rfl))) (fun _ hh => (List.mem_cons.mp hh).elim (fun ee => by rw [ee]; exact (List.mem_cons_of_mem _ (List.mem_append_left _ (List.mem_of_getElem? (i := 3) rfl)))) (fun h9 => List.mem_cons_of_mem _ h9)) gd_g_held) rfl rfl rfl (by decide +kernel) ⟨by show 6 * N + 15 + 1 ≤ 6 * N + 16; omega, by show 8 + (3 + 11) + (400 * N + 580) ≤ 400 * N + 640; omega⟩) ⟨pw_blind, tw_recv hK hT (fx_50 hX) (by decide) cl_e60 rfl, pw_use hT hK hFc hS hM⟩ rfl rfl hl.1 rfl (lv_room (Nat.le_of_ble_eq_true rfl)) dX12_both_2 ⟨Nat.le_of_ble_eq_true rfl, Nat.le_of_ble_eq_true rfl⟩) hS (fun q _ h => hFc q h) hFc (fun r0 r_889 t H locs ht hvm hw hB hz1 hk1 hS => ?_)
  refine W.widen (k := 0) (n := 0) (Nat.le_of_ble_eq_true rfl) (Nat.le_of_ble_eq_true rfl) ?_
  clear hvm hz1 hk1
  subst hw
  obtain ⟨y_890, hgy_890, hI, hf_891, hf_892, hf_893, hf_894, hT⟩ := hB
  rw [ht] at hT
  have hG := hG.tr hgy_890 (by decide)
  have hW : IW (u 1) (u 2) (u 9) (y_890 (a 89)) := by rw [hgy_890.at (fx_89 hX) (by decide)]; exact hW
  have hPK := hPK.tr hf_894
  refine lv_istore_n (lv' := [(2, .int r_889), (0, .ref (a 50)), (1, .int p0)]) hx hb dX12_both_5 rfl hl (by decide) rfl (fun ls hl => ?_)
  have loop_6 : ∀ (n : Nat) (w2 : Int32) (y_L6 : Nat → Nat → Int32) (H : Heap) (locs : List Loc) (ls : Array Slot), (60 - (y_L6 (a 50) 45).toInt).toNat < n → ag τ [60] y y_L6 → IM a u τ y_L6 → IW (u 1) (u 2) (u 9) (y_L6 (a 89)) → pk a y y_L6 → (y_L6 (a 50) 43).toInt = (y (a 50) 43).toInt → (y_L6 (a 50) 44).toInt = (y (a 50) 44).toInt → (y (a 50) 45).toInt ≤ (y_L6 (a 50) 45).toInt ∧ (y_L6 (a 50) 45).toInt ≤ 60 → tw (dC, dI) a k τ ln y_L6 g H → va_S A s.heap H locs → lv_has ls 3 [(0, .ref (a 50)), (1, .int p0), (2, .int w2)] → W p l e (headSpec wm_g_both ({ frames := 6 * N + 16, cells := 0, slots := 0, locals := 400 * N + 640 })).room s m ([.ref (a 50), .int p0] : List Value).toArray below meth c H locs 0 0 (MQ below (va_Qi (fun (r u : Int32) => u = r) (fun (r : Int32) (t : State) => (∃ (y' : Nat → Nat → Int32), ag τ [60] y y' ∧ IM a u τ y' ∧ (y' (a 50) 43).toInt = (y (a 50) 43).toInt ∧ (y' (a 50) 44).toInt = (y (a 50) 44).toInt ∧ ((y (a 50) 45).toInt ≤ (y' (a 50) 45).toInt ∧ (y' (a 50) 45).toInt ≤ 60) ∧ pk a y y' ∧ tw (dC, dI) a k τ ln y' g t.heap)) A) ([.ref (a 50), .int p0] : List Value).toArray s 0 0 A) (F0 m 6 ls []) := by
    intro n
    induction n with
    | zero => intro w2 y_L6 H locs ls hlt; exact absurd hlt (Nat.not_lt_zero _)
    | succ n ih_6 =>
      intro w2 y_L6 H locs ls hlt hG hI hW hPK hi6_0 hi6_1 hi6_2 hT hS hl
      refine lv_aload_n hx hb dX12_both_6 rfl (lv_at hl 0 rfl) ?_
      have hFc := tw_free hF hS hA
      refine va_calli (va_runV (As := []) (rest := []) ⟨hx, hb, hml, hown, hts⟩ (m_fine l dC dI ad av H.size a k τ ln y_L6 g u  hI hW) (cwV 0 hts (gi_4 (List.mem_cons_of_mem _ (List.mem_append_left _ (List.mem_of_getElem? (i := 32) rfl))) (List.mem_cons_of_mem _ (List.mem_append_left _ (List.mem_of_getElem? (i := 33) rfl))) (List.mem_cons_of_mem _ (List.mem_append_left _ (List.mem_of_getElem? (i := 34) rfl))) (List.mem_cons_of_mem _ (List.mem_append_left _ (List.mem_of_getElem? (i := 9) rfl))) (fun _ hh => (List.mem_cons_of_mem _ (List.mem_append_right _ (List.mem_append_right _ (List.mem_append_right _ (List.mem_append_right _ (List.mem_append_right _ (List.mem_append_right _ (List.mem_append_right _ (List.mem_append_left _ hh)))))))))) gd_m_fine) rfl rfl rfl (by decide +kernel) ⟨by show 0 + 1 ≤ 6 * N + 16; omega, by show 8 + (1 + 11) + (0) ≤ 400 * N + 640; omega⟩) ⟨pw_blind, tw_recv hK hT (fx_50 hX) (by decide) cl_e60 rfl, pw_use hT hK hFc hS hM⟩ rfl rfl hl.1 rfl (lv_room (Nat.le_of_ble_eq_true rfl)) dX12_both_7 ⟨Nat.le_of_ble_eq_true rfl, Nat.le_of_ble_eq_true rfl⟩) hS (fun q _ h => hFc q h) hFc (fun r0 r_895 t H locs ht hvm hw hB hz1 hk1 hS => ?_)
      refine W.widen (k := 0) (n := 0) (Nat.le_of_ble_eq_true rfl) (Nat.le_of_ble_eq_true rfl) ?_
      clear hvm hz1 hk1
      subst hw
      rcases hB with ⟨hre, hT⟩ | ⟨hre, hT⟩
      · refine lq_top (v := 1) hre ?_
        rw [ht] at hT
        refine lv_if_eq (tgt := 57) hx hb dX12_both_10 (by decide) (fun c_896 => absurd c_896 (by decide)) (fun c_896 => ?_)
        refine lv_aload_n hx hb dX12_both_13 rfl (lv_at hl 0 rfl) ?_
        refine lv_bipush (v := 38) hx hb dX12_both_14 (by decide) ?_
        have hFc := tw_free hF hS hA
        have hp_897 : (38 : Int32).toInt = 38 := (zk (x := 38) 38 rfl)
        refine va_calli (va_runV (As := [.int 38]) (rest := []) ⟨hx, hb, hml, hown, hts⟩ (m_comes l dC dI ad av H.size a k τ ln y_L6 g u (38 : Int32) sq nS i hI hs0 hcl hsg hltr hi_i hsl (by omega) (by omega) (by omega) (by omega) (by decide) hW) (cwV 1 hts (gi_4 (List.mem_cons_of_mem _ (List.mem_append_left _ (List.mem_of_getElem? (i := 6) rfl))) (List.mem_cons_of_mem _ (List.mem_append_left _ (List.mem_of_getElem? (i := 7) rfl))) (List.mem_cons_of_mem _ (List.mem_append_left _ (List.mem_of_getElem? (i := 8) rfl))) (List.mem_cons_of_mem _ (List.mem_append_left _ (List.mem_of_getElem? (i := 9) rfl))) (fun _ hh => (List.mem_cons_of_mem _ (List.mem_append_right _ (List.mem_append_left _ hh)))) gd_m_comes) rfl rfl rfl (by decide +kernel) ⟨by show 1 + 1 ≤ 6 * N + 16; omega, by show 8 + (2 + 11) + (60) ≤ 400 * N + 640; omega⟩) ⟨pw_blind, tw_recv hK hT (fx_50 hX) (by decide) cl_e60 rfl, pw_use hT hK hFc hS hM⟩ rfl rfl hl.1 rfl (lv_room (Nat.le_of_ble_eq_true rfl)) dX12_both_16 ⟨Nat.le_of_ble_eq_true rfl, Nat.le_of_ble_eq_true rfl⟩) hS (fun q _ h => hFc q h) hFc (fun r0 r_898 t H locs ht hvm hw hB hz1 hk1 hS => ?_)
        refine W.widen (k := 0) (n := 0) (Nat.le_of_ble_eq_true rfl) (Nat.le_of_ble_eq_true rfl) ?_
        clear hvm hz1 hk1
        subst hw
        rcases hB with ⟨y_899, hre, hgy_899, hI, hf_900, hf_901, hf_902, hf_903, hf_904, hT⟩ | ⟨y_905, hre, hgy_905, hI, hf_906, hf_907, hf_908, hf_909, hf_910, hT⟩
        · refine lq_top (v := 1) hre ?_
          rw [ht] at hT
          have hG := hG.tr hgy_899 (by decide)
          have hW : IW (u 1) (u 2) (u 9) (y_899 (a 89)) := by rw [hgy_899.at (fx_89 hX) (by decide)]; exact hW
          try simp only [hp_897] at hf_900 hf_901 hf_902 hf_903 hf_904
          clear hp_897
          have hPK := hPK.tr hf_903
          refine lv_if_eq (tgt := 57) hx hb dX12_both_19 (by decide) (fun c_911 => absurd c_911 (by decide)) (fun c_911 => ?_)
          refine lv_aload_n hx hb dX12_both_22 rfl (lv_at hl 0 rfl) ?_
          refine lv_iload_n hx hb dX12_both_23 rfl (lv_at hl 1 rfl) ?_
          have hFc := tw_free hF hS hA
          refine va_calli (va_runV (As := [.int p0]) (rest := []) ⟨hx, hb, hml, hown, hts⟩ (ih1 l dC dI ad av H.size a k τ ln y_899 g u p0 sq nS i hI hs0 hcl hsg hltr hi_i hsl (by omega) (by omega) (by omega) (by omega) (by omega) hW) (cwV 1 hts (gi_4 (List.mem_cons_of_mem _ (List.mem_append_left _ (List.mem_of_getElem? (i := 41) rfl))) (List.mem_cons_of_mem _ (List.mem_append_left _ (List.mem_of_getElem? (i := 42) rfl))) (List.mem_cons_of_mem _ (List.mem_append_left _ (List.mem_of_getElem? (i := 43) rfl))) (List.mem_cons_of_mem _ (List.mem_append_left _ (List.mem_of_getElem? (i := 9) rfl))) (fun _ hh => (List.mem_cons.mp hh).elim (fun ee => by rw [ee]; exact (List.mem_cons_of_mem _ (List.mem_append_left _ (List.mem_of_getElem? (i := 3) rfl)))) (fun h9 => List.mem_cons_of_mem _ h9)) gd_g_held) rfl rfl rfl (by decide +kernel) ⟨by show 6 * N + 15 + 1 ≤ 6 * N + 16; omega, by show 8 + (3 + 11) + (400 * N + 580) ≤ 400 * N + 640; omega⟩) ⟨pw_blind, tw_recv hK hT (fx_50 hX) (by decide) cl_e60 rfl, pw_use hT hK hFc hS hM⟩ rfl rfl hl.1 rfl (lv_room (Nat.le_of_ble_eq_true rfl)) dX12_both_24 ⟨Nat.le_of_ble_eq_true rfl, Nat.le_of_ble_eq_true rfl⟩) hS (fun q _ h => hFc q h) hFc (fun r0 r_912 t H locs ht hvm hw hB hz1 hk1 hS => ?_)
          refine W.widen (k := 0) (n := 0) (Nat.le_of_ble_eq_true rfl) (Nat.le_of_ble_eq_true rfl) ?_
          clear hvm hz1 hk1
          subst hw
          obtain ⟨y_913, hgy_913, hI, hf_914, hf_915, hf_916, hf_917, hT⟩ := hB
          rw [ht] at hT
          have hG := hG.tr hgy_913 (by decide)
          have hW : IW (u 1) (u 2) (u 9) (y_913 (a 89)) := by rw [hgy_913.at (fx_89 hX) (by decide)]; exact hW
          have hPK := hPK.tr hf_917
          refine lv_if_eq (tgt := 34) hx hb dX12_both_27 (by decide) (fun c_918 => ?_) (fun c_918 => ?_)
          · have nc_918 := z_eq rfl (zk (x := 0) 0 rfl) c_918
            refine lv_iconst (v := 0) hx hb dX12_both_34 (by decide) ?_
            refine lv_iload_n hx hb dX12_both_35 rfl (lv_at hl 2 rfl) ?_
            refine lv_if_eq (tgt := 43) hx hb dX12_both_36 (by decide) (fun c_919 => ?_) (fun c_919 => ?_)
            · have nc_919 := z_eq rfl (zk (x := 0) 0 rfl) c_919
              refine lv_iconst (v := 0) hx hb dX12_both_43 (by decide) ?_
              refine lv_iand hx hb dX12_both_44 ?_
              refine lq_top (v := 0) (by decide) ?_
              refine lv_if_eq (tgt := 52) hx hb dX12_both_45 (by decide) (fun c_920 => ?_) (fun c_920 => absurd c_920 (by decide))
              refine lv_iconst (v := 0) hx hb dX12_both_52 (by decide) ?_
              refine lv_istore_n (lv' := [(2, .int 0), (0, .ref (a 50)), (1, .int p0)]) hx hb dX12_both_53 rfl hl (by decide) rfl (fun ls hl => ?_)
              refine lv_goto (tgt := 6) hx hb dX12_both_54 (by decide) ?_
              have hp_921 : (0 : Int32).toInt = 0 := (zk (x := 0) 0 rfl)
              exact ih_6  (0 : Int32) y_913 H _ ls (by omega) hG hI hW hPK (by omega) (by omega) (by omega) hT hS (lv_sub hl [1, 2, 0] rfl)
            · have nc_919 := z_ne rfl (zk (x := 0) 0 rfl) c_919
              refine lv_iconst (v := 1) hx hb dX12_both_39 (by decide) ?_
              refine lv_goto (tgt := 44) hx hb dX12_both_40 (by decide) ?_
              refine lv_iand hx hb dX12_both_44 ?_
              refine lq_top (v := 0) (by decide) ?_
              refine lv_if_eq (tgt := 52) hx hb dX12_both_45 (by decide) (fun c_922 => ?_) (fun c_922 => absurd c_922 (by decide))
              refine lv_iconst (v := 0) hx hb dX12_both_52 (by decide) ?_
              refine lv_istore_n (lv' := [(2, .int 0), (0, .ref (a 50)), (1, .int p0)]) hx hb dX12_both_53 rfl hl (by decide) rfl (fun ls hl => ?_)
              refine lv_goto (tgt := 6) hx hb dX12_both_54 (by decide) ?_
              have hp_923 : (0 : Int32).toInt = 0 := (zk (x := 0) 0 rfl)
              exact ih_6  (0 : Int32) y_913 H _ ls (by omega) hG hI hW hPK (by omega) (by omega) (by omega) hT hS (lv_sub hl [1, 2, 0] rfl)
          · have nc_918 := z_ne rfl (zk (x := 0) 0 rfl) c_918
            refine lv_iconst (v := 1) hx hb dX12_both_30 (by decide) ?_
            refine lv_goto (tgt := 35) hx hb dX12_both_31 (by decide) ?_
            refine lv_iload_n hx hb dX12_both_35 rfl (lv_at hl 2 rfl) ?_
            refine lv_if_eq (tgt := 43) hx hb dX12_both_36 (by decide) (fun c_924 => ?_) (fun c_924 => ?_)
            · have nc_924 := z_eq rfl (zk (x := 0) 0 rfl) c_924
              refine lv_iconst (v := 0) hx hb dX12_both_43 (by decide) ?_
              refine lv_iand hx hb dX12_both_44 ?_
              refine lq_top (v := 0) (by decide) ?_
              refine lv_if_eq (tgt := 52) hx hb dX12_both_45 (by decide) (fun c_925 => ?_) (fun c_925 => absurd c_925 (by decide))
              refine lv_iconst (v := 0) hx hb dX12_both_52 (by decide) ?_
              refine lv_istore_n (lv' := [(2, .int 0), (0, .ref (a 50)), (1, .int p0)]) hx hb dX12_both_53 rfl hl (by decide) rfl (fun ls hl => ?_)
              refine lv_goto (tgt := 6) hx hb dX12_both_54 (by decide) ?_
              have hp_926 : (0 : Int32).toInt = 0 := (zk (x := 0) 0 rfl)
              exact ih_6  (0 : Int32) y_913 H _ ls (by omega) hG hI hW hPK (by omega) (by omega) (by omega) hT hS (lv_sub hl [1, 2, 0] rfl)
            · have nc_924 := z_ne rfl (zk (x := 0) 0 rfl) c_924
              refine lv_iconst (v := 1) hx hb dX12_both_39 (by decide) ?_
              refine lv_goto (tgt := 44) hx hb dX12_both_40 (by decide) ?_
              refine lv_iand hx hb dX12_both_44 ?_
              refine lq_top (v := 1) (by decide) ?_
              refine lv_if_eq (tgt := 52) hx hb dX12_both_45 (by decide) (fun c_927 => absurd c_927 (by decide)) (fun c_927 => ?_)
              refine lv_iconst (v := 1) hx hb dX12_both_48 (by decide) ?_
              refine lv_goto (tgt := 53) hx hb dX12_both_49 (by decide) ?_
              refine lv_istore_n (lv' := [(2, .int 1), (0, .ref (a 50)), (1, .int p0)]) hx hb dX12_both_53 rfl hl (by decide) rfl (fun ls hl => ?_)
              refine lv_goto (tgt := 6) hx hb dX12_both_54 (by decide) ?_
              have hp_928 : (1 : Int32).toInt = 1 := (zk (x := 1) 1 rfl)
              exact ih_6  (1 : Int32) y_913 H _ ls (by omega) hG hI hW hPK (by omega) (by omega) (by omega) hT hS (lv_sub hl [1, 2, 0] rfl)
        · refine lq_top (v := 0) hre ?_
          rw [ht] at hT
          have hG := hG.tr hgy_905 (by decide)
          have hW : IW (u 1) (u 2) (u 9) (y_905 (a 89)) := by rw [hgy_905.at (fx_89 hX) (by decide)]; exact hW
          try simp only [hp_897] at hf_906 hf_907 hf_908 hf_909 hf_910
          clear hp_897
          have hPK := hPK.tr hf_909
          refine lv_if_eq (tgt := 57) hx hb dX12_both_19 (by decide) (fun c_929 => ?_) (fun c_929 => absurd c_929 (by decide))
          refine lv_iload_n hx hb dX12_both_57 rfl (lv_at hl 2 rfl) ?_
          have hrv : w2.toInt = w2.toInt := rfl
          exact W.iret (v := w2) hx hb hr (fun t ht hW9 => ⟨⟨w2, w2, rfl, rfl, ⟨y_905, hG, hI, by omega, by omega, by omega, hPK, tw_at ht hT⟩⟩, hS.F ht⟩) hS.2.2 dX12_both_58
      · refine lq_top (v := 0) hre ?_
        rw [ht] at hT
        refine lv_if_eq (tgt := 57) hx hb dX12_both_10 (by decide) (fun c_930 => ?_) (fun c_930 => absurd c_930 (by decide))
        refine lv_iload_n hx hb dX12_both_57 rfl (lv_at hl 2 rfl) ?_
        have hrv : w2.toInt = w2.toInt := rfl
        exact W.iret (v := w2) hx hb hr (fun t ht hW9 => ⟨⟨w2, w2, rfl, rfl, ⟨y_L6, hG, hI, by omega, by omega, by omega, hPK, tw_at ht hT⟩⟩, hS.F ht⟩) hS.2.2 dX12_both_58
  exact loop_6 _ r_889 y_890 H _ ls (Nat.lt_succ_self _) hG hI hW hPK (by omega) (by omega) (by omega) hT hS (lv_sub hl [1, 2, 0] rfl)

set_option maxHeartbeats 4000000 in
set_option maxRecDepth 100000 in
theorem g_any_step (N : Nat) (ih1 : St_g_both N) : St_g_any N := by
  intro l dC dI ad av sz a k τ ln y g u p0 sq nS i hI hs0 hcl hsg hltr hi_i hsl hbg hsz hft hat hN hW
  refine Met.ofW (cc := cX12_any) (maxL := 3) (ret := (some .int)) (by decide) rfl ?_
  intro p e s m args below meth c s₁ B hml hv
  obtain ⟨rfl, hsz, hT, hK, hM⟩ := hv
  have hx := B.exec
  have hb := B.bytes
  have hr := B.returns
  have hts := atoms_spec (ws := wm_g_any) B.pre
  have hown : s.vm.findClass RX12 = some m.cls := findClass_of_methodNamed B.named
  have hlocks := B.notSynchronized
  subst hsz
  generalize hAe : fr τ s.heap.size = A at hM ⊢
  have hA : ∀ q : Nat, s.heap.size ≤ q → A q := fun q h => by rw [← hAe]; exact Or.inr h
  have hF : ∀ q, τ q ≠ 0 → A q := fun q h => by rw [← hAe]; exact Or.inl h
  have hS : va_S A s.heap s.heap [] := va_S.rf
  have hX := hI.1
  have hR := im_r hI
  have hG : ag τ [60] y y := ag.rf
  have hl := lv_entry ([.ref (a 50), .int p0]) (n := 3) (Nat.le_of_ble_eq_true rfl)
  rw [lg_entry_eq]
  generalize (lg_sl ([.ref (a 50), .int p0]) ++ List.replicate (3 - (lg_sl ([.ref (a 50), .int p0])).length) Slot.unset).toArray = ls at hl ⊢
  have hl : lv_has ls 3 [(0, .ref (a 50)), (1, .int p0)] := hl
  have hPK : pk a y y := pk_rf
  refine lv_aload_n hx hb dX12_any_0 rfl (lv_at hl 0 rfl) ?_
  refine lv_iload_n hx hb dX12_any_1 rfl (lv_at hl 1 rfl) ?_
  have hFc := tw_free hF hS hA
  refine va_calli (va_runV (As := [.int p0]) (rest := []) ⟨hx, hb, hml, hown, hts⟩ (ih1 l dC dI ad av s.heap.size a k τ ln y g u p0 sq nS i hI hs0 hcl hsg hltr hi_i hsl (by omega) (by omega) (by omega) (by omega) (by omega) hW) (cwV 1 hts (gi_4 (List.mem_cons_of_mem _ (List.mem_append_left _ (List.mem_of_getElem? (i := 44) rfl))) (List.mem_cons_of_mem _ (List.mem_append_left _ (List.mem_of_getElem? (i := 45) rfl))) (List.mem_cons_of_mem _ (List.mem_append_left _ (List.mem_of_getElem? (i := 46) rfl))) (List.mem_cons_of_mem _ (List.mem_append_left _ (List.mem_of_getElem? (i := 9) rfl))) (fun _ hh => (List.mem_cons.mp hh).elim (fun ee => by rw [ee]; exact (List.mem_cons_of_mem _ (List.mem_append_left _ (List.mem_of_getElem? (i := 4) rfl)))) (fun h9 => List.mem_cons_of_mem _ h9)) gd_g_both) rfl rfl rfl (by decide +kernel) ⟨by show 6 * N + 16 + 1 ≤ 6 * N + 17; omega, by show 8 + (3 + 11) + (400 * N + 640) ≤ 400 * N + 700; omega⟩) ⟨pw_blind, tw_recv hK hT (fx_50 hX) (by decide) cl_e60 rfl, pw_use hT hK hFc hS hM⟩ rfl rfl hl.1 rfl (lv_room (Nat.le_of_ble_eq_true rfl)) dX12_any_2 ⟨Nat.le_of_ble_eq_true rfl, Nat.le_of_ble_eq_true rfl⟩) hS (fun q _ h => hFc q h) hFc (fun r0 r_931 t H locs ht hvm hw hB hz1 hk1 hS => ?_)
  refine W.widen (k := 0) (n := 0) (Nat.le_of_ble_eq_true rfl) (Nat.le_of_ble_eq_true rfl) ?_
  clear hvm hz1 hk1
  subst hw
  obtain ⟨y_932, hgy_932, hI, hf_933, hf_934, hf_935, hf_936, hT⟩ := hB
  rw [ht] at hT
  have hG := hG.tr hgy_932 (by decide)
  have hW : IW (u 1) (u 2) (u 9) (y_932 (a 89)) := by rw [hgy_932.at (fx_89 hX) (by decide)]; exact hW
  have hPK := hPK.tr hf_936
  refine lv_istore_n (lv' := [(2, .int r_931), (0, .ref (a 50)), (1, .int p0)]) hx hb dX12_any_5 rfl hl (by decide) rfl (fun ls hl => ?_)
  have loop_6 : ∀ (n : Nat) (w2 : Int32) (y_L6 : Nat → Nat → Int32) (H : Heap) (locs : List Loc) (ls : Array Slot), (60 - (y_L6 (a 50) 45).toInt).toNat < n → ag τ [60] y y_L6 → IM a u τ y_L6 → IW (u 1) (u 2) (u 9) (y_L6 (a 89)) → pk a y y_L6 → (y_L6 (a 50) 43).toInt = (y (a 50) 43).toInt → (y_L6 (a 50) 44).toInt = (y (a 50) 44).toInt → (y (a 50) 45).toInt ≤ (y_L6 (a 50) 45).toInt ∧ (y_L6 (a 50) 45).toInt ≤ 60 → tw (dC, dI) a k τ ln y_L6 g H → va_S A s.heap H locs → lv_has ls 3 [(0, .ref (a 50)), (1, .int p0), (2, .int w2)] → W p l e (headSpec wm_g_any ({ frames := 6 * N + 17, cells := 0, slots := 0, locals := 400 * N + 700 })).room s m ([.ref (a 50), .int p0] : List Value).toArray below meth c H locs 0 0 (MQ below (va_Qi (fun (r u : Int32) => u = r) (fun (r : Int32) (t : State) => (∃ (y' : Nat → Nat → Int32), ag τ [60] y y' ∧ IM a u τ y' ∧ (y' (a 50) 43).toInt = (y (a 50) 43).toInt ∧ (y' (a 50) 44).toInt = (y (a 50) 44).toInt ∧ ((y (a 50) 45).toInt ≤ (y' (a 50) 45).toInt ∧ (y' (a 50) 45).toInt ≤ 60) ∧ pk a y y' ∧ tw (dC, dI) a k τ ln y' g t.heap)) A) ([.ref (a 50), .int p0] : List Value).toArray s 0 0 A) (F0 m 6 ls []) := by
    intro n
    induction n with
    | zero => intro w2 y_L6 H locs ls hlt; exact absurd hlt (Nat.not_lt_zero _)
    | succ n ih_6 =>
      intro w2 y_L6 H locs ls hlt hG hI hW hPK hi6_0 hi6_1 hi6_2 hT hS hl
      refine lv_aload_n hx hb dX12_any_6 rfl (lv_at hl 0 rfl) ?_
      have hFc := tw_free hF hS hA
      refine va_calli (va_runV (As := []) (rest := []) ⟨hx, hb, hml, hown, hts⟩ (m_fine l dC dI ad av H.size a k τ ln y_L6 g u  hI hW) (cwV 0 hts (gi_4 (List.mem_cons_of_mem _ (List.mem_append_left _ (List.mem_of_getElem? (i := 32) rfl))) (List.mem_cons_of_mem _ (List.mem_append_left _ (List.mem_of_getElem? (i := 33) rfl))) (List.mem_cons_of_mem _ (List.mem_append_left _ (List.mem_of_getElem? (i := 34) rfl))) (List.mem_cons_of_mem _ (List.mem_append_left _ (List.mem_of_getElem? (i := 9) rfl))) (fun _ hh => (List.mem_cons_of_mem _ (List.mem_append_right _ (List.mem_append_right _ (List.mem_append_right _ (List.mem_append_right _ (List.mem_append_right _ (List.mem_append_right _ (List.mem_append_right _ (List.mem_append_left _ hh)))))))))) gd_m_fine) rfl rfl rfl (by decide +kernel) ⟨by show 0 + 1 ≤ 6 * N + 17; omega, by show 8 + (1 + 11) + (0) ≤ 400 * N + 700; omega⟩) ⟨pw_blind, tw_recv hK hT (fx_50 hX) (by decide) cl_e60 rfl, pw_use hT hK hFc hS hM⟩ rfl rfl hl.1 rfl (lv_room (Nat.le_of_ble_eq_true rfl)) dX12_any_7 ⟨Nat.le_of_ble_eq_true rfl, Nat.le_of_ble_eq_true rfl⟩) hS (fun q _ h => hFc q h) hFc (fun r0 r_937 t H locs ht hvm hw hB hz1 hk1 hS => ?_)
      refine W.widen (k := 0) (n := 0) (Nat.le_of_ble_eq_true rfl) (Nat.le_of_ble_eq_true rfl) ?_
      clear hvm hz1 hk1
      subst hw
      rcases hB with ⟨hre, hT⟩ | ⟨hre, hT⟩
      · refine lq_top (v := 1) hre ?_
        rw [ht] at hT
        refine lv_if_eq (tgt := 57) hx hb dX12_any_10 (by decide) (fun c_938 => absurd c_938 (by decide)) (fun c_938 => ?_)
        refine lv_aload_n hx hb dX12_any_13 rfl (lv_at hl 0 rfl) ?_
        refine lv_bipush (v := 124) hx hb dX12_any_14 (by decide) ?_
        have hFc := tw_free hF hS hA
        have hp_939 : (124 : Int32).toInt = 124 := (zk (x := 124) 124 rfl)
        refine va_calli (va_runV (As := [.int 124]) (rest := []) ⟨hx, hb, hml, hown, hts⟩ (m_comes l dC dI ad av H.size a k τ ln y_L6 g u (124 : Int32) sq nS i hI hs0 hcl hsg hltr hi_i hsl (by omega) (by omega) (by omega) (by omega) (by decide) hW) (cwV 1 hts (gi_4 (List.mem_cons_of_mem _ (List.mem_append_left _ (List.mem_of_getElem? (i := 6) rfl))) (List.mem_cons_of_mem _ (List.mem_append_left _ (List.mem_of_getElem? (i := 7) rfl))) (List.mem_cons_of_mem _ (List.mem_append_left _ (List.mem_of_getElem? (i := 8) rfl))) (List.mem_cons_of_mem _ (List.mem_append_left _ (List.mem_of_getElem? (i := 9) rfl))) (fun _ hh => (List.mem_cons_of_mem _ (List.mem_append_right _ (List.mem_append_left _ hh)))) gd_m_comes) rfl rfl rfl (by decide +kernel) ⟨by show 1 + 1 ≤ 6 * N + 17; omega, by show 8 + (2 + 11) + (60) ≤ 400 * N + 700; omega⟩) ⟨pw_blind, tw_recv hK hT (fx_50 hX) (by decide) cl_e60 rfl, pw_use hT hK hFc hS hM⟩ rfl rfl hl.1 rfl (lv_room (Nat.le_of_ble_eq_true rfl)) dX12_any_16 ⟨Nat.le_of_ble_eq_true rfl, Nat.le_of_ble_eq_true rfl⟩) hS (fun q _ h => hFc q h) hFc (fun r0 r_940 t H locs ht hvm hw hB hz1 hk1 hS => ?_)
        refine W.widen (k := 0) (n := 0) (Nat.le_of_ble_eq_true rfl) (Nat.le_of_ble_eq_true rfl) ?_
        clear hvm hz1 hk1
        subst hw
        rcases hB with ⟨y_941, hre, hgy_941, hI, hf_942, hf_943, hf_944, hf_945, hf_946, hT⟩ | ⟨y_947, hre, hgy_947, hI, hf_948, hf_949, hf_950, hf_951, hf_952, hT⟩
        · refine lq_top (v := 1) hre ?_
          rw [ht] at hT
          have hG := hG.tr hgy_941 (by decide)
          have hW : IW (u 1) (u 2) (u 9) (y_941 (a 89)) := by rw [hgy_941.at (fx_89 hX) (by decide)]; exact hW
          try simp only [hp_939] at hf_942 hf_943 hf_944 hf_945 hf_946
          clear hp_939
          have hPK := hPK.tr hf_945
          refine lv_if_eq (tgt := 57) hx hb dX12_any_19 (by decide) (fun c_953 => absurd c_953 (by decide)) (fun c_953 => ?_)
          refine lv_aload_n hx hb dX12_any_22 rfl (lv_at hl 0 rfl) ?_
          refine lv_iload_n hx hb dX12_any_23 rfl (lv_at hl 1 rfl) ?_
          have hFc := tw_free hF hS hA
          refine va_calli (va_runV (As := [.int p0]) (rest := []) ⟨hx, hb, hml, hown, hts⟩ (ih1 l dC dI ad av H.size a k τ ln y_941 g u p0 sq nS i hI hs0 hcl hsg hltr hi_i hsl (by omega) (by omega) (by omega) (by omega) (by omega) hW) (cwV 1 hts (gi_4 (List.mem_cons_of_mem _ (List.mem_append_left _ (List.mem_of_getElem? (i := 44) rfl))) (List.mem_cons_of_mem _ (List.mem_append_left _ (List.mem_of_getElem? (i := 45) rfl))) (List.mem_cons_of_mem _ (List.mem_append_left _ (List.mem_of_getElem? (i := 46) rfl))) (List.mem_cons_of_mem _ (List.mem_append_left _ (List.mem_of_getElem? (i := 9) rfl))) (fun _ hh => (List.mem_cons.mp hh).elim (fun ee => by rw [ee]; exact (List.mem_cons_of_mem _ (List.mem_append_left _ (List.mem_of_getElem? (i := 4) rfl)))) (fun h9 => List.mem_cons_of_mem _ h9)) gd_g_both) rfl rfl rfl (by decide +kernel) ⟨by show 6 * N + 16 + 1 ≤ 6 * N + 17; omega, by show 8 + (3 + 11) + (400 * N + 640) ≤ 400 * N + 700; omega⟩) ⟨pw_blind, tw_recv hK hT (fx_50 hX) (by decide) cl_e60 rfl, pw_use hT hK hFc hS hM⟩ rfl rfl hl.1 rfl (lv_room (Nat.le_of_ble_eq_true rfl)) dX12_any_24 ⟨Nat.le_of_ble_eq_true rfl, Nat.le_of_ble_eq_true rfl⟩) hS (fun q _ h => hFc q h) hFc (fun r0 r_954 t H locs ht hvm hw hB hz1 hk1 hS => ?_)
          refine W.widen (k := 0) (n := 0) (Nat.le_of_ble_eq_true rfl) (Nat.le_of_ble_eq_true rfl) ?_
          clear hvm hz1 hk1
          subst hw
          obtain ⟨y_955, hgy_955, hI, hf_956, hf_957, hf_958, hf_959, hT⟩ := hB
          rw [ht] at hT
          have hG := hG.tr hgy_955 (by decide)
          have hW : IW (u 1) (u 2) (u 9) (y_955 (a 89)) := by rw [hgy_955.at (fx_89 hX) (by decide)]; exact hW
          have hPK := hPK.tr hf_959
          refine lv_if_eq (tgt := 34) hx hb dX12_any_27 (by decide) (fun c_960 => ?_) (fun c_960 => ?_)
          · have nc_960 := z_eq rfl (zk (x := 0) 0 rfl) c_960
            refine lv_iconst (v := 0) hx hb dX12_any_34 (by decide) ?_
            refine lv_iload_n hx hb dX12_any_35 rfl (lv_at hl 2 rfl) ?_
            refine lv_if_eq (tgt := 43) hx hb dX12_any_36 (by decide) (fun c_961 => ?_) (fun c_961 => ?_)
            · have nc_961 := z_eq rfl (zk (x := 0) 0 rfl) c_961
              refine lv_iconst (v := 0) hx hb dX12_any_43 (by decide) ?_
              refine lv_ior hx hb dX12_any_44 ?_
              refine lq_top (v := 0) (by decide) ?_
              refine lv_if_eq (tgt := 52) hx hb dX12_any_45 (by decide) (fun c_962 => ?_) (fun c_962 => absurd c_962 (by decide))
              refine lv_iconst (v := 0) hx hb dX12_any_52 (by decide) ?_
              refine lv_istore_n (lv' := [(2, .int 0), (0, .ref (a 50)), (1, .int p0)]) hx hb dX12_any_53 rfl hl (by decide) rfl (fun ls hl => ?_)
              refine lv_goto (tgt := 6) hx hb dX12_any_54 (by decide) ?_
              have hp_963 : (0 : Int32).toInt = 0 := (zk (x := 0) 0 rfl)
              exact ih_6  (0 : Int32) y_955 H _ ls (by omega) hG hI hW hPK (by omega) (by omega) (by omega) hT hS (lv_sub hl [1, 2, 0] rfl)
            · have nc_961 := z_ne rfl (zk (x := 0) 0 rfl) c_961
              refine lv_iconst (v := 1) hx hb dX12_any_39 (by decide) ?_
              refine lv_goto (tgt := 44) hx hb dX12_any_40 (by decide) ?_
              refine lv_ior hx hb dX12_any_44 ?_
              refine lq_top (v := 1) (by decide) ?_
              refine lv_if_eq (tgt := 52) hx hb dX12_any_45 (by decide) (fun c_964 => absurd c_964 (by decide)) (fun c_964 => ?_)
              refine lv_iconst (v := 1) hx hb dX12_any_48 (by decide) ?_
              refine lv_goto (tgt := 53) hx hb dX12_any_49 (by decide) ?_
              refine lv_istore_n (lv' := [(2, .int 1), (0, .ref (a 50)), (1, .int p0)]) hx hb dX12_any_53 rfl hl (by decide) rfl (fun ls hl => ?_)
              refine lv_goto (tgt := 6) hx hb dX12_any_54 (by decide) ?_
              have hp_965 : (1 : Int32).toInt = 1 := (zk (x := 1) 1 rfl)
              exact ih_6  (1 : Int32) y_955 H _ ls (by omega) hG hI hW hPK (by omega) (by omega) (by omega) hT hS (lv_sub hl [1, 2, 0] rfl)
          · have nc_960 := z_ne rfl (zk (x := 0) 0 rfl) c_960
            refine lv_iconst (v := 1) hx hb dX12_any_30 (by decide) ?_
            refine lv_goto (tgt := 35) hx hb dX12_any_31 (by decide) ?_
            refine lv_iload_n hx hb dX12_any_35 rfl (lv_at hl 2 rfl) ?_
            refine lv_if_eq (tgt := 43) hx hb dX12_any_36 (by decide) (fun c_966 => ?_) (fun c_966 => ?_)
            · have nc_966 := z_eq rfl (zk (x := 0) 0 rfl) c_966
              refine lv_iconst (v := 0) hx hb dX12_any_43 (by decide) ?_
              refine lv_ior hx hb dX12_any_44 ?_
              refine lq_top (v := 1) (by decide) ?_
              refine lv_if_eq (tgt := 52) hx hb dX12_any_45 (by decide) (fun c_967 => absurd c_967 (by decide)) (fun c_967 => ?_)
              refine lv_iconst (v := 1) hx hb dX12_any_48 (by decide) ?_
              refine lv_goto (tgt := 53) hx hb dX12_any_49 (by decide) ?_
              refine lv_istore_n (lv' := [(2, .int 1), (0, .ref (a 50)), (1, .int p0)]) hx hb dX12_any_53 rfl hl (by decide) rfl (fun ls hl => ?_)
              refine lv_goto (tgt := 6) hx hb dX12_any_54 (by decide) ?_
              have hp_968 : (1 : Int32).toInt = 1 := (zk (x := 1) 1 rfl)
              exact ih_6  (1 : Int32) y_955 H _ ls (by omega) hG hI hW hPK (by omega) (by omega) (by omega) hT hS (lv_sub hl [1, 2, 0] rfl)
            · have nc_966 := z_ne rfl (zk (x := 0) 0 rfl) c_966
              refine lv_iconst (v := 1) hx hb dX12_any_39 (by decide) ?_
              refine lv_goto (tgt := 44) hx hb dX12_any_40 (by decide) ?_
              refine lv_ior hx hb dX12_any_44 ?_
              refine lq_top (v := 1) (by decide) ?_
              refine lv_if_eq (tgt := 52) hx hb dX12_any_45 (by decide) (fun c_969 => absurd c_969 (by decide)) (fun c_969 => ?_)
              refine lv_iconst (v := 1) hx hb dX12_any_48 (by decide) ?_
              refine lv_goto (tgt := 53) hx hb dX12_any_49 (by decide) ?_
              refine lv_istore_n (lv' := [(2, .int 1), (0, .ref (a 50)), (1, .int p0)]) hx hb dX12_any_53 rfl hl (by decide) rfl (fun ls hl => ?_)
              refine lv_goto (tgt := 6) hx hb dX12_any_54 (by decide) ?_
              have hp_970 : (1 : Int32).toInt = 1 := (zk (x := 1) 1 rfl)
              exact ih_6  (1 : Int32) y_955 H _ ls (by omega) hG hI hW hPK (by omega) (by omega) (by omega) hT hS (lv_sub hl [1, 2, 0] rfl)
        · refine lq_top (v := 0) hre ?_
          rw [ht] at hT
          have hG := hG.tr hgy_947 (by decide)
          have hW : IW (u 1) (u 2) (u 9) (y_947 (a 89)) := by rw [hgy_947.at (fx_89 hX) (by decide)]; exact hW
          try simp only [hp_939] at hf_948 hf_949 hf_950 hf_951 hf_952
          clear hp_939
          have hPK := hPK.tr hf_951
          refine lv_if_eq (tgt := 57) hx hb dX12_any_19 (by decide) (fun c_971 => ?_) (fun c_971 => absurd c_971 (by decide))
          refine lv_iload_n hx hb dX12_any_57 rfl (lv_at hl 2 rfl) ?_
          have hrv : w2.toInt = w2.toInt := rfl
          exact W.iret (v := w2) hx hb hr (fun t ht hW9 => ⟨⟨w2, w2, rfl, rfl, ⟨y_947, hG, hI, by omega, by omega, by omega, hPK, tw_at ht hT⟩⟩, hS.F ht⟩) hS.2.2 dX12_any_58
      · refine lq_top (v := 0) hre ?_
        rw [ht] at hT
        refine lv_if_eq (tgt := 57) hx hb dX12_any_10 (by decide) (fun c_972 => ?_) (fun c_972 => absurd c_972 (by decide))
        refine lv_iload_n hx hb dX12_any_57 rfl (lv_at hl 2 rfl) ?_
        have hrv : w2.toInt = w2.toInt := rfl
        exact W.iret (v := w2) hx hb hr (fun t ht hW9 => ⟨⟨w2, w2, rfl, rfl, ⟨y_L6, hG, hI, by omega, by omega, by omega, hPK, tw_at ht hT⟩⟩, hS.F ht⟩) hS.2.2 dX12_any_58
  exact loop_6 _ r_931 y_932 H _ ls (Nat.lt_succ_self _) hG hI hW hPK (by omega) (by omega) (by omega) hT hS (lv_sub hl [1, 2, 0] rfl)

theorem g_all (N : Nat) : St_g_thing N ∧ St_g_product N ∧ St_g_sum N ∧ St_g_held N ∧ St_g_both N ∧ St_g_any N := by
  induction N with
  | zero =>
    have h1 : St_g_thing 0 := by
      intro l dC dI ad av sz a k τ ln y g u p0 sq nS i hI hs0 hcl hsg hltr hi_i hsl hbg hsz hft hat hN hW
      exfalso; omega
    have h2 := g_product_step 0 h1
    have h3 := g_sum_step 0 h2
    have h4 := g_held_step 0 h3
    have h5 := g_both_step 0 h4
    exact ⟨h1, h2, h3, h4, h5, g_any_step 0 h5⟩
  | succ N ih =>
    have h1 := g_thing_step N ih.1 ih.2.2.2.2.2
    have h2 := g_product_step (N + 1) h1
    have h3 := g_sum_step (N + 1) h2
    have h4 := g_held_step (N + 1) h3
    have h5 := g_both_step (N + 1) h4
    exact ⟨h1, h2, h3, h4, h5, g_any_step (N + 1) h5⟩
theorem m_any : St_g_any 61 := (g_all 61).2.2.2.2.2
def wo_m_get : List Cond := [.fieldLink RX12 107 "TypingPoolModel" "w" "[I"]
def wm_m_get : List Cond := .code yX12_get cX12_get 3 (some .int) :: (wo_m_get ++ (wsX120 ++ ([] : List Cond)))
theorem gd_m_get : ∀ w ∈ wm_m_get, goodWord w = true := gd_c rfl (gd_a (by decide) (gd_a gd_wsX120 gd_nil))
set_option maxRecDepth 20000 in
theorem im_m_get : ∀ w ∈ wm_m_get, w ∈ lw_tbl := im_c (in_r [.code yX12_get cX12_get 3 (some .int)] [1543] (by decide +kernel)) (in_app (in_r wo_m_get [1279] (by decide +kernel)) (in_app im_wsX120 im_nil))
set_option maxHeartbeats 4000000 in
set_option maxRecDepth 100000 in
theorem m_get (l : Launch) (dC : Nat → ClassId) (dI : Nat → Nat → Nat) (ad av : Nat → Nat) (sz : Nat) (a : Nat → Nat) (k : Nat → ClassId) (τ ln : Nat → Nat) (y : Nat → Nat → Int32) (g : Nat → Nat → Option Nat) (u : Nat → Int) (p0 : Int32) (p1 : Int32) (hI : IM a u τ y) (hl0 : 0 ≤ p0.toInt) (hu0 : p0.toInt < 8) (hl1 : 0 ≤ p1.toInt) (hu1 : p1.toInt ≤ 5) (hW : IW (u 1) (u 2) (u 9) (y (a 89))) : Met l yX12_get wm_m_get ({ frames := 0, cells := 0, slots := 0, locals := 0 }) (pw_ ad av (dC, dI) sz [.ref (a 50), .int p0, .int p1] a k τ ln y g) (va_Qi (fun (r u : Int32) => u = r) (fun (r : Int32) (t : State) => (r.toInt = (y (a 89) (1 + 6 * p0.toInt + p1.toInt).toNat).toInt ∧ tw (dC, dI) a k τ ln y g t.heap)) (fr τ sz)) 0 0 (fr τ sz) := by
  refine Met.ofW (cc := cX12_get) (maxL := 3) (ret := (some .int)) (by decide) rfl ?_
  intro p e s m args below meth c s₁ B hml hv
  obtain ⟨rfl, hsz, hT, hK, hM⟩ := hv
  have hx := B.exec
  have hb := B.bytes
  have hr := B.returns
  have hts := atoms_spec (ws := wm_m_get) B.pre
  have hown : s.vm.findClass RX12 = some m.cls := findClass_of_methodNamed B.named
  have hlocks := B.notSynchronized
  subst hsz
  generalize hAe : fr τ s.heap.size = A at hM ⊢
  have hA : ∀ q : Nat, s.heap.size ≤ q → A q := fun q h => by rw [← hAe]; exact Or.inr h
  have hF : ∀ q, τ q ≠ 0 → A q := fun q h => by rw [← hAe]; exact Or.inl h
  have hS : va_S A s.heap s.heap [] := va_S.rf
  have hX := hI.1
  have hR := im_r hI
  have hl := lv_entry ([.ref (a 50), .int p0, .int p1]) (n := 3) (Nat.le_of_ble_eq_true rfl)
  rw [lg_entry_eq]
  generalize (lg_sl ([.ref (a 50), .int p0, .int p1]) ++ List.replicate (3 - (lg_sl ([.ref (a 50), .int p0, .int p1])).length) Slot.unset).toArray = ls at hl ⊢
  have hl : lv_has ls 3 [(0, .ref (a 50)), (1, .int p0), (2, .int p1)] := hl
  refine lv_aload_n hx hb dX12_get_0 rfl (lv_at hl 0 rfl) ?_
  refine tw_get (D := (dC, dI)) (v := .ref (a 89)) (C := RX12) (T := TX12) (N := 58) hx hb hts (fun _ hh => (List.mem_cons_of_mem _ (List.mem_append_right _ (List.mem_append_left _ hh)))) hown hK hT (fx_50 hX) (by decide) cl_e60 rfl 38 (by decide) (hts (.fieldLink RX12 107 "TypingPoolModel" "w" "[I") (List.mem_cons_of_mem _ (List.mem_append_left _ (List.mem_of_getElem? (i := 0) rfl)))) (fun _ h9 => h9) rfl dX12_get_1 ?_
  refine lv_iconst (v := 1) hx hb dX12_get_4 (by decide) ?_
  refine lv_bipush (v := 6) hx hb dX12_get_5 (by decide) ?_
  refine lv_iload_n hx hb dX12_get_7 rfl (lv_at hl 1 rfl) ?_
  refine lv_imul hx hb dX12_get_8 ?_
  refine lv_topi (fun x_1 ex_1 => ?_)
  have hx_1 := z_mul ex_1 (zk (x := 6) 6 rfl) rfl (by omega) (by omega)
  refine lv_iadd hx hb dX12_get_9 ?_
  refine lv_topi (fun x_2 ex_2 => ?_)
  have hx_2 := z_add ex_2 (zk (x := 1) 1 rfl) rfl (by omega) (by omega)
  refine lv_iload_n hx hb dX12_get_10 rfl (lv_at hl 2 rfl) ?_
  refine lv_iadd hx hb dX12_get_11 ?_
  refine lv_topi (fun x_3 ex_3 => ?_)
  have hx_3 := z_add ex_3 rfl rfl (by omega) (by omega)
  refine tw_iald hx hb hK hT 0 (fx_89 hX) (by decide) cl_e99 rfl (z_in rfl (by omega) (by omega)) dX12_get_12 ?_
  have hrv : (y (a 89) x_3.toNatClampNeg).toInt = (y (a 89) x_3.toNatClampNeg).toInt := rfl
  exact W.iret (v := y (a 89) x_3.toNatClampNeg) hx hb hr (fun t ht hW9 => ⟨⟨y (a 89) x_3.toNatClampNeg, y (a 89) x_3.toNatClampNeg, rfl, rfl, ⟨(by rw [z_nat (x := x_3) rfl, show (x_3.toInt : Int) = 1 + 6 * p0.toInt + p1.toInt by omega]), tw_at ht hT⟩⟩, hS.F ht⟩) hS.2.2 dX12_get_13
def wo_m_pieceG : List Cond := [.fieldLink RX12 107 "TypingPoolModel" "w" "[I"]
def wm_m_pieceG : List Cond := .code yX12_piece cX12_piece 3 (some .int) :: (wo_m_pieceG ++ (wsX120 ++ ([] : List Cond)))
theorem gd_m_pieceG : ∀ w ∈ wm_m_pieceG, goodWord w = true := gd_c rfl (gd_a (by decide) (gd_a gd_wsX120 gd_nil))
set_option maxRecDepth 20000 in
theorem im_m_pieceG : ∀ w ∈ wm_m_pieceG, w ∈ lw_tbl := im_c (in_r [.code yX12_piece cX12_piece 3 (some .int)] [1559] (by decide +kernel)) (in_app (in_r wo_m_pieceG [1279] (by decide +kernel)) (in_app im_wsX120 im_nil))
set_option maxHeartbeats 4000000 in
set_option maxRecDepth 100000 in
theorem m_pieceG (l : Launch) (dC : Nat → ClassId) (dI : Nat → Nat → Nat) (ad av : Nat → Nat) (sz : Nat) (a : Nat → Nat) (k : Nat → ClassId) (τ ln : Nat → Nat) (y : Nat → Nat → Int32) (g : Nat → Nat → Option Nat) (u : Nat → Int) (p0 : Int32) (p1 : Int32) (hI : IM a u τ y) (hl0 : 0 ≤ p0.toInt) (hu0 : p0.toInt < 30) (hl1 : 0 ≤ p1.toInt) (hu1 : p1.toInt ≤ 4) (hW : IW (u 1) (u 2) (u 9) (y (a 89))) : Met l yX12_piece wm_m_pieceG ({ frames := 0, cells := 0, slots := 0, locals := 0 }) (pw_ ad av (dC, dI) sz [.ref (a 50), .int p0, .int p1] a k τ ln y g) (va_Qi (fun (r u : Int32) => u = r) (fun (r : Int32) (t : State) => (r.toInt = (y (a 89) (49 + 5 * p0.toInt + p1.toInt).toNat).toInt ∧ tw (dC, dI) a k τ ln y g t.heap)) (fr τ sz)) 0 0 (fr τ sz) := by
  refine Met.ofW (cc := cX12_piece) (maxL := 3) (ret := (some .int)) (by decide) rfl ?_
  intro p e s m args below meth c s₁ B hml hv
  obtain ⟨rfl, hsz, hT, hK, hM⟩ := hv
  have hx := B.exec
  have hb := B.bytes
  have hr := B.returns
  have hts := atoms_spec (ws := wm_m_pieceG) B.pre
  have hown : s.vm.findClass RX12 = some m.cls := findClass_of_methodNamed B.named
  have hlocks := B.notSynchronized
  subst hsz
  generalize hAe : fr τ s.heap.size = A at hM ⊢
  have hA : ∀ q : Nat, s.heap.size ≤ q → A q := fun q h => by rw [← hAe]; exact Or.inr h
  have hF : ∀ q, τ q ≠ 0 → A q := fun q h => by rw [← hAe]; exact Or.inl h
  have hS : va_S A s.heap s.heap [] := va_S.rf
  have hX := hI.1
  have hR := im_r hI
  have hl := lv_entry ([.ref (a 50), .int p0, .int p1]) (n := 3) (Nat.le_of_ble_eq_true rfl)
  rw [lg_entry_eq]
  generalize (lg_sl ([.ref (a 50), .int p0, .int p1]) ++ List.replicate (3 - (lg_sl ([.ref (a 50), .int p0, .int p1])).length) Slot.unset).toArray = ls at hl ⊢
  have hl : lv_has ls 3 [(0, .ref (a 50)), (1, .int p0), (2, .int p1)] := hl
  refine lv_aload_n hx hb dX12_piece_0 rfl (lv_at hl 0 rfl) ?_
  refine tw_get (D := (dC, dI)) (v := .ref (a 89)) (C := RX12) (T := TX12) (N := 58) hx hb hts (fun _ hh => (List.mem_cons_of_mem _ (List.mem_append_right _ (List.mem_append_left _ hh)))) hown hK hT (fx_50 hX) (by decide) cl_e60 rfl 38 (by decide) (hts (.fieldLink RX12 107 "TypingPoolModel" "w" "[I") (List.mem_cons_of_mem _ (List.mem_append_left _ (List.mem_of_getElem? (i := 0) rfl)))) (fun _ h9 => h9) rfl dX12_piece_1 ?_
  refine lv_bipush (v := 49) hx hb dX12_piece_4 (by decide) ?_
  refine lv_iconst (v := 5) hx hb dX12_piece_6 (by decide) ?_
  refine lv_iload_n hx hb dX12_piece_7 rfl (lv_at hl 1 rfl) ?_
  refine lv_imul hx hb dX12_piece_8 ?_
  refine lv_topi (fun x_1 ex_1 => ?_)
  have hx_1 := z_mul ex_1 (zk (x := 5) 5 rfl) rfl (by omega) (by omega)
  refine lv_iadd hx hb dX12_piece_9 ?_
  refine lv_topi (fun x_2 ex_2 => ?_)
  have hx_2 := z_add ex_2 (zk (x := 49) 49 rfl) rfl (by omega) (by omega)
  refine lv_iload_n hx hb dX12_piece_10 rfl (lv_at hl 2 rfl) ?_
  refine lv_iadd hx hb dX12_piece_11 ?_
  refine lv_topi (fun x_3 ex_3 => ?_)
  have hx_3 := z_add ex_3 rfl rfl (by omega) (by omega)
  refine tw_iald hx hb hK hT 0 (fx_89 hX) (by decide) cl_e99 rfl (z_in rfl (by omega) (by omega)) dX12_piece_12 ?_
  have hrv : (y (a 89) x_3.toNatClampNeg).toInt = (y (a 89) x_3.toNatClampNeg).toInt := rfl
  exact W.iret (v := y (a 89) x_3.toNatClampNeg) hx hb hr (fun t ht hW9 => ⟨⟨y (a 89) x_3.toNatClampNeg, y (a 89) x_3.toNatClampNeg, rfl, rfl, ⟨(by rw [z_nat (x := x_3) rfl, show (x_3.toInt : Int) = 49 + 5 * p0.toInt + p1.toInt by omega]), tw_at ht hT⟩⟩, hS.F ht⟩) hS.2.2 dX12_piece_13
def wo_m_put : List Cond := [.fieldLink RX12 107 "TypingPoolModel" "w" "[I"]
def wm_m_put : List Cond := .code yX12_put cX12_put 4 none :: (wo_m_put ++ (wsX120 ++ ([] : List Cond)))
theorem gd_m_put : ∀ w ∈ wm_m_put, goodWord w = true := gd_c rfl (gd_a (by decide) (gd_a gd_wsX120 gd_nil))
set_option maxRecDepth 20000 in
theorem im_m_put : ∀ w ∈ wm_m_put, w ∈ lw_tbl := im_c (in_r [.code yX12_put cX12_put 4 none] [1431] (by decide +kernel)) (in_app (in_r wo_m_put [1279] (by decide +kernel)) (in_app im_wsX120 im_nil))
set_option maxHeartbeats 4000000 in
set_option maxRecDepth 100000 in
theorem m_put (l : Launch) (dC : Nat → ClassId) (dI : Nat → Nat → Nat) (ad av : Nat → Nat) (sz : Nat) (a : Nat → Nat) (k : Nat → ClassId) (τ ln : Nat → Nat) (y : Nat → Nat → Int32) (g : Nat → Nat → Option Nat) (u : Nat → Int) (p0 : Int32) (p1 : Int32) (p2 : Int32) (hI : IM a u τ y) (hl0 : 0 ≤ p0.toInt) (hu0 : p0.toInt < 8) (hl1 : 0 ≤ p1.toInt) (hu1 : p1.toInt ≤ 5) (hW : IW (u 1) (u 2) (u 9) (y (a 89))) : Met l yX12_put wm_m_put ({ frames := 0, cells := 0, slots := 0, locals := 0 }) (pw_ ad av (dC, dI) sz [.ref (a 50), .int p0, .int p1, .int p2] a k τ ln y g) (va_Qv (fun (_ : Unit) => True) (fun (_ : Unit) (t : State) => (∃ (i : Int32), i.toInt = 1 + 6 * p0.toInt + p1.toInt ∧ tw (dC, dI) a k τ ln (up2 y (a 89) i.toNatClampNeg p2) g t.heap)) (fr τ sz)) 0 0 (fr τ sz) := by
  refine Met.ofW (cc := cX12_put) (maxL := 4) (ret := none) (by decide) rfl ?_
  intro p e s m args below meth c s₁ B hml hv
  obtain ⟨rfl, hsz, hT, hK, hM⟩ := hv
  have hx := B.exec
  have hb := B.bytes
  have hr := B.returns
  have hts := atoms_spec (ws := wm_m_put) B.pre
  have hown : s.vm.findClass RX12 = some m.cls := findClass_of_methodNamed B.named
  have hlocks := B.notSynchronized
  subst hsz
  generalize hAe : fr τ s.heap.size = A at hM ⊢
  have hA : ∀ q : Nat, s.heap.size ≤ q → A q := fun q h => by rw [← hAe]; exact Or.inr h
  have hF : ∀ q, τ q ≠ 0 → A q := fun q h => by rw [← hAe]; exact Or.inl h
  have hS : va_S A s.heap s.heap [] := va_S.rf
  have hX := hI.1
  have hR := im_r hI
  have hG : ag τ [99] y y := ag.rf
  have hl := lv_entry ([.ref (a 50), .int p0, .int p1, .int p2]) (n := 4) (Nat.le_of_ble_eq_true rfl)
  rw [lg_entry_eq]
  generalize (lg_sl ([.ref (a 50), .int p0, .int p1, .int p2]) ++ List.replicate (4 - (lg_sl ([.ref (a 50), .int p0, .int p1, .int p2])).length) Slot.unset).toArray = ls at hl ⊢
  have hl : lv_has ls 4 [(0, .ref (a 50)), (1, .int p0), (2, .int p1), (3, .int p2)] := hl
  refine lv_aload_n hx hb dX12_put_0 rfl (lv_at hl 0 rfl) ?_
  refine tw_get (D := (dC, dI)) (v := .ref (a 89)) (C := RX12) (T := TX12) (N := 58) hx hb hts (fun _ hh => (List.mem_cons_of_mem _ (List.mem_append_right _ (List.mem_append_left _ hh)))) hown hK hT (fx_50 hX) (by decide) cl_e60 rfl 38 (by decide) (hts (.fieldLink RX12 107 "TypingPoolModel" "w" "[I") (List.mem_cons_of_mem _ (List.mem_append_left _ (List.mem_of_getElem? (i := 0) rfl)))) (fun _ h9 => h9) rfl dX12_put_1 ?_
  refine lv_iconst (v := 1) hx hb dX12_put_4 (by decide) ?_
  refine lv_bipush (v := 6) hx hb dX12_put_5 (by decide) ?_
  refine lv_iload_n hx hb dX12_put_7 rfl (lv_at hl 1 rfl) ?_
  refine lv_imul hx hb dX12_put_8 ?_
  refine lv_topi (fun x_1 ex_1 => ?_)
  have hx_1 := z_mul ex_1 (zk (x := 6) 6 rfl) rfl (by omega) (by omega)
  refine lv_iadd hx hb dX12_put_9 ?_
  refine lv_topi (fun x_2 ex_2 => ?_)
  have hx_2 := z_add ex_2 (zk (x := 1) 1 rfl) rfl (by omega) (by omega)
  refine lv_iload_n hx hb dX12_put_10 rfl (lv_at hl 2 rfl) ?_
  refine lv_iadd hx hb dX12_put_11 ?_
  refine lv_topi (fun x_3 ex_3 => ?_)
  have hx_3 := z_add ex_3 rfl rfl (by omega) (by omega)
  refine lv_iload_n hx hb dX12_put_12 rfl (lv_at hl 3 rfl) ?_
  refine tw_iast hx hb hK hT hF hS 0 (fx_89 hX) (by decide) (fun _ => cl_e99) rfl (z_in rfl (by omega) (by omega)) dX12_put_13 (fun H locs hT hS => ?_)
  obtain ⟨y_4, hy_4, hT⟩ : ∃ z : Nat → Nat → Int32, z = up2 y (a 89) x_3.toNatClampNeg p2 ∧ tw (dC, dI) a k τ ln z g H := ⟨_, rfl, hT⟩
  have hG : ag τ [99] y y_4 := by rw [hy_4]; exact hG.up (fx_89 hX) (by decide)
  have hI := hI.ag (S := [99]) (y' := y_4) (by rw [hy_4]; exact ag.one (fx_89 hX)) (by decide)
  have hE : x_3.toInt = 1 + 6 * p0.toInt + p1.toInt := by have h8 : x_3.toInt = x_3.toInt := rfl; omega
  rw [hy_4] at hT
  exact W.vret hx hb hr (fun t ht hW9 => ⟨⟨(), rfl, trivial, ⟨x_3, hE, tw_at ht hT⟩⟩, hS.F ht⟩) hS.2.2 dX12_put_14
def wo_m_pieceP : List Cond := [.fieldLink RX12 107 "TypingPoolModel" "w" "[I"]
def wm_m_pieceP : List Cond := .code yX12_piece_ cX12_piece_ 4 none :: (wo_m_pieceP ++ (wsX120 ++ ([] : List Cond)))
theorem gd_m_pieceP : ∀ w ∈ wm_m_pieceP, goodWord w = true := gd_c rfl (gd_a (by decide) (gd_a gd_wsX120 gd_nil))
set_option maxRecDepth 20000 in
theorem im_m_pieceP : ∀ w ∈ wm_m_pieceP, w ∈ lw_tbl := im_c (in_r [.code yX12_piece_ cX12_piece_ 4 none] [1451] (by decide +kernel)) (in_app (in_r wo_m_pieceP [1279] (by decide +kernel)) (in_app im_wsX120 im_nil))
set_option maxHeartbeats 4000000 in
set_option maxRecDepth 100000 in
theorem m_pieceP (l : Launch) (dC : Nat → ClassId) (dI : Nat → Nat → Nat) (ad av : Nat → Nat) (sz : Nat) (a : Nat → Nat) (k : Nat → ClassId) (τ ln : Nat → Nat) (y : Nat → Nat → Int32) (g : Nat → Nat → Option Nat) (u : Nat → Int) (p0 : Int32) (p1 : Int32) (p2 : Int32) (hI : IM a u τ y) (hl0 : 0 ≤ p0.toInt) (hu0 : p0.toInt < 30) (hl1 : 0 ≤ p1.toInt) (hu1 : p1.toInt ≤ 4) (hW : IW (u 1) (u 2) (u 9) (y (a 89))) : Met l yX12_piece_ wm_m_pieceP ({ frames := 0, cells := 0, slots := 0, locals := 0 }) (pw_ ad av (dC, dI) sz [.ref (a 50), .int p0, .int p1, .int p2] a k τ ln y g) (va_Qv (fun (_ : Unit) => True) (fun (_ : Unit) (t : State) => (∃ (i : Int32), i.toInt = 49 + 5 * p0.toInt + p1.toInt ∧ tw (dC, dI) a k τ ln (up2 y (a 89) i.toNatClampNeg p2) g t.heap)) (fr τ sz)) 0 0 (fr τ sz) := by
  refine Met.ofW (cc := cX12_piece_) (maxL := 4) (ret := none) (by decide) rfl ?_
  intro p e s m args below meth c s₁ B hml hv
  obtain ⟨rfl, hsz, hT, hK, hM⟩ := hv
  have hx := B.exec
  have hb := B.bytes
  have hr := B.returns
  have hts := atoms_spec (ws := wm_m_pieceP) B.pre
  have hown : s.vm.findClass RX12 = some m.cls := findClass_of_methodNamed B.named
  have hlocks := B.notSynchronized
  subst hsz
  generalize hAe : fr τ s.heap.size = A at hM ⊢
  have hA : ∀ q : Nat, s.heap.size ≤ q → A q := fun q h => by rw [← hAe]; exact Or.inr h
  have hF : ∀ q, τ q ≠ 0 → A q := fun q h => by rw [← hAe]; exact Or.inl h
  have hS : va_S A s.heap s.heap [] := va_S.rf
  have hX := hI.1
  have hR := im_r hI
  have hG : ag τ [99] y y := ag.rf
  have hl := lv_entry ([.ref (a 50), .int p0, .int p1, .int p2]) (n := 4) (Nat.le_of_ble_eq_true rfl)
  rw [lg_entry_eq]
  generalize (lg_sl ([.ref (a 50), .int p0, .int p1, .int p2]) ++ List.replicate (4 - (lg_sl ([.ref (a 50), .int p0, .int p1, .int p2])).length) Slot.unset).toArray = ls at hl ⊢
  have hl : lv_has ls 4 [(0, .ref (a 50)), (1, .int p0), (2, .int p1), (3, .int p2)] := hl
  refine lv_aload_n hx hb dX12_piece__0 rfl (lv_at hl 0 rfl) ?_
  refine tw_get (D := (dC, dI)) (v := .ref (a 89)) (C := RX12) (T := TX12) (N := 58) hx hb hts (fun _ hh => (List.mem_cons_of_mem _ (List.mem_append_right _ (List.mem_append_left _ hh)))) hown hK hT (fx_50 hX) (by decide) cl_e60 rfl 38 (by decide) (hts (.fieldLink RX12 107 "TypingPoolModel" "w" "[I") (List.mem_cons_of_mem _ (List.mem_append_left _ (List.mem_of_getElem? (i := 0) rfl)))) (fun _ h9 => h9) rfl dX12_piece__1 ?_
  refine lv_bipush (v := 49) hx hb dX12_piece__4 (by decide) ?_
  refine lv_iconst (v := 5) hx hb dX12_piece__6 (by decide) ?_
  refine lv_iload_n hx hb dX12_piece__7 rfl (lv_at hl 1 rfl) ?_
  refine lv_imul hx hb dX12_piece__8 ?_
  refine lv_topi (fun x_1 ex_1 => ?_)
  have hx_1 := z_mul ex_1 (zk (x := 5) 5 rfl) rfl (by omega) (by omega)
  refine lv_iadd hx hb dX12_piece__9 ?_
  refine lv_topi (fun x_2 ex_2 => ?_)
  have hx_2 := z_add ex_2 (zk (x := 49) 49 rfl) rfl (by omega) (by omega)
  refine lv_iload_n hx hb dX12_piece__10 rfl (lv_at hl 2 rfl) ?_
  refine lv_iadd hx hb dX12_piece__11 ?_
  refine lv_topi (fun x_3 ex_3 => ?_)
  have hx_3 := z_add ex_3 rfl rfl (by omega) (by omega)
  refine lv_iload_n hx hb dX12_piece__12 rfl (lv_at hl 3 rfl) ?_
  refine tw_iast hx hb hK hT hF hS 0 (fx_89 hX) (by decide) (fun _ => cl_e99) rfl (z_in rfl (by omega) (by omega)) dX12_piece__13 (fun H locs hT hS => ?_)
  obtain ⟨y_4, hy_4, hT⟩ : ∃ z : Nat → Nat → Int32, z = up2 y (a 89) x_3.toNatClampNeg p2 ∧ tw (dC, dI) a k τ ln z g H := ⟨_, rfl, hT⟩
  have hG : ag τ [99] y y_4 := by rw [hy_4]; exact hG.up (fx_89 hX) (by decide)
  have hI := hI.ag (S := [99]) (y' := y_4) (by rw [hy_4]; exact ag.one (fx_89 hX)) (by decide)
  have hE : x_3.toInt = 49 + 5 * p0.toInt + p1.toInt := by have h8 : x_3.toInt = x_3.toInt := rfl; omega
  rw [hy_4] at hT
  exact W.vret hx hb hr (fun t ht hW9 => ⟨⟨(), rfl, trivial, ⟨x_3, hE, tw_at ht hT⟩⟩, hS.F ht⟩) hS.2.2 dX12_piece__14
def wo_m_post : List Cond := [.fieldLink RX12 139 "TypingPoolModel" "thrown" "I", .methodLink RX12 145 yX12_in, .static yX12_in, .initialized RX12, .fieldLink RX12 152 "TypingPoolModel" "postMany" "I", .fieldLink RX12 9 "TypingPoolModel" "posts" "[I"]
def wm_m_post : List Cond := .code yX12_post cX12_post 2 (some .int) :: (wo_m_post ++ (wsX120 ++ (wm_m_in ++ ([] : List Cond))))
theorem gd_m_post : ∀ w ∈ wm_m_post, goodWord w = true := gd_c rfl (gd_a (by decide) (gd_a gd_wsX120 (gd_a gd_m_in gd_nil)))
set_option maxRecDepth 20000 in
theorem im_m_post : ∀ w ∈ wm_m_post, w ∈ lw_tbl := im_c (in_r [.code yX12_post cX12_post 2 (some .int)] [1419] (by decide +kernel)) (in_app (in_r wo_m_post [1278, 1420, 1421, 86, 1242, 1241] (by decide +kernel)) (in_app im_wsX120 (in_app im_m_in im_nil)))
set_option maxHeartbeats 4000000 in
set_option maxRecDepth 100000 in
theorem m_post (l : Launch) (dC : Nat → ClassId) (dI : Nat → Nat → Nat) (ad av : Nat → Nat) (sz : Nat) (a : Nat → Nat) (k : Nat → ClassId) (τ ln : Nat → Nat) (y : Nat → Nat → Int32) (g : Nat → Nat → Option Nat) (u : Nat → Int) (p0 : Int32) (hI : IM a u τ y) (hW : IW (u 1) (u 2) (u 9) (y (a 89))) : Met l yX12_post wm_m_post ({ frames := 1, cells := 0, slots := 0, locals := 60 }) (pw_ ad av (dC, dI) sz [.ref (a 50), .int p0] a k τ ln y g) (va_Qi (fun (r u : Int32) => u = r) (fun (r : Int32) (t : State) => (∃ (u' : Nat → Int) (y' : Nat → Nat → Int32) (g' : Nat → Nat → Option Nat), r = (-1) ∧ (∀ i, i ∉ ([0] : List Nat) → u' i = u i) ∧ ag τ [60, 61] y y' ∧ agg τ g g' ∧ IM a u' τ y' ∧ (p0.toInt < 0 ∨ 479 < p0.toInt ∨ 4 ≤ u 0) ∧ u' 0 = u 0 ∧ tw (dC, dI) a k τ ln y' g' t.heap) ∨ (∃ (u' : Nat → Int) (y' : Nat → Nat → Int32) (g' : Nat → Nat → Option Nat), (∀ i, i ∉ ([0] : List Nat) → u' i = u i) ∧ ag τ [60, 61] y y' ∧ agg τ g g' ∧ IM a u' τ y' ∧ (0 ≤ p0.toInt ∧ p0.toInt ≤ 479 ∧ u 0 < 4) ∧ r.toInt = u 0 + 1 ∧ u' 0 = u 0 + 1 ∧ tw (dC, dI) a k τ ln y' g' t.heap)) (fr τ sz)) 0 0 (fr τ sz) := by
  refine Met.ofW (cc := cX12_post) (maxL := 2) (ret := (some .int)) (by decide) rfl ?_
  intro p e s m args below meth c s₁ B hml hv
  obtain ⟨rfl, hsz, hT, hK, hM⟩ := hv
  have hx := B.exec
  have hb := B.bytes
  have hr := B.returns
  have hts := atoms_spec (ws := wm_m_post) B.pre
  have hown : s.vm.findClass RX12 = some m.cls := findClass_of_methodNamed B.named
  have hlocks := B.notSynchronized
  subst hsz
  generalize hAe : fr τ s.heap.size = A at hM ⊢
  have hA : ∀ q : Nat, s.heap.size ≤ q → A q := fun q h => by rw [← hAe]; exact Or.inr h
  have hF : ∀ q, τ q ≠ 0 → A q := fun q h => by rw [← hAe]; exact Or.inl h
  have hS : va_S A s.heap s.heap [] := va_S.rf
  have hX := hI.1
  have hR := im_r hI
  have hG : ag τ [60, 61] y y := ag.rf
  have hGg : agg τ g g := agg.rf
  have hl := lv_entry ([.ref (a 50), .int p0]) (n := 2) (Nat.le_of_ble_eq_true rfl)
  rw [lg_entry_eq]
  generalize (lg_sl ([.ref (a 50), .int p0]) ++ List.replicate (2 - (lg_sl ([.ref (a 50), .int p0])).length) Slot.unset).toArray = ls at hl ⊢
  have hl : lv_has ls 2 [(0, .ref (a 50)), (1, .int p0)] := hl
  refine lv_aload_n hx hb dX12_post_0 rfl (lv_at hl 0 rfl) ?_
  refine lv_iconst (v := 0) hx hb dX12_post_1 (by decide) ?_
  refine tw_put (D := (dC, dI)) (x := 0) (ty := .int) (C := RX12) (T := TX12) (N := 58) hx hb hts (fun _ hh => (List.mem_cons_of_mem _ (List.mem_append_right _ (List.mem_append_left _ hh)))) tyX12 tyX12_ok nmX12 hown hK hT hF hS (fx_50 hX) (by decide) cl_e60 rfl 37 (by decide) (hts (.fieldLink RX12 139 "TypingPoolModel" "thrown" "I") (List.mem_cons_of_mem _ (List.mem_append_left _ (List.mem_of_getElem? (i := 0) rfl)))) (fun _ h9 => h9) rfl (tyX12_ok 37 (by decide)) rfl rfl (Nat.le_of_ble_eq_true rfl) rfl dX12_post_2 (fun H locs hT hS => ?_)
  obtain ⟨y_1, hy_1, hT⟩ : ∃ z : Nat → Nat → Int32, z = up2 y (a 50) 37 (0 : Int32) ∧ tw (dC, dI) a k τ ln z g H := ⟨_, rfl, hT⟩
  have hG : ag τ [60, 61] y y_1 := by rw [hy_1]; exact hG.up (fx_50 hX) (by decide)
  have hW : IW (u 1) (u 2) (u 9) (y_1 (a 89)) := by rw [hy_1, up2_o (kd_ne (fx_89 hX) (fx_50 hX) (by decide))]; exact hW
  have hI := hI.put (f := 37) (x := (0 : Int32)) (by decide)
  rw [← hy_1] at hI
  refine lv_iload_n hx hb dX12_post_5 rfl (lv_at hl 1 rfl) ?_
  refine lv_iconst (v := 0) hx hb dX12_post_6 (by decide) ?_
  refine lv_sipush (v := 479) hx hb dX12_post_7 (by decide) ?_
  have hFc := tw_free hF hS hA
  have hp_2 : (0 : Int32).toInt = 0 := (zk (x := 0) 0 rfl)
  have hp_3 : (479 : Int32).toInt = 479 := (zk (x := 479) 479 rfl)
  refine va_calli (va_runS (As := [.int p0, .int 0, .int 479]) (rest := []) ⟨hx, hb, hml, hown, hts⟩ (m_in l dC dI ad av H.size a k τ ln y_1 g u p0 (0 : Int32) (479 : Int32)  ) (va_cwS 3 hts (gi_3 (List.mem_cons_of_mem _ (List.mem_append_left _ (List.mem_of_getElem? (i := 1) rfl))) (List.mem_cons_of_mem _ (List.mem_append_left _ (List.mem_of_getElem? (i := 2) rfl))) (List.mem_cons_of_mem _ (List.mem_append_left _ (List.mem_of_getElem? (i := 3) rfl))) (fun _ hh => (List.mem_cons_of_mem _ (List.mem_append_right _ (List.mem_append_right _ (List.mem_append_left _ hh))))) gd_m_in) rfl rfl rfl (by decide +kernel) ⟨Nat.le_of_ble_eq_true rfl, Nat.le_of_ble_eq_true rfl⟩) ⟨pw_blind, pw_use hT hK hFc hS hM⟩ rfl rfl hl.1 rfl (lv_room (Nat.le_of_ble_eq_true rfl)) dX12_post_10 ⟨Nat.le_of_ble_eq_true rfl, Nat.le_of_ble_eq_true rfl⟩) hS (fun q _ h => hFc q h) hFc (fun r0 r_4 t H locs ht hvm hw hB hz1 hk1 hS => ?_)
  refine W.widen (k := 0) (n := 0) (Nat.le_of_ble_eq_true rfl) (Nat.le_of_ble_eq_true rfl) ?_
  clear hvm hz1 hk1
  subst hw
  rcases hB with ⟨hre, hf_5, hf_6, hT⟩ | ⟨hre, hf_7, hT⟩
  · refine lq_top (v := 1) hre ?_
    rw [ht] at hT
    try simp only [hp_2, hp_3] at hf_5 hf_6
    clear hp_2 hp_3
    refine lv_if_eq (tgt := 24) hx hb dX12_post_13 (by decide) (fun c_8 => absurd c_8 (by decide)) (fun c_8 => ?_)
    refine lv_aload_n hx hb dX12_post_16 rfl (lv_at hl 0 rfl) ?_
    refine tw_get (D := (dC, dI)) (v := .int (y_1 (a 50) 1)) (C := RX12) (T := TX12) (N := 58) hx hb hts (fun _ hh => (List.mem_cons_of_mem _ (List.mem_append_right _ (List.mem_append_left _ hh)))) hown hK hT (fx_50 hX) (by decide) cl_e60 rfl 1 (by decide) (hts (.fieldLink RX12 152 "TypingPoolModel" "postMany" "I") (List.mem_cons_of_mem _ (List.mem_append_left _ (List.mem_of_getElem? (i := 4) rfl)))) (fun _ h9 => h9) rfl dX12_post_17 ?_
    have hc_9 := im_0 hI
    refine lv_iconst (v := 4) hx hb dX12_post_20 (by decide) ?_
    refine lv_icmp_ne (tgt := 26) hx hb dX12_post_21 (by decide) (fun c_10 => ?_) (fun c_10 => ?_)
    · have nc_10 := z_ne hc_9 (zk (x := 4) 4 rfl) c_10
      refine lv_aload_n hx hb dX12_post_26 rfl (lv_at hl 0 rfl) ?_
      refine tw_get (D := (dC, dI)) (v := .ref (a 51)) (C := RX12) (T := TX12) (N := 58) hx hb hts (fun _ hh => (List.mem_cons_of_mem _ (List.mem_append_right _ (List.mem_append_left _ hh)))) hown hK hT (fx_50 hX) (by decide) cl_e60 rfl 0 (by decide) (hts (.fieldLink RX12 9 "TypingPoolModel" "posts" "[I") (List.mem_cons_of_mem _ (List.mem_append_left _ (List.mem_of_getElem? (i := 5) rfl)))) (fun _ h9 => h9) rfl dX12_post_27 ?_
      refine lv_aload_n hx hb dX12_post_30 rfl (lv_at hl 0 rfl) ?_
      refine tw_get (D := (dC, dI)) (v := .int (y_1 (a 50) 1)) (C := RX12) (T := TX12) (N := 58) hx hb hts (fun _ hh => (List.mem_cons_of_mem _ (List.mem_append_right _ (List.mem_append_left _ hh)))) hown hK hT (fx_50 hX) (by decide) cl_e60 rfl 1 (by decide) (hts (.fieldLink RX12 152 "TypingPoolModel" "postMany" "I") (List.mem_cons_of_mem _ (List.mem_append_left _ (List.mem_of_getElem? (i := 4) rfl)))) (fun _ h9 => h9) rfl dX12_post_31 ?_
      have hc_11 := im_0 hI
      refine lv_iload_n hx hb dX12_post_34 rfl (lv_at hl 1 rfl) ?_
      have hbd_12 : 0 ≤ u 0 ∧ u 0 < 4 := by omega
      refine tw_iast hx hb hK hT hF hS 0 (fx_51 hX) (by decide) (fun _ => cl_e61) rfl (z_in hc_11 hbd_12.1 hbd_12.2) dX12_post_35 (fun H locs hT hS => ?_)
      obtain ⟨y_13, hy_13, hT⟩ : ∃ z : Nat → Nat → Int32, z = up2 y_1 (a 51) ((y_1 (a 50) 1).toNatClampNeg) p0 ∧ tw (dC, dI) a k τ ln z g H := ⟨_, rfl, hT⟩
      have hG : ag τ [60, 61] y y_13 := by rw [hy_13]; exact hG.up (fx_51 hX) (by decide)
      have hW : IW (u 1) (u 2) (u 9) (y_13 (a 89)) := by rw [hy_13, up2_o (kd_ne (fx_89 hX) (fx_51 hX) (by decide))]; exact hW
      have hI := hI.ag (S := [61]) (y' := y_13) (by rw [hy_13]; exact ag.one (fx_51 hX)) (by decide)
      clear hc_9 hc_11
      refine lv_aload_n hx hb dX12_post_36 rfl (lv_at hl 0 rfl) ?_
      refine lv_dup hx hb dX12_post_37 rfl ?_
      refine tw_get (D := (dC, dI)) (v := .int (y_13 (a 50) 1)) (C := RX12) (T := TX12) (N := 58) hx hb hts (fun _ hh => (List.mem_cons_of_mem _ (List.mem_append_right _ (List.mem_append_left _ hh)))) hown hK hT (fx_50 hX) (by decide) cl_e60 rfl 1 (by decide) (hts (.fieldLink RX12 152 "TypingPoolModel" "postMany" "I") (List.mem_cons_of_mem _ (List.mem_append_left _ (List.mem_of_getElem? (i := 4) rfl)))) (fun _ h9 => h9) rfl dX12_post_38 ?_
      have hc_14 := im_0 hI
      refine lv_iconst (v := 1) hx hb dX12_post_41 (by decide) ?_
      refine lv_iadd hx hb dX12_post_42 ?_
      refine lv_topi (fun x_15 ex_15 => ?_)
      have hx_15 := z_add ex_15 hc_14 (zk (x := 1) 1 rfl) (by omega) (by omega)
      refine tw_put (D := (dC, dI)) (x := x_15) (ty := .int) (C := RX12) (T := TX12) (N := 58) hx hb hts (fun _ hh => (List.mem_cons_of_mem _ (List.mem_append_right _ (List.mem_append_left _ hh)))) tyX12 tyX12_ok nmX12 hown hK hT hF hS (fx_50 hX) (by decide) cl_e60 rfl 1 (by decide) (hts (.fieldLink RX12 152 "TypingPoolModel" "postMany" "I") (List.mem_cons_of_mem _ (List.mem_append_left _ (List.mem_of_getElem? (i := 4) rfl)))) (fun _ h9 => h9) rfl (tyX12_ok 1 (by decide)) rfl rfl (Nat.le_of_ble_eq_true rfl) rfl dX12_post_43 (fun H locs hT hS => ?_)
      obtain ⟨y_16, hy_16, hT⟩ : ∃ z : Nat → Nat → Int32, z = up2 y_13 (a 50) 1 x_15 ∧ tw (dC, dI) a k τ ln z g H := ⟨_, rfl, hT⟩
      have hG : ag τ [60, 61] y y_16 := by rw [hy_16]; exact hG.up (fx_50 hX) (by decide)
      have hW : IW (u 1) (u 2) (u 9) (y_16 (a 89)) := by rw [hy_16, up2_o (kd_ne (fx_89 hX) (fx_50 hX) (by decide))]; exact hW
      have hp_17 : x_15.toInt = x_15.toInt := rfl
      have hI := hI.set0 hp_17 (by omega) (by omega)
      rw [← hy_16] at hI
      have hW : IW ((upc u 0 x_15.toInt) 1) ((upc u 0 x_15.toInt) 2) ((upc u 0 x_15.toInt) 9) (y_16 (a 89)) := iw_u hW (by simp [upc]) (by simp [upc]) (by simp [upc])
      clear hc_14
      refine lv_aload_n hx hb dX12_post_46 rfl (lv_at hl 0 rfl) ?_
      refine tw_get (D := (dC, dI)) (v := .int (y_16 (a 50) 1)) (C := RX12) (T := TX12) (N := 58) hx hb hts (fun _ hh => (List.mem_cons_of_mem _ (List.mem_append_right _ (List.mem_append_left _ hh)))) hown hK hT (fx_50 hX) (by decide) cl_e60 rfl 1 (by decide) (hts (.fieldLink RX12 152 "TypingPoolModel" "postMany" "I") (List.mem_cons_of_mem _ (List.mem_append_left _ (List.mem_of_getElem? (i := 4) rfl)))) (fun _ h9 => h9) rfl dX12_post_47 ?_
      have hc_18 : (y_16 (a 50) 1).toInt = x_15.toInt := by rw [im_0 hI]; simp [upc]
      have hrv : (y_16 (a 50) 1).toInt = x_15.toInt := hc_18
      exact W.iret (v := y_16 (a 50) 1) hx hb hr (fun t ht hW9 => ⟨⟨y_16 (a 50) 1, y_16 (a 50) 1, rfl, rfl, Or.inr (⟨(upc u 0 x_15.toInt), y_16, g, (by intro i hi; simp only [List.mem_cons, List.not_mem_nil, or_false, not_or] at hi; unfold upc; repeat rw [if_neg (by omega)]), hG, hGg, hI, by omega, by omega, (by rw [upc_i]; omega), tw_at ht hT⟩)⟩, hS.F ht⟩) hS.2.2 dX12_post_50
    · have nc_10 := z_eq hc_9 (zk (x := 4) 4 rfl) c_10
      refine lv_iconst (v := (-1)) hx hb dX12_post_24 (by decide) ?_
      have hrv : (-1 : Int32).toInt = (-1) := (zk (x := (-1)) (-1) rfl)
      exact W.iret (v := (-1)) hx hb hr (fun t ht hW9 => ⟨⟨(-1), (-1), rfl, rfl, Or.inl ⟨u, y_1, g, rfl, fun _ _ => rfl, hG, hGg, hI, by omega, by omega, tw_at ht hT⟩⟩, hS.F ht⟩) hS.2.2 dX12_post_25
  · refine lq_top (v := 0) hre ?_
    rw [ht] at hT
    try simp only [hp_2, hp_3] at hf_7
    clear hp_2 hp_3
    refine lv_if_eq (tgt := 24) hx hb dX12_post_13 (by decide) (fun c_19 => ?_) (fun c_19 => absurd c_19 (by decide))
    refine lv_iconst (v := (-1)) hx hb dX12_post_24 (by decide) ?_
    have hrv : (-1 : Int32).toInt = (-1) := (zk (x := (-1)) (-1) rfl)
    exact W.iret (v := (-1)) hx hb hr (fun t ht hW9 => ⟨⟨(-1), (-1), rfl, rfl, Or.inl ⟨u, y_1, g, rfl, fun _ _ => rfl, hG, hGg, hI, by omega, by omega, tw_at ht hT⟩⟩, hS.F ht⟩) hS.2.2 dX12_post_25
def wo_m_hand : List Cond := [.fieldLink RX12 139 "TypingPoolModel" "thrown" "I", .methodLink RX12 145 yX12_in, .static yX12_in, .initialized RX12, .constant RX12 155 (65535), .fieldLink RX12 142 "TypingPoolModel" "hands" "I", .fieldLink RX12 13 "TypingPoolModel" "speed" "[I", .fieldLink RX12 16 "TypingPoolModel" "styles" "[I", .fieldLink RX12 19 "TypingPoolModel" "leave" "[I", .methodLink RX12 156 yX12_put, .instanceMethod yX12_put, .selects RX12 yX12_put yX12_put]
def wm_m_hand : List Cond := .code yX12_hand cX12_hand 5 (some .int) :: (wo_m_hand ++ (wsX120 ++ (wm_m_in ++ (wm_m_put ++ ([] : List Cond)))))
theorem gd_m_hand : ∀ w ∈ wm_m_hand, goodWord w = true := gd_c rfl (gd_a (by decide) (gd_a gd_wsX120 (gd_a gd_m_in (gd_a gd_m_put gd_nil))))
set_option maxRecDepth 20000 in
theorem im_m_hand : ∀ w ∈ wm_m_hand, w ∈ lw_tbl := im_c (in_r [.code yX12_hand cX12_hand 5 (some .int)] [1426] (by decide +kernel)) (in_app (in_r wo_m_hand [1278, 1420, 1421, 86, 1427, 1246, 1243, 1244, 1245, 1428, 1430, 26] (by decide +kernel)) (in_app im_wsX120 (in_app im_m_in (in_app im_m_put im_nil))))
set_option maxHeartbeats 4000000 in
set_option maxRecDepth 100000 in
theorem m_hand (l : Launch) (dC : Nat → ClassId) (dI : Nat → Nat → Nat) (ad av : Nat → Nat) (sz : Nat) (a : Nat → Nat) (k : Nat → ClassId) (τ ln : Nat → Nat) (y : Nat → Nat → Int32) (g : Nat → Nat → Option Nat) (u : Nat → Int) (p0 : Int32) (p1 : Int32) (p2 : Int32) (p3 : Int32) (hI : IM a u τ y) (hW : IW (u 1) (u 2) (u 9) (y (a 89))) : Met l yX12_hand wm_m_hand ({ frames := 1, cells := 0, slots := 0, locals := 60 }) (pw_ ad av (dC, dI) sz [.ref (a 50), .int p0, .int p1, .int p2, .int p3] a k τ ln y g) (va_Qi (fun (r u : Int32) => u = r) (fun (r : Int32) (t : State) => (∃ (u' : Nat → Int) (y' : Nat → Nat → Int32) (g' : Nat → Nat → Option Nat), r = (-1) ∧ (∀ i, i ∉ ([1] : List Nat) → u' i = u i) ∧ ag τ [60, 63, 64, 65, 99] y y' ∧ agg τ g g' ∧ IM a u' τ y' ∧ IW (u' 1) (u' 2) (u' 9) (y' (a 89)) ∧ (¬ (10 ≤ p0.toInt ∧ p0.toInt ≤ 200 ∧ 0 ≤ p1.toInt ∧ p1.toInt ≤ 255 ∧ 0 ≤ p2.toInt ∧ p2.toInt ≤ 65535 ∧ 0 ≤ p3.toInt ∧ p3.toInt ≤ 3 ∧ u 1 < 8)) ∧ u' 1 = u 1 ∧ tw (dC, dI) a k τ ln y' g' t.heap) ∨ (∃ (u' : Nat → Int) (y' : Nat → Nat → Int32) (g' : Nat → Nat → Option Nat), (∀ i, i ∉ ([1] : List Nat) → u' i = u i) ∧ ag τ [60, 63, 64, 65, 99] y y' ∧ agg τ g g' ∧ IM a u' τ y' ∧ IW (u' 1) (u' 2) (u' 9) (y' (a 89)) ∧ ((10 ≤ p0.toInt ∧ p0.toInt ≤ 200 ∧ 0 ≤ p1.toInt ∧ p1.toInt ≤ 255 ∧ 0 ≤ p2.toInt ∧ p2.toInt ≤ 65535 ∧ 0 ≤ p3.toInt ∧ p3.toInt ≤ 3 ∧ u 1 < 8)) ∧ r.toInt = u 1 ∧ u' 1 = u 1 + 1 ∧ tw (dC, dI) a k τ ln y' g' t.heap)) (fr τ sz)) 0 0 (fr τ sz) := by
  refine Met.ofW (cc := cX12_hand) (maxL := 5) (ret := (some .int)) (by decide) rfl ?_
  intro p e s m args below meth c s₁ B hml hv
  obtain ⟨rfl, hsz, hT, hK, hM⟩ := hv
  have hx := B.exec
  have hb := B.bytes
  have hr := B.returns
  have hts := atoms_spec (ws := wm_m_hand) B.pre
  have hown : s.vm.findClass RX12 = some m.cls := findClass_of_methodNamed B.named
  have hlocks := B.notSynchronized
  subst hsz
  generalize hAe : fr τ s.heap.size = A at hM ⊢
  have hA : ∀ q : Nat, s.heap.size ≤ q → A q := fun q h => by rw [← hAe]; exact Or.inr h
  have hF : ∀ q, τ q ≠ 0 → A q := fun q h => by rw [← hAe]; exact Or.inl h
  have hS : va_S A s.heap s.heap [] := va_S.rf
  have hX := hI.1
  have hR := im_r hI
  have hG : ag τ [60, 63, 64, 65, 99] y y := ag.rf
  have hGg : agg τ g g := agg.rf
  have hl := lv_entry ([.ref (a 50), .int p0, .int p1, .int p2, .int p3]) (n := 5) (Nat.le_of_ble_eq_true rfl)
  rw [lg_entry_eq]
  generalize (lg_sl ([.ref (a 50), .int p0, .int p1, .int p2, .int p3]) ++ List.replicate (5 - (lg_sl ([.ref (a 50), .int p0, .int p1, .int p2, .int p3])).length) Slot.unset).toArray = ls at hl ⊢
  have hl : lv_has ls 5 [(0, .ref (a 50)), (1, .int p0), (2, .int p1), (3, .int p2), (4, .int p3)] := hl
  refine lv_aload_n hx hb dX12_hand_0 rfl (lv_at hl 0 rfl) ?_
  refine lv_iconst (v := 0) hx hb dX12_hand_1 (by decide) ?_
  refine tw_put (D := (dC, dI)) (x := 0) (ty := .int) (C := RX12) (T := TX12) (N := 58) hx hb hts (fun _ hh => (List.mem_cons_of_mem _ (List.mem_append_right _ (List.mem_append_left _ hh)))) tyX12 tyX12_ok nmX12 hown hK hT hF hS (fx_50 hX) (by decide) cl_e60 rfl 37 (by decide) (hts (.fieldLink RX12 139 "TypingPoolModel" "thrown" "I") (List.mem_cons_of_mem _ (List.mem_append_left _ (List.mem_of_getElem? (i := 0) rfl)))) (fun _ h9 => h9) rfl (tyX12_ok 37 (by decide)) rfl rfl (Nat.le_of_ble_eq_true rfl) rfl dX12_hand_2 (fun H locs hT hS => ?_)
  obtain ⟨y_1, hy_1, hT⟩ : ∃ z : Nat → Nat → Int32, z = up2 y (a 50) 37 (0 : Int32) ∧ tw (dC, dI) a k τ ln z g H := ⟨_, rfl, hT⟩
  have hG : ag τ [60, 63, 64, 65, 99] y y_1 := by rw [hy_1]; exact hG.up (fx_50 hX) (by decide)
  have hW : IW (u 1) (u 2) (u 9) (y_1 (a 89)) := by rw [hy_1, up2_o (kd_ne (fx_89 hX) (fx_50 hX) (by decide))]; exact hW
  have hI := hI.put (f := 37) (x := (0 : Int32)) (by decide)
  rw [← hy_1] at hI
  refine lv_iload_n hx hb dX12_hand_5 rfl (lv_at hl 1 rfl) ?_
  refine lv_bipush (v := 10) hx hb dX12_hand_6 (by decide) ?_
  refine lv_sipush (v := 200) hx hb dX12_hand_8 (by decide) ?_
  have hFc := tw_free hF hS hA
  have hp_2 : (10 : Int32).toInt = 10 := (zk (x := 10) 10 rfl)
  have hp_3 : (200 : Int32).toInt = 200 := (zk (x := 200) 200 rfl)
  refine va_calli (va_runS (As := [.int p0, .int 10, .int 200]) (rest := []) ⟨hx, hb, hml, hown, hts⟩ (m_in l dC dI ad av H.size a k τ ln y_1 g u p0 (10 : Int32) (200 : Int32)  ) (va_cwS 3 hts (gi_3 (List.mem_cons_of_mem _ (List.mem_append_left _ (List.mem_of_getElem? (i := 1) rfl))) (List.mem_cons_of_mem _ (List.mem_append_left _ (List.mem_of_getElem? (i := 2) rfl))) (List.mem_cons_of_mem _ (List.mem_append_left _ (List.mem_of_getElem? (i := 3) rfl))) (fun _ hh => (List.mem_cons_of_mem _ (List.mem_append_right _ (List.mem_append_right _ (List.mem_append_left _ hh))))) gd_m_in) rfl rfl rfl (by decide +kernel) ⟨Nat.le_of_ble_eq_true rfl, Nat.le_of_ble_eq_true rfl⟩) ⟨pw_blind, pw_use hT hK hFc hS hM⟩ rfl rfl hl.1 rfl (lv_room (Nat.le_of_ble_eq_true rfl)) dX12_hand_11 ⟨Nat.le_of_ble_eq_true rfl, Nat.le_of_ble_eq_true rfl⟩) hS (fun q _ h => hFc q h) hFc (fun r0 r_4 t H locs ht hvm hw hB hz1 hk1 hS => ?_)
  refine W.widen (k := 0) (n := 0) (Nat.le_of_ble_eq_true rfl) (Nat.le_of_ble_eq_true rfl) ?_
  clear hvm hz1 hk1
  subst hw
  rcases hB with ⟨hre, hf_5, hf_6, hT⟩ | ⟨hre, hf_7, hT⟩
  · refine lq_top (v := 1) hre ?_
    rw [ht] at hT
    try simp only [hp_2, hp_3] at hf_5 hf_6
    clear hp_2 hp_3
    refine lv_if_eq (tgt := 57) hx hb dX12_hand_14 (by decide) (fun c_8 => absurd c_8 (by decide)) (fun c_8 => ?_)
    refine lv_iload_n hx hb dX12_hand_17 rfl (lv_at hl 2 rfl) ?_
    refine lv_iconst (v := 0) hx hb dX12_hand_18 (by decide) ?_
    refine lv_sipush (v := 255) hx hb dX12_hand_19 (by decide) ?_
    have hFc := tw_free hF hS hA
    have hp_9 : (0 : Int32).toInt = 0 := (zk (x := 0) 0 rfl)
    have hp_10 : (255 : Int32).toInt = 255 := (zk (x := 255) 255 rfl)
    refine va_calli (va_runS (As := [.int p1, .int 0, .int 255]) (rest := []) ⟨hx, hb, hml, hown, hts⟩ (m_in l dC dI ad av H.size a k τ ln y_1 g u p1 (0 : Int32) (255 : Int32)  ) (va_cwS 3 hts (gi_3 (List.mem_cons_of_mem _ (List.mem_append_left _ (List.mem_of_getElem? (i := 1) rfl))) (List.mem_cons_of_mem _ (List.mem_append_left _ (List.mem_of_getElem? (i := 2) rfl))) (List.mem_cons_of_mem _ (List.mem_append_left _ (List.mem_of_getElem? (i := 3) rfl))) (fun _ hh => (List.mem_cons_of_mem _ (List.mem_append_right _ (List.mem_append_right _ (List.mem_append_left _ hh))))) gd_m_in) rfl rfl rfl (by decide +kernel) ⟨Nat.le_of_ble_eq_true rfl, Nat.le_of_ble_eq_true rfl⟩) ⟨pw_blind, pw_use hT hK hFc hS hM⟩ rfl rfl hl.1 rfl (lv_room (Nat.le_of_ble_eq_true rfl)) dX12_hand_22 ⟨Nat.le_of_ble_eq_true rfl, Nat.le_of_ble_eq_true rfl⟩) hS (fun q _ h => hFc q h) hFc (fun r0 r_11 t H locs ht hvm hw hB hz1 hk1 hS => ?_)
    refine W.widen (k := 0) (n := 0) (Nat.le_of_ble_eq_true rfl) (Nat.le_of_ble_eq_true rfl) ?_
    clear hvm hz1 hk1
    subst hw
    rcases hB with ⟨hre, hf_12, hf_13, hT⟩ | ⟨hre, hf_14, hT⟩
    · refine lq_top (v := 1) hre ?_
      rw [ht] at hT
      try simp only [hp_9, hp_10] at hf_12 hf_13
      clear hp_9 hp_10
      refine lv_if_eq (tgt := 57) hx hb dX12_hand_25 (by decide) (fun c_15 => absurd c_15 (by decide)) (fun c_15 => ?_)
      refine lv_iload_n hx hb dX12_hand_28 rfl (lv_at hl 3 rfl) ?_
      refine lv_iconst (v := 0) hx hb dX12_hand_29 (by decide) ?_
      refine lv_ldc hx hb hown (hts (.constant RX12 155 (65535)) (List.mem_cons_of_mem _ (List.mem_append_left _ (List.mem_of_getElem? (i := 4) rfl)))) dX12_hand_30 ?_
      have hFc := tw_free hF hS hA
      have hp_16 : (0 : Int32).toInt = 0 := (zk (x := 0) 0 rfl)
      have hp_17 : (65535 : Int32).toInt = 65535 := (zk (x := 65535) 65535 rfl)
      refine va_calli (va_runS (As := [.int p2, .int 0, .int 65535]) (rest := []) ⟨hx, hb, hml, hown, hts⟩ (m_in l dC dI ad av H.size a k τ ln y_1 g u p2 (0 : Int32) (65535 : Int32)  ) (va_cwS 3 hts (gi_3 (List.mem_cons_of_mem _ (List.mem_append_left _ (List.mem_of_getElem? (i := 1) rfl))) (List.mem_cons_of_mem _ (List.mem_append_left _ (List.mem_of_getElem? (i := 2) rfl))) (List.mem_cons_of_mem _ (List.mem_append_left _ (List.mem_of_getElem? (i := 3) rfl))) (fun _ hh => (List.mem_cons_of_mem _ (List.mem_append_right _ (List.mem_append_right _ (List.mem_append_left _ hh))))) gd_m_in) rfl rfl rfl (by decide +kernel) ⟨Nat.le_of_ble_eq_true rfl, Nat.le_of_ble_eq_true rfl⟩) ⟨pw_blind, pw_use hT hK hFc hS hM⟩ rfl rfl hl.1 rfl (lv_room (Nat.le_of_ble_eq_true rfl)) dX12_hand_32 ⟨Nat.le_of_ble_eq_true rfl, Nat.le_of_ble_eq_true rfl⟩) hS (fun q _ h => hFc q h) hFc (fun r0 r_18 t H locs ht hvm hw hB hz1 hk1 hS => ?_)
      refine W.widen (k := 0) (n := 0) (Nat.le_of_ble_eq_true rfl) (Nat.le_of_ble_eq_true rfl) ?_
      clear hvm hz1 hk1
      subst hw
      rcases hB with ⟨hre, hf_19, hf_20, hT⟩ | ⟨hre, hf_21, hT⟩
      · refine lq_top (v := 1) hre ?_
        rw [ht] at hT
        try simp only [hp_16, hp_17] at hf_19 hf_20
        clear hp_16 hp_17
        refine lv_if_eq (tgt := 57) hx hb dX12_hand_35 (by decide) (fun c_22 => absurd c_22 (by decide)) (fun c_22 => ?_)
        refine lv_iload hx hb dX12_hand_38 (lv_at hl 4 rfl) ?_
        refine lv_iconst (v := 0) hx hb dX12_hand_40 (by decide) ?_
        refine lv_iconst (v := 3) hx hb dX12_hand_41 (by decide) ?_
        have hFc := tw_free hF hS hA
        have hp_23 : (0 : Int32).toInt = 0 := (zk (x := 0) 0 rfl)
        have hp_24 : (3 : Int32).toInt = 3 := (zk (x := 3) 3 rfl)
        refine va_calli (va_runS (As := [.int p3, .int 0, .int 3]) (rest := []) ⟨hx, hb, hml, hown, hts⟩ (m_in l dC dI ad av H.size a k τ ln y_1 g u p3 (0 : Int32) (3 : Int32)  ) (va_cwS 3 hts (gi_3 (List.mem_cons_of_mem _ (List.mem_append_left _ (List.mem_of_getElem? (i := 1) rfl))) (List.mem_cons_of_mem _ (List.mem_append_left _ (List.mem_of_getElem? (i := 2) rfl))) (List.mem_cons_of_mem _ (List.mem_append_left _ (List.mem_of_getElem? (i := 3) rfl))) (fun _ hh => (List.mem_cons_of_mem _ (List.mem_append_right _ (List.mem_append_right _ (List.mem_append_left _ hh))))) gd_m_in) rfl rfl rfl (by decide +kernel) ⟨Nat.le_of_ble_eq_true rfl, Nat.le_of_ble_eq_true rfl⟩) ⟨pw_blind, pw_use hT hK hFc hS hM⟩ rfl rfl hl.1 rfl (lv_room (Nat.le_of_ble_eq_true rfl)) dX12_hand_42 ⟨Nat.le_of_ble_eq_true rfl, Nat.le_of_ble_eq_true rfl⟩) hS (fun q _ h => hFc q h) hFc (fun r0 r_25 t H locs ht hvm hw hB hz1 hk1 hS => ?_)
        refine W.widen (k := 0) (n := 0) (Nat.le_of_ble_eq_true rfl) (Nat.le_of_ble_eq_true rfl) ?_
        clear hvm hz1 hk1
        subst hw
        rcases hB with ⟨hre, hf_26, hf_27, hT⟩ | ⟨hre, hf_28, hT⟩
        · refine lq_top (v := 1) hre ?_
          rw [ht] at hT
          try simp only [hp_23, hp_24] at hf_26 hf_27
          clear hp_23 hp_24
          refine lv_if_eq (tgt := 57) hx hb dX12_hand_45 (by decide) (fun c_29 => absurd c_29 (by decide)) (fun c_29 => ?_)
          refine lv_aload_n hx hb dX12_hand_48 rfl (lv_at hl 0 rfl) ?_
          refine tw_get (D := (dC, dI)) (v := .int (y_1 (a 50) 5)) (C := RX12) (T := TX12) (N := 58) hx hb hts (fun _ hh => (List.mem_cons_of_mem _ (List.mem_append_right _ (List.mem_append_left _ hh)))) hown hK hT (fx_50 hX) (by decide) cl_e60 rfl 5 (by decide) (hts (.fieldLink RX12 142 "TypingPoolModel" "hands" "I") (List.mem_cons_of_mem _ (List.mem_append_left _ (List.mem_of_getElem? (i := 5) rfl)))) (fun _ h9 => h9) rfl dX12_hand_49 ?_
          have hc_30 := im_1 hI
          refine lv_bipush (v := 8) hx hb dX12_hand_52 (by decide) ?_
          refine lv_icmp_ne (tgt := 59) hx hb dX12_hand_54 (by decide) (fun c_31 => ?_) (fun c_31 => ?_)
          · have nc_31 := z_ne hc_30 (zk (x := 8) 8 rfl) c_31
            refine lv_aload_n hx hb dX12_hand_59 rfl (lv_at hl 0 rfl) ?_
            refine tw_get (D := (dC, dI)) (v := .ref (a 53)) (C := RX12) (T := TX12) (N := 58) hx hb hts (fun _ hh => (List.mem_cons_of_mem _ (List.mem_append_right _ (List.mem_append_left _ hh)))) hown hK hT (fx_50 hX) (by decide) cl_e60 rfl 2 (by decide) (hts (.fieldLink RX12 13 "TypingPoolModel" "speed" "[I") (List.mem_cons_of_mem _ (List.mem_append_left _ (List.mem_of_getElem? (i := 6) rfl)))) (fun _ h9 => h9) rfl dX12_hand_60 ?_
            refine lv_aload_n hx hb dX12_hand_63 rfl (lv_at hl 0 rfl) ?_
            refine tw_get (D := (dC, dI)) (v := .int (y_1 (a 50) 5)) (C := RX12) (T := TX12) (N := 58) hx hb hts (fun _ hh => (List.mem_cons_of_mem _ (List.mem_append_right _ (List.mem_append_left _ hh)))) hown hK hT (fx_50 hX) (by decide) cl_e60 rfl 5 (by decide) (hts (.fieldLink RX12 142 "TypingPoolModel" "hands" "I") (List.mem_cons_of_mem _ (List.mem_append_left _ (List.mem_of_getElem? (i := 5) rfl)))) (fun _ h9 => h9) rfl dX12_hand_64 ?_
            have hc_32 := im_1 hI
            refine lv_iload_n hx hb dX12_hand_67 rfl (lv_at hl 1 rfl) ?_
            have hbd_33 : 0 ≤ u 1 ∧ u 1 < 8 := by omega
            refine tw_iast hx hb hK hT hF hS 0 (fx_53 hX) (by decide) (fun _ => cl_e63) rfl (z_in hc_32 hbd_33.1 hbd_33.2) dX12_hand_68 (fun H locs hT hS => ?_)
            obtain ⟨y_34, hy_34, hT⟩ : ∃ z : Nat → Nat → Int32, z = up2 y_1 (a 53) ((y_1 (a 50) 5).toNatClampNeg) p0 ∧ tw (dC, dI) a k τ ln z g H := ⟨_, rfl, hT⟩
            have hG : ag τ [60, 63, 64, 65, 99] y y_34 := by rw [hy_34]; exact hG.up (fx_53 hX) (by decide)
            have hW : IW (u 1) (u 2) (u 9) (y_34 (a 89)) := by rw [hy_34, up2_o (kd_ne (fx_89 hX) (fx_53 hX) (by decide))]; exact hW
            have hIold := hI
            have hI := hI.o53 (x := p0) (i := (y_1 (a 50) 5)) hc_32
            rw [← hy_34] at hI
            have hvb_35 : vb (u 1 + 1) 10 200 (y_34 (a 53)) := by rw [hy_34, up2_q]; exact vb_up (im_a53 hIold) hc_32 hR.2.1.1 rfl (by omega) (by omega)
            clear hc_30 hc_32
            refine lv_aload_n hx hb dX12_hand_69 rfl (lv_at hl 0 rfl) ?_
            refine tw_get (D := (dC, dI)) (v := .ref (a 54)) (C := RX12) (T := TX12) (N := 58) hx hb hts (fun _ hh => (List.mem_cons_of_mem _ (List.mem_append_right _ (List.mem_append_left _ hh)))) hown hK hT (fx_50 hX) (by decide) cl_e60 rfl 3 (by decide) (hts (.fieldLink RX12 16 "TypingPoolModel" "styles" "[I") (List.mem_cons_of_mem _ (List.mem_append_left _ (List.mem_of_getElem? (i := 7) rfl)))) (fun _ h9 => h9) rfl dX12_hand_70 ?_
            refine lv_aload_n hx hb dX12_hand_73 rfl (lv_at hl 0 rfl) ?_
            refine tw_get (D := (dC, dI)) (v := .int (y_34 (a 50) 5)) (C := RX12) (T := TX12) (N := 58) hx hb hts (fun _ hh => (List.mem_cons_of_mem _ (List.mem_append_right _ (List.mem_append_left _ hh)))) hown hK hT (fx_50 hX) (by decide) cl_e60 rfl 5 (by decide) (hts (.fieldLink RX12 142 "TypingPoolModel" "hands" "I") (List.mem_cons_of_mem _ (List.mem_append_left _ (List.mem_of_getElem? (i := 5) rfl)))) (fun _ h9 => h9) rfl dX12_hand_74 ?_
            have hc_36 := im_1 hI
            refine lv_iload_n hx hb dX12_hand_77 rfl (lv_at hl 2 rfl) ?_
            refine tw_iast hx hb hK hT hF hS 0 (fx_54 hX) (by decide) (fun _ => cl_e64) rfl (z_in hc_36 hbd_33.1 hbd_33.2) dX12_hand_78 (fun H locs hT hS => ?_)
            obtain ⟨y_37, hy_37, hT⟩ : ∃ z : Nat → Nat → Int32, z = up2 y_34 (a 54) ((y_34 (a 50) 5).toNatClampNeg) p1 ∧ tw (dC, dI) a k τ ln z g H := ⟨_, rfl, hT⟩
            have hG : ag τ [60, 63, 64, 65, 99] y y_37 := by rw [hy_37]; exact hG.up (fx_54 hX) (by decide)
            have ha_38 : y_37 (a 53) = y_34 (a 53) := (show y_37 (a 53) = y_34 (a 53) from by rw [hy_37]; exact up2_o (kd_ne (fx_53 hX) (fx_54 hX) (by decide))).trans rfl
            have hW : IW (u 1) (u 2) (u 9) (y_37 (a 89)) := by rw [hy_37, up2_o (kd_ne (fx_89 hX) (fx_54 hX) (by decide))]; exact hW
            have hI := hI.ag (S := [64]) (y' := y_37) (by rw [hy_37]; exact ag.one (fx_54 hX)) (by decide)
            clear hc_36
            refine lv_aload_n hx hb dX12_hand_79 rfl (lv_at hl 0 rfl) ?_
            refine tw_get (D := (dC, dI)) (v := .ref (a 55)) (C := RX12) (T := TX12) (N := 58) hx hb hts (fun _ hh => (List.mem_cons_of_mem _ (List.mem_append_right _ (List.mem_append_left _ hh)))) hown hK hT (fx_50 hX) (by decide) cl_e60 rfl 4 (by decide) (hts (.fieldLink RX12 19 "TypingPoolModel" "leave" "[I") (List.mem_cons_of_mem _ (List.mem_append_left _ (List.mem_of_getElem? (i := 8) rfl)))) (fun _ h9 => h9) rfl dX12_hand_80 ?_
            refine lv_aload_n hx hb dX12_hand_83 rfl (lv_at hl 0 rfl) ?_
            refine tw_get (D := (dC, dI)) (v := .int (y_37 (a 50) 5)) (C := RX12) (T := TX12) (N := 58) hx hb hts (fun _ hh => (List.mem_cons_of_mem _ (List.mem_append_right _ (List.mem_append_left _ hh)))) hown hK hT (fx_50 hX) (by decide) cl_e60 rfl 5 (by decide) (hts (.fieldLink RX12 142 "TypingPoolModel" "hands" "I") (List.mem_cons_of_mem _ (List.mem_append_left _ (List.mem_of_getElem? (i := 5) rfl)))) (fun _ h9 => h9) rfl dX12_hand_84 ?_
            have hc_39 := im_1 hI
            refine lv_iload hx hb dX12_hand_87 (lv_at hl 4 rfl) ?_
            refine tw_iast hx hb hK hT hF hS 0 (fx_55 hX) (by decide) (fun _ => cl_e65) rfl (z_in hc_39 hbd_33.1 hbd_33.2) dX12_hand_89 (fun H locs hT hS => ?_)
            obtain ⟨y_40, hy_40, hT⟩ : ∃ z : Nat → Nat → Int32, z = up2 y_37 (a 55) ((y_37 (a 50) 5).toNatClampNeg) p3 ∧ tw (dC, dI) a k τ ln z g H := ⟨_, rfl, hT⟩
            have hG : ag τ [60, 63, 64, 65, 99] y y_40 := by rw [hy_40]; exact hG.up (fx_55 hX) (by decide)
            have ha_41 : y_40 (a 53) = y_34 (a 53) := (show y_40 (a 53) = y_37 (a 53) from by rw [hy_40]; exact up2_o (kd_ne (fx_53 hX) (fx_55 hX) (by decide))).trans ha_38
            have hW : IW (u 1) (u 2) (u 9) (y_40 (a 89)) := by rw [hy_40, up2_o (kd_ne (fx_89 hX) (fx_55 hX) (by decide))]; exact hW
            have hI := hI.ag (S := [65]) (y' := y_40) (by rw [hy_40]; exact ag.one (fx_55 hX)) (by decide)
            clear hc_39
            refine lv_aload_n hx hb dX12_hand_90 rfl (lv_at hl 0 rfl) ?_
            refine lv_aload_n hx hb dX12_hand_91 rfl (lv_at hl 0 rfl) ?_
            refine tw_get (D := (dC, dI)) (v := .int (y_40 (a 50) 5)) (C := RX12) (T := TX12) (N := 58) hx hb hts (fun _ hh => (List.mem_cons_of_mem _ (List.mem_append_right _ (List.mem_append_left _ hh)))) hown hK hT (fx_50 hX) (by decide) cl_e60 rfl 5 (by decide) (hts (.fieldLink RX12 142 "TypingPoolModel" "hands" "I") (List.mem_cons_of_mem _ (List.mem_append_left _ (List.mem_of_getElem? (i := 5) rfl)))) (fun _ h9 => h9) rfl dX12_hand_92 ?_
            have hc_42 := im_1 hI
            refine lv_iconst (v := 0) hx hb dX12_hand_95 (by decide) ?_
            refine lv_iconst (v := (-1)) hx hb dX12_hand_96 (by decide) ?_
            have hFc := tw_free hF hS hA
            have hp_43 : (y_40 (a 50) 5).toInt = u 1 := hc_42
            have hp_44 : (0 : Int32).toInt = 0 := (zk (x := 0) 0 rfl)
            have hp_45 : (-1 : Int32).toInt = (-1) := (zk (x := (-1)) (-1) rfl)
            refine va_callv (va_runV (As := [.int (y_40 (a 50) 5), .int 0, .int (-1)]) (rest := []) ⟨hx, hb, hml, hown, hts⟩ (m_put l dC dI ad av H.size a k τ ln y_40 g u (y_40 (a 50) 5) (0 : Int32) (-1 : Int32) hI (zl0 hc_42 hbd_33.1) (zlt hc_42 hbd_33.2) (by decide) (by decide) hW) (cwV 3 hts (gi_4 (List.mem_cons_of_mem _ (List.mem_append_left _ (List.mem_of_getElem? (i := 9) rfl))) (List.mem_cons_of_mem _ (List.mem_append_left _ (List.mem_of_getElem? (i := 10) rfl))) (List.mem_cons_of_mem _ (List.mem_append_left _ (List.mem_of_getElem? (i := 11) rfl))) (List.mem_cons_of_mem _ (List.mem_append_left _ (List.mem_of_getElem? (i := 3) rfl))) (fun _ hh => (List.mem_cons_of_mem _ (List.mem_append_right _ (List.mem_append_right _ (List.mem_append_right _ (List.mem_append_left _ hh)))))) gd_m_put) rfl rfl rfl (by decide +kernel) ⟨Nat.le_of_ble_eq_true rfl, Nat.le_of_ble_eq_true rfl⟩) ⟨pw_blind, tw_recv hK hT (fx_50 hX) (by decide) cl_e60 rfl, pw_use hT hK hFc hS hM⟩ rfl rfl hl.1 rfl (lv_room (Nat.le_of_ble_eq_true rfl)) dX12_hand_97 ⟨Nat.le_of_ble_eq_true rfl, Nat.le_of_ble_eq_true rfl⟩) hS (fun q _ h => hFc q h) hFc (fun u0 t H locs ht hvm hw hB hz1 hk1 hS => ?_)
            refine W.widen (k := 0) (n := 0) (Nat.le_of_ble_eq_true rfl) (Nat.le_of_ble_eq_true rfl) ?_
            clear hvm hz1 hk1
            obtain ⟨i_47, hii_47, hT⟩ := hB
            rw [ht] at hT
            clear hp_43 hp_44 hp_45
            obtain ⟨y_48, hy_48, hT⟩ : ∃ z : Nat → Nat → Int32, z = up2 y_40 (a 89) i_47.toNatClampNeg (-1 : Int32) ∧ tw (dC, dI) a k τ ln z g H := ⟨_, rfl, hT⟩
            have hG : ag τ [60, 63, 64, 65, 99] y y_48 := by rw [hy_48]; exact hG.up (fx_89 hX) (by decide)
            have hI := hI.ag (S := [99]) (y' := y_48) (by rw [hy_48]; exact ag.one (fx_89 hX)) (by decide)
            have hb_49 : i_47.toInt = 1 + 6 * (u 1) + 0 := ec_h hii_47 hc_42 rfl
            clear hii_47
            have hxv_50 : (-1 : Int32).toInt = (-1) := (zk (x := (-1)) (-1) rfl)
            have := rd_i (m := 1 + 6 * (u 1) + 0) hy_48 hb_49 (by omega) hxv_50
            have hW : IW (u 1) (u 2) (u 9) (y_48 (a 89)) := by rw [hy_48, up2_q]; exact iw_n hW hb_49 (by omega) (by omega) (by omega)
            have ha_51 : y_48 (a 53) = y_34 (a 53) := (show y_48 (a 53) = y_40 (a 53) from by rw [hy_48]; exact up2_o (kd_ne (fx_53 hX) (fx_89 hX) (by decide))).trans ha_41
            clear hc_42
            refine lv_aload_n hx hb dX12_hand_100 rfl (lv_at hl 0 rfl) ?_
            refine lv_aload_n hx hb dX12_hand_101 rfl (lv_at hl 0 rfl) ?_
            refine tw_get (D := (dC, dI)) (v := .int (y_48 (a 50) 5)) (C := RX12) (T := TX12) (N := 58) hx hb hts (fun _ hh => (List.mem_cons_of_mem _ (List.mem_append_right _ (List.mem_append_left _ hh)))) hown hK hT (fx_50 hX) (by decide) cl_e60 rfl 5 (by decide) (hts (.fieldLink RX12 142 "TypingPoolModel" "hands" "I") (List.mem_cons_of_mem _ (List.mem_append_left _ (List.mem_of_getElem? (i := 5) rfl)))) (fun _ h9 => h9) rfl dX12_hand_102 ?_
            have hc_52 := im_1 hI
            refine lv_iconst (v := 1) hx hb dX12_hand_105 (by decide) ?_
            refine lv_iconst (v := (-1)) hx hb dX12_hand_106 (by decide) ?_
            have hFc := tw_free hF hS hA
            have hp_53 : (y_48 (a 50) 5).toInt = u 1 := hc_52
            have hp_54 : (1 : Int32).toInt = 1 := (zk (x := 1) 1 rfl)
            have hp_55 : (-1 : Int32).toInt = (-1) := (zk (x := (-1)) (-1) rfl)
            refine va_callv (va_runV (As := [.int (y_48 (a 50) 5), .int 1, .int (-1)]) (rest := []) ⟨hx, hb, hml, hown, hts⟩ (m_put l dC dI ad av H.size a k τ ln y_48 g u (y_48 (a 50) 5) (1 : Int32) (-1 : Int32) hI (zl0 hc_52 hbd_33.1) (zlt hc_52 hbd_33.2) (by decide) (by decide) hW) (cwV 3 hts (gi_4 (List.mem_cons_of_mem _ (List.mem_append_left _ (List.mem_of_getElem? (i := 9) rfl))) (List.mem_cons_of_mem _ (List.mem_append_left _ (List.mem_of_getElem? (i := 10) rfl))) (List.mem_cons_of_mem _ (List.mem_append_left _ (List.mem_of_getElem? (i := 11) rfl))) (List.mem_cons_of_mem _ (List.mem_append_left _ (List.mem_of_getElem? (i := 3) rfl))) (fun _ hh => (List.mem_cons_of_mem _ (List.mem_append_right _ (List.mem_append_right _ (List.mem_append_right _ (List.mem_append_left _ hh)))))) gd_m_put) rfl rfl rfl (by decide +kernel) ⟨Nat.le_of_ble_eq_true rfl, Nat.le_of_ble_eq_true rfl⟩) ⟨pw_blind, tw_recv hK hT (fx_50 hX) (by decide) cl_e60 rfl, pw_use hT hK hFc hS hM⟩ rfl rfl hl.1 rfl (lv_room (Nat.le_of_ble_eq_true rfl)) dX12_hand_107 ⟨Nat.le_of_ble_eq_true rfl, Nat.le_of_ble_eq_true rfl⟩) hS (fun q _ h => hFc q h) hFc (fun u0 t H locs ht hvm hw hB hz1 hk1 hS => ?_)
            refine W.widen (k := 0) (n := 0) (Nat.le_of_ble_eq_true rfl) (Nat.le_of_ble_eq_true rfl) ?_
            clear hvm hz1 hk1
            obtain ⟨i_57, hii_57, hT⟩ := hB
            rw [ht] at hT
            clear hp_53 hp_54 hp_55
            obtain ⟨y_58, hy_58, hT⟩ : ∃ z : Nat → Nat → Int32, z = up2 y_48 (a 89) i_57.toNatClampNeg (-1 : Int32) ∧ tw (dC, dI) a k τ ln z g H := ⟨_, rfl, hT⟩
            have hG : ag τ [60, 63, 64, 65, 99] y y_58 := by rw [hy_58]; exact hG.up (fx_89 hX) (by decide)
            have hI := hI.ag (S := [99]) (y' := y_58) (by rw [hy_58]; exact ag.one (fx_89 hX)) (by decide)
            have hb_59 : i_57.toInt = 1 + 6 * (u 1) + 1 := ec_h hii_57 hc_52 rfl
            clear hii_57
            have hxv_60 : (-1 : Int32).toInt = (-1) := (zk (x := (-1)) (-1) rfl)
            have := rd_hh (v := 0) hy_58 hb_59 hR.2.1.1 (by decide)
            have hW : IW (u 1) (u 2) (u 9) (y_58 (a 89)) := by rw [hy_58, up2_q]; exact iw_n hW hb_59 (by omega) (by omega) (by omega)
            have ha_61 : y_58 (a 53) = y_34 (a 53) := (show y_58 (a 53) = y_48 (a 53) from by rw [hy_58]; exact up2_o (kd_ne (fx_53 hX) (fx_89 hX) (by decide))).trans ha_51
            clear hc_52
            refine lv_aload_n hx hb dX12_hand_110 rfl (lv_at hl 0 rfl) ?_
            refine lv_aload_n hx hb dX12_hand_111 rfl (lv_at hl 0 rfl) ?_
            refine tw_get (D := (dC, dI)) (v := .int (y_58 (a 50) 5)) (C := RX12) (T := TX12) (N := 58) hx hb hts (fun _ hh => (List.mem_cons_of_mem _ (List.mem_append_right _ (List.mem_append_left _ hh)))) hown hK hT (fx_50 hX) (by decide) cl_e60 rfl 5 (by decide) (hts (.fieldLink RX12 142 "TypingPoolModel" "hands" "I") (List.mem_cons_of_mem _ (List.mem_append_left _ (List.mem_of_getElem? (i := 5) rfl)))) (fun _ h9 => h9) rfl dX12_hand_112 ?_
            have hc_62 := im_1 hI
            refine lv_iconst (v := 2) hx hb dX12_hand_115 (by decide) ?_
            refine lv_iload_n hx hb dX12_hand_116 rfl (lv_at hl 3 rfl) ?_
            have hFc := tw_free hF hS hA
            have hp_63 : (y_58 (a 50) 5).toInt = u 1 := hc_62
            have hp_64 : (2 : Int32).toInt = 2 := (zk (x := 2) 2 rfl)
            refine va_callv (va_runV (As := [.int (y_58 (a 50) 5), .int 2, .int p2]) (rest := []) ⟨hx, hb, hml, hown, hts⟩ (m_put l dC dI ad av H.size a k τ ln y_58 g u (y_58 (a 50) 5) (2 : Int32) p2 hI (zl0 hc_62 hbd_33.1) (zlt hc_62 hbd_33.2) (by decide) (by decide) hW) (cwV 3 hts (gi_4 (List.mem_cons_of_mem _ (List.mem_append_left _ (List.mem_of_getElem? (i := 9) rfl))) (List.mem_cons_of_mem _ (List.mem_append_left _ (List.mem_of_getElem? (i := 10) rfl))) (List.mem_cons_of_mem _ (List.mem_append_left _ (List.mem_of_getElem? (i := 11) rfl))) (List.mem_cons_of_mem _ (List.mem_append_left _ (List.mem_of_getElem? (i := 3) rfl))) (fun _ hh => (List.mem_cons_of_mem _ (List.mem_append_right _ (List.mem_append_right _ (List.mem_append_right _ (List.mem_append_left _ hh)))))) gd_m_put) rfl rfl rfl (by decide +kernel) ⟨Nat.le_of_ble_eq_true rfl, Nat.le_of_ble_eq_true rfl⟩) ⟨pw_blind, tw_recv hK hT (fx_50 hX) (by decide) cl_e60 rfl, pw_use hT hK hFc hS hM⟩ rfl rfl hl.1 rfl (lv_room (Nat.le_of_ble_eq_true rfl)) dX12_hand_117 ⟨Nat.le_of_ble_eq_true rfl, Nat.le_of_ble_eq_true rfl⟩) hS (fun q _ h => hFc q h) hFc (fun u0 t H locs ht hvm hw hB hz1 hk1 hS => ?_)
            refine W.widen (k := 0) (n := 0) (Nat.le_of_ble_eq_true rfl) (Nat.le_of_ble_eq_true rfl) ?_
            clear hvm hz1 hk1
            obtain ⟨i_66, hii_66, hT⟩ := hB
            rw [ht] at hT
            clear hp_63 hp_64
            obtain ⟨y_67, hy_67, hT⟩ : ∃ z : Nat → Nat → Int32, z = up2 y_58 (a 89) i_66.toNatClampNeg p2 ∧ tw (dC, dI) a k τ ln z g H := ⟨_, rfl, hT⟩
            have hG : ag τ [60, 63, 64, 65, 99] y y_67 := by rw [hy_67]; exact hG.up (fx_89 hX) (by decide)
            have hI := hI.ag (S := [99]) (y' := y_67) (by rw [hy_67]; exact ag.one (fx_89 hX)) (by decide)
            have hb_68 : i_66.toInt = 1 + 6 * (u 1) + 2 := ec_h hii_66 hc_62 rfl
            clear hii_66
            have hxv_69 : p2.toInt = p2.toInt := rfl
            have := rd_hh (v := 0) hy_67 hb_68 hR.2.1.1 (by decide)
            have hW : IW (u 1) (u 2) (u 9) (y_67 (a 89)) := by rw [hy_67, up2_q]; exact iw_n hW hb_68 (by omega) (by omega) (by omega)
            have ha_70 : y_67 (a 53) = y_34 (a 53) := (show y_67 (a 53) = y_58 (a 53) from by rw [hy_67]; exact up2_o (kd_ne (fx_53 hX) (fx_89 hX) (by decide))).trans ha_61
            clear hc_62
            refine lv_aload_n hx hb dX12_hand_120 rfl (lv_at hl 0 rfl) ?_
            refine lv_dup hx hb dX12_hand_121 rfl ?_
            refine tw_get (D := (dC, dI)) (v := .int (y_67 (a 50) 5)) (C := RX12) (T := TX12) (N := 58) hx hb hts (fun _ hh => (List.mem_cons_of_mem _ (List.mem_append_right _ (List.mem_append_left _ hh)))) hown hK hT (fx_50 hX) (by decide) cl_e60 rfl 5 (by decide) (hts (.fieldLink RX12 142 "TypingPoolModel" "hands" "I") (List.mem_cons_of_mem _ (List.mem_append_left _ (List.mem_of_getElem? (i := 5) rfl)))) (fun _ h9 => h9) rfl dX12_hand_122 ?_
            have hc_71 := im_1 hI
            refine lv_iconst (v := 1) hx hb dX12_hand_125 (by decide) ?_
            refine lv_iadd hx hb dX12_hand_126 ?_
            refine lv_topi (fun x_72 ex_72 => ?_)
            have hx_72 := z_add ex_72 hc_71 (zk (x := 1) 1 rfl) (by omega) (by omega)
            refine tw_put (D := (dC, dI)) (x := x_72) (ty := .int) (C := RX12) (T := TX12) (N := 58) hx hb hts (fun _ hh => (List.mem_cons_of_mem _ (List.mem_append_right _ (List.mem_append_left _ hh)))) tyX12 tyX12_ok nmX12 hown hK hT hF hS (fx_50 hX) (by decide) cl_e60 rfl 5 (by decide) (hts (.fieldLink RX12 142 "TypingPoolModel" "hands" "I") (List.mem_cons_of_mem _ (List.mem_append_left _ (List.mem_of_getElem? (i := 5) rfl)))) (fun _ h9 => h9) rfl (tyX12_ok 5 (by decide)) rfl rfl (Nat.le_of_ble_eq_true rfl) rfl dX12_hand_127 (fun H locs hT hS => ?_)
            obtain ⟨y_73, hy_73, hT⟩ : ∃ z : Nat → Nat → Int32, z = up2 y_67 (a 50) 5 x_72 ∧ tw (dC, dI) a k τ ln z g H := ⟨_, rfl, hT⟩
            have hG : ag τ [60, 63, 64, 65, 99] y y_73 := by rw [hy_73]; exact hG.up (fx_50 hX) (by decide)
            have ha_74 : y_73 (a 53) = y_34 (a 53) := (show y_73 (a 53) = y_67 (a 53) from by rw [hy_73]; exact up2_o (kd_ne (fx_53 hX) (fx_50 hX) (by decide))).trans ha_70
            have hW : IW (u 1) (u 2) (u 9) (y_73 (a 89)) := by rw [hy_73, up2_o (kd_ne (fx_89 hX) (fx_50 hX) (by decide))]; exact hW
            have hp_75 : x_72.toInt = x_72.toInt := rfl
            have hI := hI.set1 hp_75 (by omega) (by omega) (by rw [show x_72.toInt = u 1 + 1 from by omega]; exact ((ha_70).symm ▸ hvb_35))
            rw [← hy_73] at hI
            have hW : IW ((upc u 1 x_72.toInt) 1) ((upc u 1 x_72.toInt) 2) ((upc u 1 x_72.toInt) 9) (y_73 (a 89)) := iw_u (iw_nh hW (by omega) (by rw [show y_73 (a 89) = y_67 (a 89) from by rw [hy_73]; exact up2_o (kd_ne (fx_89 hX) (fx_50 hX) (by decide)), show (1 + 6 * u 1 : Int) = 1 + 6 * (u 1) + 0 by omega]; omega)) (by rw [upc_i]; omega) (by simp [upc]) (by simp [upc])
            clear hc_71
            refine lv_aload_n hx hb dX12_hand_130 rfl (lv_at hl 0 rfl) ?_
            refine tw_get (D := (dC, dI)) (v := .int (y_73 (a 50) 5)) (C := RX12) (T := TX12) (N := 58) hx hb hts (fun _ hh => (List.mem_cons_of_mem _ (List.mem_append_right _ (List.mem_append_left _ hh)))) hown hK hT (fx_50 hX) (by decide) cl_e60 rfl 5 (by decide) (hts (.fieldLink RX12 142 "TypingPoolModel" "hands" "I") (List.mem_cons_of_mem _ (List.mem_append_left _ (List.mem_of_getElem? (i := 5) rfl)))) (fun _ h9 => h9) rfl dX12_hand_131 ?_
            have hc_76 : (y_73 (a 50) 5).toInt = x_72.toInt := by rw [im_1 hI]; simp [upc]
            refine lv_iconst (v := 1) hx hb dX12_hand_134 (by decide) ?_
            refine lv_isub hx hb dX12_hand_135 ?_
            refine lv_topi (fun x_77 ex_77 => ?_)
            have hx_77 := z_sub ex_77 hc_76 (zk (x := 1) 1 rfl) (by omega) (by omega)
            have hrv : x_77.toInt = x_77.toInt := rfl
            exact W.iret (v := x_77) hx hb hr (fun t ht hW9 => ⟨⟨x_77, x_77, rfl, rfl, Or.inr (⟨(upc u 1 x_72.toInt), y_73, g, (by intro i hi; simp only [List.mem_cons, List.not_mem_nil, or_false, not_or] at hi; unfold upc; repeat rw [if_neg (by omega)]), hG, hGg, hI, hW, by omega, by omega, (by rw [upc_i]; omega), tw_at ht hT⟩)⟩, hS.F ht⟩) hS.2.2 dX12_hand_136
          · have nc_31 := z_eq hc_30 (zk (x := 8) 8 rfl) c_31
            refine lv_iconst (v := (-1)) hx hb dX12_hand_57 (by decide) ?_
            have hrv : (-1 : Int32).toInt = (-1) := (zk (x := (-1)) (-1) rfl)
            exact W.iret (v := (-1)) hx hb hr (fun t ht hW9 => ⟨⟨(-1), (-1), rfl, rfl, Or.inl ⟨u, y_1, g, rfl, fun _ _ => rfl, hG, hGg, hI, hW, by omega, by omega, tw_at ht hT⟩⟩, hS.F ht⟩) hS.2.2 dX12_hand_58
        · refine lq_top (v := 0) hre ?_
          rw [ht] at hT
          try simp only [hp_23, hp_24] at hf_28
          clear hp_23 hp_24
          refine lv_if_eq (tgt := 57) hx hb dX12_hand_45 (by decide) (fun c_78 => ?_) (fun c_78 => absurd c_78 (by decide))
          refine lv_iconst (v := (-1)) hx hb dX12_hand_57 (by decide) ?_
          have hrv : (-1 : Int32).toInt = (-1) := (zk (x := (-1)) (-1) rfl)
          exact W.iret (v := (-1)) hx hb hr (fun t ht hW9 => ⟨⟨(-1), (-1), rfl, rfl, Or.inl ⟨u, y_1, g, rfl, fun _ _ => rfl, hG, hGg, hI, hW, by omega, by omega, tw_at ht hT⟩⟩, hS.F ht⟩) hS.2.2 dX12_hand_58
      · refine lq_top (v := 0) hre ?_
        rw [ht] at hT
        try simp only [hp_16, hp_17] at hf_21
        clear hp_16 hp_17
        refine lv_if_eq (tgt := 57) hx hb dX12_hand_35 (by decide) (fun c_79 => ?_) (fun c_79 => absurd c_79 (by decide))
        refine lv_iconst (v := (-1)) hx hb dX12_hand_57 (by decide) ?_
        have hrv : (-1 : Int32).toInt = (-1) := (zk (x := (-1)) (-1) rfl)
        exact W.iret (v := (-1)) hx hb hr (fun t ht hW9 => ⟨⟨(-1), (-1), rfl, rfl, Or.inl ⟨u, y_1, g, rfl, fun _ _ => rfl, hG, hGg, hI, hW, by omega, by omega, tw_at ht hT⟩⟩, hS.F ht⟩) hS.2.2 dX12_hand_58
    · refine lq_top (v := 0) hre ?_
      rw [ht] at hT
      try simp only [hp_9, hp_10] at hf_14
      clear hp_9 hp_10
      refine lv_if_eq (tgt := 57) hx hb dX12_hand_25 (by decide) (fun c_80 => ?_) (fun c_80 => absurd c_80 (by decide))
      refine lv_iconst (v := (-1)) hx hb dX12_hand_57 (by decide) ?_
      have hrv : (-1 : Int32).toInt = (-1) := (zk (x := (-1)) (-1) rfl)
      exact W.iret (v := (-1)) hx hb hr (fun t ht hW9 => ⟨⟨(-1), (-1), rfl, rfl, Or.inl ⟨u, y_1, g, rfl, fun _ _ => rfl, hG, hGg, hI, hW, by omega, by omega, tw_at ht hT⟩⟩, hS.F ht⟩) hS.2.2 dX12_hand_58
  · refine lq_top (v := 0) hre ?_
    rw [ht] at hT
    try simp only [hp_2, hp_3] at hf_7
    clear hp_2 hp_3
    refine lv_if_eq (tgt := 57) hx hb dX12_hand_14 (by decide) (fun c_81 => ?_) (fun c_81 => absurd c_81 (by decide))
    refine lv_iconst (v := (-1)) hx hb dX12_hand_57 (by decide) ?_
    have hrv : (-1 : Int32).toInt = (-1) := (zk (x := (-1)) (-1) rfl)
    exact W.iret (v := (-1)) hx hb hr (fun t ht hW9 => ⟨⟨(-1), (-1), rfl, rfl, Or.inl ⟨u, y_1, g, rfl, fun _ _ => rfl, hG, hGg, hI, hW, by omega, by omega, tw_at ht hT⟩⟩, hS.F ht⟩) hS.2.2 dX12_hand_58
def wo_m_away : List Cond := [.fieldLink RX12 139 "TypingPoolModel" "thrown" "I", .methodLink RX12 160 yX12_isHand, .instanceMethod yX12_isHand, .selects RX12 yX12_isHand yX12_isHand, .initialized RX12, .methodLink RX12 164 yX12_now, .instanceMethod yX12_now, .selects RX12 yX12_now yX12_now, .fieldLink RX12 167 "TypingPoolModel" "aways" "I", .fieldLink RX12 22 "TypingPoolModel" "awayHand" "[I", .fieldLink RX12 25 "TypingPoolModel" "awayFrom" "[I", .fieldLink RX12 28 "TypingPoolModel" "awayTo" "[I"]
def wm_m_away : List Cond := .code yX12_away cX12_away 4 (some .int) :: (wo_m_away ++ (wsX120 ++ (wm_m_isHand ++ (wm_m_now ++ ([] : List Cond)))))
theorem gd_m_away : ∀ w ∈ wm_m_away, goodWord w = true := gd_c rfl (gd_a (by decide) (gd_a gd_wsX120 (gd_a gd_m_isHand (gd_a gd_m_now gd_nil))))
set_option maxRecDepth 20000 in
theorem im_m_away : ∀ w ∈ wm_m_away, w ∈ lw_tbl := im_c (in_r [.code yX12_away cX12_away 4 (some .int)] [1435] (by decide +kernel)) (in_app (in_r wo_m_away [1278, 1436, 1438, 27, 86, 1440, 1442, 28, 1250, 1247, 1248, 1249] (by decide +kernel)) (in_app im_wsX120 (in_app im_m_isHand (in_app im_m_now im_nil))))
set_option maxHeartbeats 4000000 in
set_option maxRecDepth 100000 in
theorem m_away (l : Launch) (dC : Nat → ClassId) (dI : Nat → Nat → Nat) (ad av : Nat → Nat) (sz : Nat) (a : Nat → Nat) (k : Nat → ClassId) (τ ln : Nat → Nat) (y : Nat → Nat → Int32) (g : Nat → Nat → Option Nat) (u : Nat → Int) (p0 : Int32) (p1 : Int32) (p2 : Int32) (hI : IM a u τ y) (h30 : u 3 ≤ 30) (hW : IW (u 1) (u 2) (u 9) (y (a 89))) : Met l yX12_away wm_m_away ({ frames := 2, cells := 0, slots := 0, locals := 120 }) (pw_ ad av (dC, dI) sz [.ref (a 50), .int p0, .int p1, .int p2] a k τ ln y g) (va_Qi (fun (r u : Int32) => u = r) (fun (r : Int32) (t : State) => (∃ (u' : Nat → Int) (y' : Nat → Nat → Int32) (g' : Nat → Nat → Option Nat), r = (-1) ∧ (∀ i, i ∉ ([3] : List Nat) → u' i = u i) ∧ ag τ [60, 67, 68, 69] y y' ∧ agg τ g g' ∧ IM a u' τ y' ∧ (¬ (0 ≤ p0.toInt ∧ p0.toInt < u 1 ∧ u 9 ≤ p1.toInt ∧ p1.toInt < p2.toInt ∧ p2.toInt ≤ 4800 ∧ u 3 < 30)) ∧ u' 3 = u 3 ∧ tw (dC, dI) a k τ ln y' g' t.heap) ∨ (∃ (u' : Nat → Int) (y' : Nat → Nat → Int32) (g' : Nat → Nat → Option Nat), (∀ i, i ∉ ([3] : List Nat) → u' i = u i) ∧ ag τ [60, 67, 68, 69] y y' ∧ agg τ g g' ∧ IM a u' τ y' ∧ ((0 ≤ p0.toInt ∧ p0.toInt < u 1 ∧ u 9 ≤ p1.toInt ∧ p1.toInt < p2.toInt ∧ p2.toInt ≤ 4800 ∧ u 3 < 30)) ∧ r.toInt = u 3 + 1 ∧ u' 3 = u 3 + 1 ∧ tw (dC, dI) a k τ ln y' g' t.heap)) (fr τ sz)) 0 0 (fr τ sz) := by
  refine Met.ofW (cc := cX12_away) (maxL := 4) (ret := (some .int)) (by decide) rfl ?_
  intro p e s m args below meth c s₁ B hml hv
  obtain ⟨rfl, hsz, hT, hK, hM⟩ := hv
  have hx := B.exec
  have hb := B.bytes
  have hr := B.returns
  have hts := atoms_spec (ws := wm_m_away) B.pre
  have hown : s.vm.findClass RX12 = some m.cls := findClass_of_methodNamed B.named
  have hlocks := B.notSynchronized
  subst hsz
  generalize hAe : fr τ s.heap.size = A at hM ⊢
  have hA : ∀ q : Nat, s.heap.size ≤ q → A q := fun q h => by rw [← hAe]; exact Or.inr h
  have hF : ∀ q, τ q ≠ 0 → A q := fun q h => by rw [← hAe]; exact Or.inl h
  have hS : va_S A s.heap s.heap [] := va_S.rf
  have hX := hI.1
  have hR := im_r hI
  have hG : ag τ [60, 67, 68, 69] y y := ag.rf
  have hGg : agg τ g g := agg.rf
  have hl := lv_entry ([.ref (a 50), .int p0, .int p1, .int p2]) (n := 4) (Nat.le_of_ble_eq_true rfl)
  rw [lg_entry_eq]
  generalize (lg_sl ([.ref (a 50), .int p0, .int p1, .int p2]) ++ List.replicate (4 - (lg_sl ([.ref (a 50), .int p0, .int p1, .int p2])).length) Slot.unset).toArray = ls at hl ⊢
  have hl : lv_has ls 4 [(0, .ref (a 50)), (1, .int p0), (2, .int p1), (3, .int p2)] := hl
  refine lv_aload_n hx hb dX12_away_0 rfl (lv_at hl 0 rfl) ?_
  refine lv_iconst (v := 0) hx hb dX12_away_1 (by decide) ?_
  refine tw_put (D := (dC, dI)) (x := 0) (ty := .int) (C := RX12) (T := TX12) (N := 58) hx hb hts (fun _ hh => (List.mem_cons_of_mem _ (List.mem_append_right _ (List.mem_append_left _ hh)))) tyX12 tyX12_ok nmX12 hown hK hT hF hS (fx_50 hX) (by decide) cl_e60 rfl 37 (by decide) (hts (.fieldLink RX12 139 "TypingPoolModel" "thrown" "I") (List.mem_cons_of_mem _ (List.mem_append_left _ (List.mem_of_getElem? (i := 0) rfl)))) (fun _ h9 => h9) rfl (tyX12_ok 37 (by decide)) rfl rfl (Nat.le_of_ble_eq_true rfl) rfl dX12_away_2 (fun H locs hT hS => ?_)
  obtain ⟨y_1, hy_1, hT⟩ : ∃ z : Nat → Nat → Int32, z = up2 y (a 50) 37 (0 : Int32) ∧ tw (dC, dI) a k τ ln z g H := ⟨_, rfl, hT⟩
  have hG : ag τ [60, 67, 68, 69] y y_1 := by rw [hy_1]; exact hG.up (fx_50 hX) (by decide)
  have hW : IW (u 1) (u 2) (u 9) (y_1 (a 89)) := by rw [hy_1, up2_o (kd_ne (fx_89 hX) (fx_50 hX) (by decide))]; exact hW
  have hI := hI.put (f := 37) (x := (0 : Int32)) (by decide)
  rw [← hy_1] at hI
  refine lv_aload_n hx hb dX12_away_5 rfl (lv_at hl 0 rfl) ?_
  refine lv_iload_n hx hb dX12_away_6 rfl (lv_at hl 1 rfl) ?_
  have hFc := tw_free hF hS hA
  refine va_calli (va_runV (As := [.int p0]) (rest := []) ⟨hx, hb, hml, hown, hts⟩ (m_isHand l dC dI ad av H.size a k τ ln y_1 g u p0 hI hW) (cwV 1 hts (gi_4 (List.mem_cons_of_mem _ (List.mem_append_left _ (List.mem_of_getElem? (i := 1) rfl))) (List.mem_cons_of_mem _ (List.mem_append_left _ (List.mem_of_getElem? (i := 2) rfl))) (List.mem_cons_of_mem _ (List.mem_append_left _ (List.mem_of_getElem? (i := 3) rfl))) (List.mem_cons_of_mem _ (List.mem_append_left _ (List.mem_of_getElem? (i := 4) rfl))) (fun _ hh => (List.mem_cons_of_mem _ (List.mem_append_right _ (List.mem_append_right _ (List.mem_append_left _ hh))))) gd_m_isHand) rfl rfl rfl (by decide +kernel) ⟨Nat.le_of_ble_eq_true rfl, Nat.le_of_ble_eq_true rfl⟩) ⟨pw_blind, tw_recv hK hT (fx_50 hX) (by decide) cl_e60 rfl, pw_use hT hK hFc hS hM⟩ rfl rfl hl.1 rfl (lv_room (Nat.le_of_ble_eq_true rfl)) dX12_away_7 ⟨Nat.le_of_ble_eq_true rfl, Nat.le_of_ble_eq_true rfl⟩) hS (fun q _ h => hFc q h) hFc (fun r0 r_2 t H locs ht hvm hw hB hz1 hk1 hS => ?_)
  refine W.widen (k := 0) (n := 0) (Nat.le_of_ble_eq_true rfl) (Nat.le_of_ble_eq_true rfl) ?_
  clear hvm hz1 hk1
  subst hw
  rcases hB with ⟨hre, hf_3, hf_4, hT⟩ | ⟨hre, hf_5, hT⟩
  · refine lq_top (v := 1) hre ?_
    rw [ht] at hT
    refine lv_if_eq (tgt := 42) hx hb dX12_away_10 (by decide) (fun c_6 => absurd c_6 (by decide)) (fun c_6 => ?_)
    refine lv_iload_n hx hb dX12_away_13 rfl (lv_at hl 2 rfl) ?_
    refine lv_aload_n hx hb dX12_away_14 rfl (lv_at hl 0 rfl) ?_
    have hFc := tw_free hF hS hA
    refine va_calli (va_runV (As := []) (rest := [.int p1]) ⟨hx, hb, hml, hown, hts⟩ (m_now l dC dI ad av H.size a k τ ln y_1 g u  hI hW) (cwV 0 hts (gi_4 (List.mem_cons_of_mem _ (List.mem_append_left _ (List.mem_of_getElem? (i := 5) rfl))) (List.mem_cons_of_mem _ (List.mem_append_left _ (List.mem_of_getElem? (i := 6) rfl))) (List.mem_cons_of_mem _ (List.mem_append_left _ (List.mem_of_getElem? (i := 7) rfl))) (List.mem_cons_of_mem _ (List.mem_append_left _ (List.mem_of_getElem? (i := 4) rfl))) (fun _ hh => (List.mem_cons_of_mem _ (List.mem_append_right _ (List.mem_append_right _ (List.mem_append_right _ (List.mem_append_left _ hh)))))) gd_m_now) rfl rfl rfl (by decide +kernel) ⟨Nat.le_of_ble_eq_true rfl, Nat.le_of_ble_eq_true rfl⟩) ⟨pw_blind, tw_recv hK hT (fx_50 hX) (by decide) cl_e60 rfl, pw_use hT hK hFc hS hM⟩ rfl rfl hl.1 rfl (lv_room (Nat.le_of_ble_eq_true rfl)) dX12_away_15 ⟨Nat.le_of_ble_eq_true rfl, Nat.le_of_ble_eq_true rfl⟩) hS (fun q _ h => hFc q h) hFc (fun r0 r_7 t H locs ht hvm hw hB hz1 hk1 hS => ?_)
    refine W.widen (k := 0) (n := 0) (Nat.le_of_ble_eq_true rfl) (Nat.le_of_ble_eq_true rfl) ?_
    clear hvm hz1 hk1
    subst hw
    obtain ⟨hf_8, hT⟩ := hB
    rw [ht] at hT
    refine lv_icmp_lt (tgt := 42) hx hb dX12_away_18 (by decide) (fun c_9 => ?_) (fun c_9 => ?_)
    · have nc_9 := z_lt rfl rfl c_9
      refine lv_iconst (v := (-1)) hx hb dX12_away_42 (by decide) ?_
      have hrv : (-1 : Int32).toInt = (-1) := (zk (x := (-1)) (-1) rfl)
      exact W.iret (v := (-1)) hx hb hr (fun t ht hW9 => ⟨⟨(-1), (-1), rfl, rfl, Or.inl ⟨u, y_1, g, rfl, fun _ _ => rfl, hG, hGg, hI, by omega, by omega, tw_at ht hT⟩⟩, hS.F ht⟩) hS.2.2 dX12_away_43
    · have nc_9 := z_nlt rfl rfl c_9
      refine lv_iload_n hx hb dX12_away_21 rfl (lv_at hl 3 rfl) ?_
      refine lv_iload_n hx hb dX12_away_22 rfl (lv_at hl 2 rfl) ?_
      refine lv_icmp_le (tgt := 42) hx hb dX12_away_23 (by decide) (fun c_10 => ?_) (fun c_10 => ?_)
      · have nc_10 := z_le rfl rfl c_10
        refine lv_iconst (v := (-1)) hx hb dX12_away_42 (by decide) ?_
        have hrv : (-1 : Int32).toInt = (-1) := (zk (x := (-1)) (-1) rfl)
        exact W.iret (v := (-1)) hx hb hr (fun t ht hW9 => ⟨⟨(-1), (-1), rfl, rfl, Or.inl ⟨u, y_1, g, rfl, fun _ _ => rfl, hG, hGg, hI, by omega, by omega, tw_at ht hT⟩⟩, hS.F ht⟩) hS.2.2 dX12_away_43
      · have nc_10 := z_nle rfl rfl c_10
        refine lv_iload_n hx hb dX12_away_26 rfl (lv_at hl 3 rfl) ?_
        refine lv_sipush (v := 4800) hx hb dX12_away_27 (by decide) ?_
        refine lv_icmp_gt (tgt := 42) hx hb dX12_away_30 (by decide) (fun c_11 => ?_) (fun c_11 => ?_)
        · have nc_11 := z_lt (zk (x := 4800) 4800 rfl) rfl c_11
          refine lv_iconst (v := (-1)) hx hb dX12_away_42 (by decide) ?_
          have hrv : (-1 : Int32).toInt = (-1) := (zk (x := (-1)) (-1) rfl)
          exact W.iret (v := (-1)) hx hb hr (fun t ht hW9 => ⟨⟨(-1), (-1), rfl, rfl, Or.inl ⟨u, y_1, g, rfl, fun _ _ => rfl, hG, hGg, hI, by omega, by omega, tw_at ht hT⟩⟩, hS.F ht⟩) hS.2.2 dX12_away_43
        · have nc_11 := z_nlt (zk (x := 4800) 4800 rfl) rfl c_11
          refine lv_aload_n hx hb dX12_away_33 rfl (lv_at hl 0 rfl) ?_
          refine tw_get (D := (dC, dI)) (v := .int (y_1 (a 50) 9)) (C := RX12) (T := TX12) (N := 58) hx hb hts (fun _ hh => (List.mem_cons_of_mem _ (List.mem_append_right _ (List.mem_append_left _ hh)))) hown hK hT (fx_50 hX) (by decide) cl_e60 rfl 9 (by decide) (hts (.fieldLink RX12 167 "TypingPoolModel" "aways" "I") (List.mem_cons_of_mem _ (List.mem_append_left _ (List.mem_of_getElem? (i := 8) rfl)))) (fun _ h9 => h9) rfl dX12_away_34 ?_
          have hc_12 := im_3 hI
          refine lv_bipush (v := 30) hx hb dX12_away_37 (by decide) ?_
          refine lv_icmp_ne (tgt := 44) hx hb dX12_away_39 (by decide) (fun c_13 => ?_) (fun c_13 => ?_)
          · have nc_13 := z_ne hc_12 (zk (x := 30) 30 rfl) c_13
            refine lv_aload_n hx hb dX12_away_44 rfl (lv_at hl 0 rfl) ?_
            refine tw_get (D := (dC, dI)) (v := .ref (a 57)) (C := RX12) (T := TX12) (N := 58) hx hb hts (fun _ hh => (List.mem_cons_of_mem _ (List.mem_append_right _ (List.mem_append_left _ hh)))) hown hK hT (fx_50 hX) (by decide) cl_e60 rfl 6 (by decide) (hts (.fieldLink RX12 22 "TypingPoolModel" "awayHand" "[I") (List.mem_cons_of_mem _ (List.mem_append_left _ (List.mem_of_getElem? (i := 9) rfl)))) (fun _ h9 => h9) rfl dX12_away_45 ?_
            refine lv_aload_n hx hb dX12_away_48 rfl (lv_at hl 0 rfl) ?_
            refine tw_get (D := (dC, dI)) (v := .int (y_1 (a 50) 9)) (C := RX12) (T := TX12) (N := 58) hx hb hts (fun _ hh => (List.mem_cons_of_mem _ (List.mem_append_right _ (List.mem_append_left _ hh)))) hown hK hT (fx_50 hX) (by decide) cl_e60 rfl 9 (by decide) (hts (.fieldLink RX12 167 "TypingPoolModel" "aways" "I") (List.mem_cons_of_mem _ (List.mem_append_left _ (List.mem_of_getElem? (i := 8) rfl)))) (fun _ h9 => h9) rfl dX12_away_49 ?_
            have hc_14 := im_3 hI
            refine lv_iload_n hx hb dX12_away_52 rfl (lv_at hl 1 rfl) ?_
            have hbd_15 : 0 ≤ u 3 ∧ u 3 < 31 := by omega
            refine tw_iast hx hb hK hT hF hS 0 (fx_57 hX) (by decide) (fun _ => cl_e67) rfl (z_in hc_14 hbd_15.1 hbd_15.2) dX12_away_53 (fun H locs hT hS => ?_)
            obtain ⟨y_16, hy_16, hT⟩ : ∃ z : Nat → Nat → Int32, z = up2 y_1 (a 57) ((y_1 (a 50) 9).toNatClampNeg) p0 ∧ tw (dC, dI) a k τ ln z g H := ⟨_, rfl, hT⟩
            have hG : ag τ [60, 67, 68, 69] y y_16 := by rw [hy_16]; exact hG.up (fx_57 hX) (by decide)
            have hW : IW (u 1) (u 2) (u 9) (y_16 (a 89)) := by rw [hy_16, up2_o (kd_ne (fx_89 hX) (fx_57 hX) (by decide))]; exact hW
            have hI := hI.ag (S := [67]) (y' := y_16) (by rw [hy_16]; exact ag.one (fx_57 hX)) (by decide)
            clear hc_12 hc_14
            refine lv_aload_n hx hb dX12_away_54 rfl (lv_at hl 0 rfl) ?_
            refine tw_get (D := (dC, dI)) (v := .ref (a 58)) (C := RX12) (T := TX12) (N := 58) hx hb hts (fun _ hh => (List.mem_cons_of_mem _ (List.mem_append_right _ (List.mem_append_left _ hh)))) hown hK hT (fx_50 hX) (by decide) cl_e60 rfl 7 (by decide) (hts (.fieldLink RX12 25 "TypingPoolModel" "awayFrom" "[I") (List.mem_cons_of_mem _ (List.mem_append_left _ (List.mem_of_getElem? (i := 10) rfl)))) (fun _ h9 => h9) rfl dX12_away_55 ?_
            refine lv_aload_n hx hb dX12_away_58 rfl (lv_at hl 0 rfl) ?_
            refine tw_get (D := (dC, dI)) (v := .int (y_16 (a 50) 9)) (C := RX12) (T := TX12) (N := 58) hx hb hts (fun _ hh => (List.mem_cons_of_mem _ (List.mem_append_right _ (List.mem_append_left _ hh)))) hown hK hT (fx_50 hX) (by decide) cl_e60 rfl 9 (by decide) (hts (.fieldLink RX12 167 "TypingPoolModel" "aways" "I") (List.mem_cons_of_mem _ (List.mem_append_left _ (List.mem_of_getElem? (i := 8) rfl)))) (fun _ h9 => h9) rfl dX12_away_59 ?_
            have hc_17 := im_3 hI
            refine lv_iload_n hx hb dX12_away_62 rfl (lv_at hl 2 rfl) ?_
            refine tw_iast hx hb hK hT hF hS 0 (fx_58 hX) (by decide) (fun _ => cl_e68) rfl (z_in hc_17 hbd_15.1 hbd_15.2) dX12_away_63 (fun H locs hT hS => ?_)
            obtain ⟨y_18, hy_18, hT⟩ : ∃ z : Nat → Nat → Int32, z = up2 y_16 (a 58) ((y_16 (a 50) 9).toNatClampNeg) p1 ∧ tw (dC, dI) a k τ ln z g H := ⟨_, rfl, hT⟩
            have hG : ag τ [60, 67, 68, 69] y y_18 := by rw [hy_18]; exact hG.up (fx_58 hX) (by decide)
            have hW : IW (u 1) (u 2) (u 9) (y_18 (a 89)) := by rw [hy_18, up2_o (kd_ne (fx_89 hX) (fx_58 hX) (by decide))]; exact hW
            have hI := hI.ag (S := [68]) (y' := y_18) (by rw [hy_18]; exact ag.one (fx_58 hX)) (by decide)
            clear hc_17
            refine lv_aload_n hx hb dX12_away_64 rfl (lv_at hl 0 rfl) ?_
            refine tw_get (D := (dC, dI)) (v := .ref (a 59)) (C := RX12) (T := TX12) (N := 58) hx hb hts (fun _ hh => (List.mem_cons_of_mem _ (List.mem_append_right _ (List.mem_append_left _ hh)))) hown hK hT (fx_50 hX) (by decide) cl_e60 rfl 8 (by decide) (hts (.fieldLink RX12 28 "TypingPoolModel" "awayTo" "[I") (List.mem_cons_of_mem _ (List.mem_append_left _ (List.mem_of_getElem? (i := 11) rfl)))) (fun _ h9 => h9) rfl dX12_away_65 ?_
            refine lv_aload_n hx hb dX12_away_68 rfl (lv_at hl 0 rfl) ?_
            refine tw_get (D := (dC, dI)) (v := .int (y_18 (a 50) 9)) (C := RX12) (T := TX12) (N := 58) hx hb hts (fun _ hh => (List.mem_cons_of_mem _ (List.mem_append_right _ (List.mem_append_left _ hh)))) hown hK hT (fx_50 hX) (by decide) cl_e60 rfl 9 (by decide) (hts (.fieldLink RX12 167 "TypingPoolModel" "aways" "I") (List.mem_cons_of_mem _ (List.mem_append_left _ (List.mem_of_getElem? (i := 8) rfl)))) (fun _ h9 => h9) rfl dX12_away_69 ?_
            have hc_19 := im_3 hI
            refine lv_iload_n hx hb dX12_away_72 rfl (lv_at hl 3 rfl) ?_
            refine tw_iast hx hb hK hT hF hS 0 (fx_59 hX) (by decide) (fun _ => cl_e69) rfl (z_in hc_19 hbd_15.1 hbd_15.2) dX12_away_73 (fun H locs hT hS => ?_)
            obtain ⟨y_20, hy_20, hT⟩ : ∃ z : Nat → Nat → Int32, z = up2 y_18 (a 59) ((y_18 (a 50) 9).toNatClampNeg) p2 ∧ tw (dC, dI) a k τ ln z g H := ⟨_, rfl, hT⟩
            have hG : ag τ [60, 67, 68, 69] y y_20 := by rw [hy_20]; exact hG.up (fx_59 hX) (by decide)
            have hW : IW (u 1) (u 2) (u 9) (y_20 (a 89)) := by rw [hy_20, up2_o (kd_ne (fx_89 hX) (fx_59 hX) (by decide))]; exact hW
            have hI := hI.ag (S := [69]) (y' := y_20) (by rw [hy_20]; exact ag.one (fx_59 hX)) (by decide)
            clear hc_19
            refine lv_aload_n hx hb dX12_away_74 rfl (lv_at hl 0 rfl) ?_
            refine lv_dup hx hb dX12_away_75 rfl ?_
            refine tw_get (D := (dC, dI)) (v := .int (y_20 (a 50) 9)) (C := RX12) (T := TX12) (N := 58) hx hb hts (fun _ hh => (List.mem_cons_of_mem _ (List.mem_append_right _ (List.mem_append_left _ hh)))) hown hK hT (fx_50 hX) (by decide) cl_e60 rfl 9 (by decide) (hts (.fieldLink RX12 167 "TypingPoolModel" "aways" "I") (List.mem_cons_of_mem _ (List.mem_append_left _ (List.mem_of_getElem? (i := 8) rfl)))) (fun _ h9 => h9) rfl dX12_away_76 ?_
            have hc_21 := im_3 hI
            refine lv_iconst (v := 1) hx hb dX12_away_79 (by decide) ?_
            refine lv_iadd hx hb dX12_away_80 ?_
            refine lv_topi (fun x_22 ex_22 => ?_)
            have hx_22 := z_add ex_22 hc_21 (zk (x := 1) 1 rfl) (by omega) (by omega)
            refine tw_put (D := (dC, dI)) (x := x_22) (ty := .int) (C := RX12) (T := TX12) (N := 58) hx hb hts (fun _ hh => (List.mem_cons_of_mem _ (List.mem_append_right _ (List.mem_append_left _ hh)))) tyX12 tyX12_ok nmX12 hown hK hT hF hS (fx_50 hX) (by decide) cl_e60 rfl 9 (by decide) (hts (.fieldLink RX12 167 "TypingPoolModel" "aways" "I") (List.mem_cons_of_mem _ (List.mem_append_left _ (List.mem_of_getElem? (i := 8) rfl)))) (fun _ h9 => h9) rfl (tyX12_ok 9 (by decide)) rfl rfl (Nat.le_of_ble_eq_true rfl) rfl dX12_away_81 (fun H locs hT hS => ?_)
            obtain ⟨y_23, hy_23, hT⟩ : ∃ z : Nat → Nat → Int32, z = up2 y_20 (a 50) 9 x_22 ∧ tw (dC, dI) a k τ ln z g H := ⟨_, rfl, hT⟩
            have hG : ag τ [60, 67, 68, 69] y y_23 := by rw [hy_23]; exact hG.up (fx_50 hX) (by decide)
            have hW : IW (u 1) (u 2) (u 9) (y_23 (a 89)) := by rw [hy_23, up2_o (kd_ne (fx_89 hX) (fx_50 hX) (by decide))]; exact hW
            have hp_24 : x_22.toInt = x_22.toInt := rfl
            have hI := hI.set3 hp_24 (by omega) (by omega)
            rw [← hy_23] at hI
            have hW : IW ((upc u 3 x_22.toInt) 1) ((upc u 3 x_22.toInt) 2) ((upc u 3 x_22.toInt) 9) (y_23 (a 89)) := iw_u hW (by simp [upc]) (by simp [upc]) (by simp [upc])
            clear hc_21
            refine lv_aload_n hx hb dX12_away_84 rfl (lv_at hl 0 rfl) ?_
            refine tw_get (D := (dC, dI)) (v := .int (y_23 (a 50) 9)) (C := RX12) (T := TX12) (N := 58) hx hb hts (fun _ hh => (List.mem_cons_of_mem _ (List.mem_append_right _ (List.mem_append_left _ hh)))) hown hK hT (fx_50 hX) (by decide) cl_e60 rfl 9 (by decide) (hts (.fieldLink RX12 167 "TypingPoolModel" "aways" "I") (List.mem_cons_of_mem _ (List.mem_append_left _ (List.mem_of_getElem? (i := 8) rfl)))) (fun _ h9 => h9) rfl dX12_away_85 ?_
            have hc_25 : (y_23 (a 50) 9).toInt = x_22.toInt := by rw [im_3 hI]; simp [upc]
            have hrv : (y_23 (a 50) 9).toInt = x_22.toInt := hc_25
            exact W.iret (v := y_23 (a 50) 9) hx hb hr (fun t ht hW9 => ⟨⟨y_23 (a 50) 9, y_23 (a 50) 9, rfl, rfl, Or.inr (⟨(upc u 3 x_22.toInt), y_23, g, (by intro i hi; simp only [List.mem_cons, List.not_mem_nil, or_false, not_or] at hi; unfold upc; repeat rw [if_neg (by omega)]), hG, hGg, hI, by omega, by omega, (by rw [upc_i]; omega), tw_at ht hT⟩)⟩, hS.F ht⟩) hS.2.2 dX12_away_88
          · have nc_13 := z_eq hc_12 (zk (x := 30) 30 rfl) c_13
            refine lv_iconst (v := (-1)) hx hb dX12_away_42 (by decide) ?_
            have hrv : (-1 : Int32).toInt = (-1) := (zk (x := (-1)) (-1) rfl)
            exact W.iret (v := (-1)) hx hb hr (fun t ht hW9 => ⟨⟨(-1), (-1), rfl, rfl, Or.inl ⟨u, y_1, g, rfl, fun _ _ => rfl, hG, hGg, hI, by omega, by omega, tw_at ht hT⟩⟩, hS.F ht⟩) hS.2.2 dX12_away_43
  · refine lq_top (v := 0) hre ?_
    rw [ht] at hT
    refine lv_if_eq (tgt := 42) hx hb dX12_away_10 (by decide) (fun c_26 => ?_) (fun c_26 => absurd c_26 (by decide))
    refine lv_iconst (v := (-1)) hx hb dX12_away_42 (by decide) ?_
    have hrv : (-1 : Int32).toInt = (-1) := (zk (x := (-1)) (-1) rfl)
    exact W.iret (v := (-1)) hx hb hr (fun t ht hW9 => ⟨⟨(-1), (-1), rfl, rfl, Or.inl ⟨u, y_1, g, rfl, fun _ _ => rfl, hG, hGg, hI, by omega, by omega, tw_at ht hT⟩⟩, hS.F ht⟩) hS.2.2 dX12_away_43
def wo_m_pieceN : List Cond := [.fieldLink RX12 139 "TypingPoolModel" "thrown" "I", .methodLink RX12 145 yX12_in, .static yX12_in, .initialized RX12, .methodLink RX12 164 yX12_now, .instanceMethod yX12_now, .selects RX12 yX12_now yX12_now, .constant RX12 155 (65535), .fieldLink RX12 149 "TypingPoolModel" "pieces" "I", .fieldLink RX12 31 "TypingPoolModel" "department" "[I", .fieldLink RX12 34 "TypingPoolModel" "style" "[I", .fieldLink RX12 37 "TypingPoolModel" "lines" "[I", .fieldLink RX12 40 "TypingPoolModel" "secret" "[I", .fieldLink RX12 43 "TypingPoolModel" "claim" "[I", .fieldLink RX12 46 "TypingPoolModel" "comes" "[I", .fieldLink RX12 49 "TypingPoolModel" "due" "[I", .fieldLink RX12 52 "TypingPoolModel" "words" "[I", .fieldLink RX12 55 "TypingPoolModel" "copies" "[I", .methodLink RX12 170 yX12_piece_, .instanceMethod yX12_piece_, .selects RX12 yX12_piece_ yX12_piece_, .methodLink RX12 173 yX12_work, .instanceMethod yX12_work, .selects RX12 yX12_work yX12_work]
def wm_m_pieceN : List Cond := .code yX12_piece__ cX12_piece__ 10 (some .int) :: (wo_m_pieceN ++ (wsX120 ++ (wm_m_in ++ (wm_m_now ++ (wm_m_pieceP ++ (wm_m_work ++ ([] : List Cond)))))))
theorem gd_m_pieceN : ∀ w ∈ wm_m_pieceN, goodWord w = true := gd_c rfl (gd_a (by decide) (gd_a gd_wsX120 (gd_a gd_m_in (gd_a gd_m_now (gd_a gd_m_pieceP (gd_a gd_m_work gd_nil))))))
set_option maxRecDepth 20000 in
theorem im_m_pieceN : ∀ w ∈ wm_m_pieceN, w ∈ lw_tbl := im_c (in_r [.code yX12_piece__ cX12_piece__ 10 (some .int)] [1447] (by decide +kernel)) (in_app (in_r wo_m_pieceN [1278, 1420, 1421, 86, 1440, 1442, 28, 1427, 1260, 1251, 1252, 1253, 1254, 1255, 1256, 1257, 1258, 1259, 1448, 1450, 29, 1452, 1454, 30] (by decide +kernel)) (in_app im_wsX120 (in_app im_m_in (in_app im_m_now (in_app im_m_pieceP (in_app im_m_work im_nil))))))
set_option maxHeartbeats 4000000 in
set_option maxRecDepth 100000 in
theorem m_pieceN (l : Launch) (dC : Nat → ClassId) (dI : Nat → Nat → Nat) (ad av : Nat → Nat) (sz : Nat) (a : Nat → Nat) (k : Nat → ClassId) (τ ln : Nat → Nat) (y : Nat → Nat → Int32) (g : Nat → Nat → Option Nat) (u : Nat → Int) (p0 : Int32) (p1 : Int32) (p2 : Int32) (p3 : Int32) (p4 : Int32) (p5 : Int32) (p6 : Int32) (p7 : Int32) (p8 : Int32) (hI : IM a u τ y) (hW : IW (u 1) (u 2) (u 9) (y (a 89))) : Met l yX12_piece__ wm_m_pieceN ({ frames := 1, cells := 0, slots := 0, locals := 60 }) (pw_ ad av (dC, dI) sz [.ref (a 50), .int p0, .int p1, .int p2, .int p3, .int p4, .int p5, .int p6, .int p7, .int p8] a k τ ln y g) (va_Qi (fun (r u : Int32) => u = r) (fun (r : Int32) (t : State) => (∃ (u' : Nat → Int) (y' : Nat → Nat → Int32) (g' : Nat → Nat → Option Nat), r = (-1) ∧ (∀ i, i ∉ ([2] : List Nat) → u' i = u i) ∧ ag τ [60, 71, 72, 73, 74, 75, 76, 77, 78, 79, 99] y y' ∧ agg τ g g' ∧ IM a u' τ y' ∧ IW (u' 1) (u' 2) (u' 9) (y' (a 89)) ∧ (¬ (0 ≤ p0.toInt ∧ p0.toInt ≤ 7 ∧ 0 ≤ p1.toInt ∧ p1.toInt ≤ 7 ∧ 1 ≤ p2.toInt ∧ p2.toInt ≤ 400 ∧ 0 ≤ p3.toInt ∧ p3.toInt ≤ 3 ∧ 0 ≤ p4.toInt ∧ p4.toInt ≤ 9 ∧ u 9 ≤ p5.toInt ∧ p5.toInt ≤ 4800 ∧ p5.toInt ≤ p6.toInt ∧ p6.toInt ≤ 4800 ∧ 0 ≤ p7.toInt ∧ p7.toInt ≤ 65535 ∧ 0 ≤ p8.toInt ∧ p8.toInt ≤ 6 ∧ u 2 < 30)) ∧ u' 2 = u 2 ∧ tw (dC, dI) a k τ ln y' g' t.heap) ∨ (∃ (u' : Nat → Int) (y' : Nat → Nat → Int32) (g' : Nat → Nat → Option Nat), (∀ i, i ∉ ([2] : List Nat) → u' i = u i) ∧ ag τ [60, 71, 72, 73, 74, 75, 76, 77, 78, 79, 99] y y' ∧ agg τ g g' ∧ IM a u' τ y' ∧ IW (u' 1) (u' 2) (u' 9) (y' (a 89)) ∧ ((0 ≤ p0.toInt ∧ p0.toInt ≤ 7 ∧ 0 ≤ p1.toInt ∧ p1.toInt ≤ 7 ∧ 1 ≤ p2.toInt ∧ p2.toInt ≤ 400 ∧ 0 ≤ p3.toInt ∧ p3.toInt ≤ 3 ∧ 0 ≤ p4.toInt ∧ p4.toInt ≤ 9 ∧ u 9 ≤ p5.toInt ∧ p5.toInt ≤ 4800 ∧ p5.toInt ≤ p6.toInt ∧ p6.toInt ≤ 4800 ∧ 0 ≤ p7.toInt ∧ p7.toInt ≤ 65535 ∧ 0 ≤ p8.toInt ∧ p8.toInt ≤ 6 ∧ u 2 < 30)) ∧ r.toInt = u 2 ∧ u' 2 = u 2 + 1 ∧ tw (dC, dI) a k τ ln y' g' t.heap)) (fr τ sz)) 0 0 (fr τ sz) := by
  refine Met.ofW (cc := cX12_piece__) (maxL := 10) (ret := (some .int)) (by decide) rfl ?_
  intro p e s m args below meth c s₁ B hml hv
  obtain ⟨rfl, hsz, hT, hK, hM⟩ := hv
  have hx := B.exec
  have hb := B.bytes
  have hr := B.returns
  have hts := atoms_spec (ws := wm_m_pieceN) B.pre
  have hown : s.vm.findClass RX12 = some m.cls := findClass_of_methodNamed B.named
  have hlocks := B.notSynchronized
  subst hsz
  generalize hAe : fr τ s.heap.size = A at hM ⊢
  have hA : ∀ q : Nat, s.heap.size ≤ q → A q := fun q h => by rw [← hAe]; exact Or.inr h
  have hF : ∀ q, τ q ≠ 0 → A q := fun q h => by rw [← hAe]; exact Or.inl h
  have hS : va_S A s.heap s.heap [] := va_S.rf
  have hX := hI.1
  have hR := im_r hI
  have hG : ag τ [60, 71, 72, 73, 74, 75, 76, 77, 78, 79, 99] y y := ag.rf
  have hGg : agg τ g g := agg.rf
  have hl := lv_entry ([.ref (a 50), .int p0, .int p1, .int p2, .int p3, .int p4, .int p5, .int p6, .int p7, .int p8]) (n := 10) (Nat.le_of_ble_eq_true rfl)
  rw [lg_entry_eq]
  generalize (lg_sl ([.ref (a 50), .int p0, .int p1, .int p2, .int p3, .int p4, .int p5, .int p6, .int p7, .int p8]) ++ List.replicate (10 - (lg_sl ([.ref (a 50), .int p0, .int p1, .int p2, .int p3, .int p4, .int p5, .int p6, .int p7, .int p8])).length) Slot.unset).toArray = ls at hl ⊢
  have hl : lv_has ls 10 [(0, .ref (a 50)), (1, .int p0), (2, .int p1), (3, .int p2), (4, .int p3), (5, .int p4), (6, .int p5), (7, .int p6), (8, .int p7), (9, .int p8)] := hl
  refine lv_aload_n hx hb dX12_piece___0 rfl (lv_at hl 0 rfl) ?_
  refine lv_iconst (v := 0) hx hb dX12_piece___1 (by decide) ?_
  refine tw_put (D := (dC, dI)) (x := 0) (ty := .int) (C := RX12) (T := TX12) (N := 58) hx hb hts (fun _ hh => (List.mem_cons_of_mem _ (List.mem_append_right _ (List.mem_append_left _ hh)))) tyX12 tyX12_ok nmX12 hown hK hT hF hS (fx_50 hX) (by decide) cl_e60 rfl 37 (by decide) (hts (.fieldLink RX12 139 "TypingPoolModel" "thrown" "I") (List.mem_cons_of_mem _ (List.mem_append_left _ (List.mem_of_getElem? (i := 0) rfl)))) (fun _ h9 => h9) rfl (tyX12_ok 37 (by decide)) rfl rfl (Nat.le_of_ble_eq_true rfl) rfl dX12_piece___2 (fun H locs hT hS => ?_)
  obtain ⟨y_1, hy_1, hT⟩ : ∃ z : Nat → Nat → Int32, z = up2 y (a 50) 37 (0 : Int32) ∧ tw (dC, dI) a k τ ln z g H := ⟨_, rfl, hT⟩
  have hG : ag τ [60, 71, 72, 73, 74, 75, 76, 77, 78, 79, 99] y y_1 := by rw [hy_1]; exact hG.up (fx_50 hX) (by decide)
  have hW : IW (u 1) (u 2) (u 9) (y_1 (a 89)) := by rw [hy_1, up2_o (kd_ne (fx_89 hX) (fx_50 hX) (by decide))]; exact hW
  have hI := hI.put (f := 37) (x := (0 : Int32)) (by decide)
  rw [← hy_1] at hI
  refine lv_iload_n hx hb dX12_piece___5 rfl (lv_at hl 1 rfl) ?_
  refine lv_iconst (v := 0) hx hb dX12_piece___6 (by decide) ?_
  refine lv_bipush (v := 7) hx hb dX12_piece___7 (by decide) ?_
  have hFc := tw_free hF hS hA
  have hp_2 : (0 : Int32).toInt = 0 := (zk (x := 0) 0 rfl)
  have hp_3 : (7 : Int32).toInt = 7 := (zk (x := 7) 7 rfl)
  refine va_calli (va_runS (As := [.int p0, .int 0, .int 7]) (rest := []) ⟨hx, hb, hml, hown, hts⟩ (m_in l dC dI ad av H.size a k τ ln y_1 g u p0 (0 : Int32) (7 : Int32)  ) (va_cwS 3 hts (gi_3 (List.mem_cons_of_mem _ (List.mem_append_left _ (List.mem_of_getElem? (i := 1) rfl))) (List.mem_cons_of_mem _ (List.mem_append_left _ (List.mem_of_getElem? (i := 2) rfl))) (List.mem_cons_of_mem _ (List.mem_append_left _ (List.mem_of_getElem? (i := 3) rfl))) (fun _ hh => (List.mem_cons_of_mem _ (List.mem_append_right _ (List.mem_append_right _ (List.mem_append_left _ hh))))) gd_m_in) rfl rfl rfl (by decide +kernel) ⟨Nat.le_of_ble_eq_true rfl, Nat.le_of_ble_eq_true rfl⟩) ⟨pw_blind, pw_use hT hK hFc hS hM⟩ rfl rfl hl.1 rfl (lv_room (Nat.le_of_ble_eq_true rfl)) dX12_piece___9 ⟨Nat.le_of_ble_eq_true rfl, Nat.le_of_ble_eq_true rfl⟩) hS (fun q _ h => hFc q h) hFc (fun r0 r_4 t H locs ht hvm hw hB hz1 hk1 hS => ?_)
  refine W.widen (k := 0) (n := 0) (Nat.le_of_ble_eq_true rfl) (Nat.le_of_ble_eq_true rfl) ?_
  clear hvm hz1 hk1
  subst hw
  rcases hB with ⟨hre, hf_5, hf_6, hT⟩ | ⟨hre, hf_7, hT⟩
  · refine lq_top (v := 1) hre ?_
    rw [ht] at hT
    try simp only [hp_2, hp_3] at hf_5 hf_6
    clear hp_2 hp_3
    refine lv_if_eq (tgt := 116) hx hb dX12_piece___12 (by decide) (fun c_8 => absurd c_8 (by decide)) (fun c_8 => ?_)
    refine lv_iload_n hx hb dX12_piece___15 rfl (lv_at hl 2 rfl) ?_
    refine lv_iconst (v := 0) hx hb dX12_piece___16 (by decide) ?_
    refine lv_bipush (v := 7) hx hb dX12_piece___17 (by decide) ?_
    have hFc := tw_free hF hS hA
    have hp_9 : (0 : Int32).toInt = 0 := (zk (x := 0) 0 rfl)
    have hp_10 : (7 : Int32).toInt = 7 := (zk (x := 7) 7 rfl)
    refine va_calli (va_runS (As := [.int p1, .int 0, .int 7]) (rest := []) ⟨hx, hb, hml, hown, hts⟩ (m_in l dC dI ad av H.size a k τ ln y_1 g u p1 (0 : Int32) (7 : Int32)  ) (va_cwS 3 hts (gi_3 (List.mem_cons_of_mem _ (List.mem_append_left _ (List.mem_of_getElem? (i := 1) rfl))) (List.mem_cons_of_mem _ (List.mem_append_left _ (List.mem_of_getElem? (i := 2) rfl))) (List.mem_cons_of_mem _ (List.mem_append_left _ (List.mem_of_getElem? (i := 3) rfl))) (fun _ hh => (List.mem_cons_of_mem _ (List.mem_append_right _ (List.mem_append_right _ (List.mem_append_left _ hh))))) gd_m_in) rfl rfl rfl (by decide +kernel) ⟨Nat.le_of_ble_eq_true rfl, Nat.le_of_ble_eq_true rfl⟩) ⟨pw_blind, pw_use hT hK hFc hS hM⟩ rfl rfl hl.1 rfl (lv_room (Nat.le_of_ble_eq_true rfl)) dX12_piece___19 ⟨Nat.le_of_ble_eq_true rfl, Nat.le_of_ble_eq_true rfl⟩) hS (fun q _ h => hFc q h) hFc (fun r0 r_11 t H locs ht hvm hw hB hz1 hk1 hS => ?_)
    refine W.widen (k := 0) (n := 0) (Nat.le_of_ble_eq_true rfl) (Nat.le_of_ble_eq_true rfl) ?_
    clear hvm hz1 hk1
    subst hw
    rcases hB with ⟨hre, hf_12, hf_13, hT⟩ | ⟨hre, hf_14, hT⟩
    · refine lq_top (v := 1) hre ?_
      rw [ht] at hT
      try simp only [hp_9, hp_10] at hf_12 hf_13
      clear hp_9 hp_10
      refine lv_if_eq (tgt := 116) hx hb dX12_piece___22 (by decide) (fun c_15 => absurd c_15 (by decide)) (fun c_15 => ?_)
      refine lv_iload_n hx hb dX12_piece___25 rfl (lv_at hl 3 rfl) ?_
      refine lv_iconst (v := 1) hx hb dX12_piece___26 (by decide) ?_
      refine lv_sipush (v := 400) hx hb dX12_piece___27 (by decide) ?_
      have hFc := tw_free hF hS hA
      have hp_16 : (1 : Int32).toInt = 1 := (zk (x := 1) 1 rfl)
      have hp_17 : (400 : Int32).toInt = 400 := (zk (x := 400) 400 rfl)
      refine va_calli (va_runS (As := [.int p2, .int 1, .int 400]) (rest := []) ⟨hx, hb, hml, hown, hts⟩ (m_in l dC dI ad av H.size a k τ ln y_1 g u p2 (1 : Int32) (400 : Int32)  ) (va_cwS 3 hts (gi_3 (List.mem_cons_of_mem _ (List.mem_append_left _ (List.mem_of_getElem? (i := 1) rfl))) (List.mem_cons_of_mem _ (List.mem_append_left _ (List.mem_of_getElem? (i := 2) rfl))) (List.mem_cons_of_mem _ (List.mem_append_left _ (List.mem_of_getElem? (i := 3) rfl))) (fun _ hh => (List.mem_cons_of_mem _ (List.mem_append_right _ (List.mem_append_right _ (List.mem_append_left _ hh))))) gd_m_in) rfl rfl rfl (by decide +kernel) ⟨Nat.le_of_ble_eq_true rfl, Nat.le_of_ble_eq_true rfl⟩) ⟨pw_blind, pw_use hT hK hFc hS hM⟩ rfl rfl hl.1 rfl (lv_room (Nat.le_of_ble_eq_true rfl)) dX12_piece___30 ⟨Nat.le_of_ble_eq_true rfl, Nat.le_of_ble_eq_true rfl⟩) hS (fun q _ h => hFc q h) hFc (fun r0 r_18 t H locs ht hvm hw hB hz1 hk1 hS => ?_)
      refine W.widen (k := 0) (n := 0) (Nat.le_of_ble_eq_true rfl) (Nat.le_of_ble_eq_true rfl) ?_
      clear hvm hz1 hk1
      subst hw
      rcases hB with ⟨hre, hf_19, hf_20, hT⟩ | ⟨hre, hf_21, hT⟩
      · refine lq_top (v := 1) hre ?_
        rw [ht] at hT
        try simp only [hp_16, hp_17] at hf_19 hf_20
        clear hp_16 hp_17
        refine lv_if_eq (tgt := 116) hx hb dX12_piece___33 (by decide) (fun c_22 => absurd c_22 (by decide)) (fun c_22 => ?_)
        refine lv_iload hx hb dX12_piece___36 (lv_at hl 4 rfl) ?_
        refine lv_iconst (v := 0) hx hb dX12_piece___38 (by decide) ?_
        refine lv_iconst (v := 3) hx hb dX12_piece___39 (by decide) ?_
        have hFc := tw_free hF hS hA
        have hp_23 : (0 : Int32).toInt = 0 := (zk (x := 0) 0 rfl)
        have hp_24 : (3 : Int32).toInt = 3 := (zk (x := 3) 3 rfl)
        refine va_calli (va_runS (As := [.int p3, .int 0, .int 3]) (rest := []) ⟨hx, hb, hml, hown, hts⟩ (m_in l dC dI ad av H.size a k τ ln y_1 g u p3 (0 : Int32) (3 : Int32)  ) (va_cwS 3 hts (gi_3 (List.mem_cons_of_mem _ (List.mem_append_left _ (List.mem_of_getElem? (i := 1) rfl))) (List.mem_cons_of_mem _ (List.mem_append_left _ (List.mem_of_getElem? (i := 2) rfl))) (List.mem_cons_of_mem _ (List.mem_append_left _ (List.mem_of_getElem? (i := 3) rfl))) (fun _ hh => (List.mem_cons_of_mem _ (List.mem_append_right _ (List.mem_append_right _ (List.mem_append_left _ hh))))) gd_m_in) rfl rfl rfl (by decide +kernel) ⟨Nat.le_of_ble_eq_true rfl, Nat.le_of_ble_eq_true rfl⟩) ⟨pw_blind, pw_use hT hK hFc hS hM⟩ rfl rfl hl.1 rfl (lv_room (Nat.le_of_ble_eq_true rfl)) dX12_piece___40 ⟨Nat.le_of_ble_eq_true rfl, Nat.le_of_ble_eq_true rfl⟩) hS (fun q _ h => hFc q h) hFc (fun r0 r_25 t H locs ht hvm hw hB hz1 hk1 hS => ?_)
        refine W.widen (k := 0) (n := 0) (Nat.le_of_ble_eq_true rfl) (Nat.le_of_ble_eq_true rfl) ?_
        clear hvm hz1 hk1
        subst hw
        rcases hB with ⟨hre, hf_26, hf_27, hT⟩ | ⟨hre, hf_28, hT⟩
        · refine lq_top (v := 1) hre ?_
          rw [ht] at hT
          try simp only [hp_23, hp_24] at hf_26 hf_27
          clear hp_23 hp_24
          refine lv_if_eq (tgt := 116) hx hb dX12_piece___43 (by decide) (fun c_29 => absurd c_29 (by decide)) (fun c_29 => ?_)
          refine lv_iload hx hb dX12_piece___46 (lv_at hl 5 rfl) ?_
          refine lv_iconst (v := 0) hx hb dX12_piece___48 (by decide) ?_
          refine lv_bipush (v := 9) hx hb dX12_piece___49 (by decide) ?_
          have hFc := tw_free hF hS hA
          have hp_30 : (0 : Int32).toInt = 0 := (zk (x := 0) 0 rfl)
          have hp_31 : (9 : Int32).toInt = 9 := (zk (x := 9) 9 rfl)
          refine va_calli (va_runS (As := [.int p4, .int 0, .int 9]) (rest := []) ⟨hx, hb, hml, hown, hts⟩ (m_in l dC dI ad av H.size a k τ ln y_1 g u p4 (0 : Int32) (9 : Int32)  ) (va_cwS 3 hts (gi_3 (List.mem_cons_of_mem _ (List.mem_append_left _ (List.mem_of_getElem? (i := 1) rfl))) (List.mem_cons_of_mem _ (List.mem_append_left _ (List.mem_of_getElem? (i := 2) rfl))) (List.mem_cons_of_mem _ (List.mem_append_left _ (List.mem_of_getElem? (i := 3) rfl))) (fun _ hh => (List.mem_cons_of_mem _ (List.mem_append_right _ (List.mem_append_right _ (List.mem_append_left _ hh))))) gd_m_in) rfl rfl rfl (by decide +kernel) ⟨Nat.le_of_ble_eq_true rfl, Nat.le_of_ble_eq_true rfl⟩) ⟨pw_blind, pw_use hT hK hFc hS hM⟩ rfl rfl hl.1 rfl (lv_room (Nat.le_of_ble_eq_true rfl)) dX12_piece___51 ⟨Nat.le_of_ble_eq_true rfl, Nat.le_of_ble_eq_true rfl⟩) hS (fun q _ h => hFc q h) hFc (fun r0 r_32 t H locs ht hvm hw hB hz1 hk1 hS => ?_)
          refine W.widen (k := 0) (n := 0) (Nat.le_of_ble_eq_true rfl) (Nat.le_of_ble_eq_true rfl) ?_
          clear hvm hz1 hk1
          subst hw
          rcases hB with ⟨hre, hf_33, hf_34, hT⟩ | ⟨hre, hf_35, hT⟩
          · refine lq_top (v := 1) hre ?_
            rw [ht] at hT
            try simp only [hp_30, hp_31] at hf_33 hf_34
            clear hp_30 hp_31
            refine lv_if_eq (tgt := 116) hx hb dX12_piece___54 (by decide) (fun c_36 => absurd c_36 (by decide)) (fun c_36 => ?_)
            refine lv_iload hx hb dX12_piece___57 (lv_at hl 6 rfl) ?_
            refine lv_aload_n hx hb dX12_piece___59 rfl (lv_at hl 0 rfl) ?_
            have hFc := tw_free hF hS hA
            refine va_calli (va_runV (As := []) (rest := [.int p5]) ⟨hx, hb, hml, hown, hts⟩ (m_now l dC dI ad av H.size a k τ ln y_1 g u  hI hW) (cwV 0 hts (gi_4 (List.mem_cons_of_mem _ (List.mem_append_left _ (List.mem_of_getElem? (i := 4) rfl))) (List.mem_cons_of_mem _ (List.mem_append_left _ (List.mem_of_getElem? (i := 5) rfl))) (List.mem_cons_of_mem _ (List.mem_append_left _ (List.mem_of_getElem? (i := 6) rfl))) (List.mem_cons_of_mem _ (List.mem_append_left _ (List.mem_of_getElem? (i := 3) rfl))) (fun _ hh => (List.mem_cons_of_mem _ (List.mem_append_right _ (List.mem_append_right _ (List.mem_append_right _ (List.mem_append_left _ hh)))))) gd_m_now) rfl rfl rfl (by decide +kernel) ⟨Nat.le_of_ble_eq_true rfl, Nat.le_of_ble_eq_true rfl⟩) ⟨pw_blind, tw_recv hK hT (fx_50 hX) (by decide) cl_e60 rfl, pw_use hT hK hFc hS hM⟩ rfl rfl hl.1 rfl (lv_room (Nat.le_of_ble_eq_true rfl)) dX12_piece___60 ⟨Nat.le_of_ble_eq_true rfl, Nat.le_of_ble_eq_true rfl⟩) hS (fun q _ h => hFc q h) hFc (fun r0 r_37 t H locs ht hvm hw hB hz1 hk1 hS => ?_)
            refine W.widen (k := 0) (n := 0) (Nat.le_of_ble_eq_true rfl) (Nat.le_of_ble_eq_true rfl) ?_
            clear hvm hz1 hk1
            subst hw
            obtain ⟨hf_38, hT⟩ := hB
            rw [ht] at hT
            refine lv_sipush (v := 4800) hx hb dX12_piece___63 (by decide) ?_
            have hFc := tw_free hF hS hA
            have hp_39 : (4800 : Int32).toInt = 4800 := (zk (x := 4800) 4800 rfl)
            refine va_calli (va_runS (As := [.int p5, .int r_37, .int 4800]) (rest := []) ⟨hx, hb, hml, hown, hts⟩ (m_in l dC dI ad av H.size a k τ ln y_1 g u p5 r_37 (4800 : Int32)  ) (va_cwS 3 hts (gi_3 (List.mem_cons_of_mem _ (List.mem_append_left _ (List.mem_of_getElem? (i := 1) rfl))) (List.mem_cons_of_mem _ (List.mem_append_left _ (List.mem_of_getElem? (i := 2) rfl))) (List.mem_cons_of_mem _ (List.mem_append_left _ (List.mem_of_getElem? (i := 3) rfl))) (fun _ hh => (List.mem_cons_of_mem _ (List.mem_append_right _ (List.mem_append_right _ (List.mem_append_left _ hh))))) gd_m_in) rfl rfl rfl (by decide +kernel) ⟨Nat.le_of_ble_eq_true rfl, Nat.le_of_ble_eq_true rfl⟩) ⟨pw_blind, pw_use hT hK hFc hS hM⟩ rfl rfl hl.1 rfl (lv_room (Nat.le_of_ble_eq_true rfl)) dX12_piece___66 ⟨Nat.le_of_ble_eq_true rfl, Nat.le_of_ble_eq_true rfl⟩) hS (fun q _ h => hFc q h) hFc (fun r0 r_40 t H locs ht hvm hw hB hz1 hk1 hS => ?_)
            refine W.widen (k := 0) (n := 0) (Nat.le_of_ble_eq_true rfl) (Nat.le_of_ble_eq_true rfl) ?_
            clear hvm hz1 hk1
            subst hw
            rcases hB with ⟨hre, hf_41, hf_42, hT⟩ | ⟨hre, hf_43, hT⟩
            · refine lq_top (v := 1) hre ?_
              rw [ht] at hT
              try simp only [hp_39] at hf_41 hf_42
              clear hp_39
              refine lv_if_eq (tgt := 116) hx hb dX12_piece___69 (by decide) (fun c_44 => absurd c_44 (by decide)) (fun c_44 => ?_)
              refine lv_iload hx hb dX12_piece___72 (lv_at hl 7 rfl) ?_
              refine lv_iload hx hb dX12_piece___74 (lv_at hl 6 rfl) ?_
              refine lv_sipush (v := 4800) hx hb dX12_piece___76 (by decide) ?_
              have hFc := tw_free hF hS hA
              have hp_45 : (4800 : Int32).toInt = 4800 := (zk (x := 4800) 4800 rfl)
              refine va_calli (va_runS (As := [.int p6, .int p5, .int 4800]) (rest := []) ⟨hx, hb, hml, hown, hts⟩ (m_in l dC dI ad av H.size a k τ ln y_1 g u p6 p5 (4800 : Int32)  ) (va_cwS 3 hts (gi_3 (List.mem_cons_of_mem _ (List.mem_append_left _ (List.mem_of_getElem? (i := 1) rfl))) (List.mem_cons_of_mem _ (List.mem_append_left _ (List.mem_of_getElem? (i := 2) rfl))) (List.mem_cons_of_mem _ (List.mem_append_left _ (List.mem_of_getElem? (i := 3) rfl))) (fun _ hh => (List.mem_cons_of_mem _ (List.mem_append_right _ (List.mem_append_right _ (List.mem_append_left _ hh))))) gd_m_in) rfl rfl rfl (by decide +kernel) ⟨Nat.le_of_ble_eq_true rfl, Nat.le_of_ble_eq_true rfl⟩) ⟨pw_blind, pw_use hT hK hFc hS hM⟩ rfl rfl hl.1 rfl (lv_room (Nat.le_of_ble_eq_true rfl)) dX12_piece___79 ⟨Nat.le_of_ble_eq_true rfl, Nat.le_of_ble_eq_true rfl⟩) hS (fun q _ h => hFc q h) hFc (fun r0 r_46 t H locs ht hvm hw hB hz1 hk1 hS => ?_)
              refine W.widen (k := 0) (n := 0) (Nat.le_of_ble_eq_true rfl) (Nat.le_of_ble_eq_true rfl) ?_
              clear hvm hz1 hk1
              subst hw
              rcases hB with ⟨hre, hf_47, hf_48, hT⟩ | ⟨hre, hf_49, hT⟩
              · refine lq_top (v := 1) hre ?_
                rw [ht] at hT
                try simp only [hp_45] at hf_47 hf_48
                clear hp_45
                refine lv_if_eq (tgt := 116) hx hb dX12_piece___82 (by decide) (fun c_50 => absurd c_50 (by decide)) (fun c_50 => ?_)
                refine lv_iload hx hb dX12_piece___85 (lv_at hl 8 rfl) ?_
                refine lv_iconst (v := 0) hx hb dX12_piece___87 (by decide) ?_
                refine lv_ldc hx hb hown (hts (.constant RX12 155 (65535)) (List.mem_cons_of_mem _ (List.mem_append_left _ (List.mem_of_getElem? (i := 7) rfl)))) dX12_piece___88 ?_
                have hFc := tw_free hF hS hA
                have hp_51 : (0 : Int32).toInt = 0 := (zk (x := 0) 0 rfl)
                have hp_52 : (65535 : Int32).toInt = 65535 := (zk (x := 65535) 65535 rfl)
                refine va_calli (va_runS (As := [.int p7, .int 0, .int 65535]) (rest := []) ⟨hx, hb, hml, hown, hts⟩ (m_in l dC dI ad av H.size a k τ ln y_1 g u p7 (0 : Int32) (65535 : Int32)  ) (va_cwS 3 hts (gi_3 (List.mem_cons_of_mem _ (List.mem_append_left _ (List.mem_of_getElem? (i := 1) rfl))) (List.mem_cons_of_mem _ (List.mem_append_left _ (List.mem_of_getElem? (i := 2) rfl))) (List.mem_cons_of_mem _ (List.mem_append_left _ (List.mem_of_getElem? (i := 3) rfl))) (fun _ hh => (List.mem_cons_of_mem _ (List.mem_append_right _ (List.mem_append_right _ (List.mem_append_left _ hh))))) gd_m_in) rfl rfl rfl (by decide +kernel) ⟨Nat.le_of_ble_eq_true rfl, Nat.le_of_ble_eq_true rfl⟩) ⟨pw_blind, pw_use hT hK hFc hS hM⟩ rfl rfl hl.1 rfl (lv_room (Nat.le_of_ble_eq_true rfl)) dX12_piece___90 ⟨Nat.le_of_ble_eq_true rfl, Nat.le_of_ble_eq_true rfl⟩) hS (fun q _ h => hFc q h) hFc (fun r0 r_53 t H locs ht hvm hw hB hz1 hk1 hS => ?_)
                refine W.widen (k := 0) (n := 0) (Nat.le_of_ble_eq_true rfl) (Nat.le_of_ble_eq_true rfl) ?_
                clear hvm hz1 hk1
                subst hw
                rcases hB with ⟨hre, hf_54, hf_55, hT⟩ | ⟨hre, hf_56, hT⟩
                · refine lq_top (v := 1) hre ?_
                  rw [ht] at hT
                  try simp only [hp_51, hp_52] at hf_54 hf_55
                  clear hp_51 hp_52
                  refine lv_if_eq (tgt := 116) hx hb dX12_piece___93 (by decide) (fun c_57 => absurd c_57 (by decide)) (fun c_57 => ?_)
                  refine lv_iload hx hb dX12_piece___96 (lv_at hl 9 rfl) ?_
                  refine lv_iconst (v := 0) hx hb dX12_piece___98 (by decide) ?_
                  refine lv_bipush (v := 6) hx hb dX12_piece___99 (by decide) ?_
                  have hFc := tw_free hF hS hA
                  have hp_58 : (0 : Int32).toInt = 0 := (zk (x := 0) 0 rfl)
                  have hp_59 : (6 : Int32).toInt = 6 := (zk (x := 6) 6 rfl)
                  refine va_calli (va_runS (As := [.int p8, .int 0, .int 6]) (rest := []) ⟨hx, hb, hml, hown, hts⟩ (m_in l dC dI ad av H.size a k τ ln y_1 g u p8 (0 : Int32) (6 : Int32)  ) (va_cwS 3 hts (gi_3 (List.mem_cons_of_mem _ (List.mem_append_left _ (List.mem_of_getElem? (i := 1) rfl))) (List.mem_cons_of_mem _ (List.mem_append_left _ (List.mem_of_getElem? (i := 2) rfl))) (List.mem_cons_of_mem _ (List.mem_append_left _ (List.mem_of_getElem? (i := 3) rfl))) (fun _ hh => (List.mem_cons_of_mem _ (List.mem_append_right _ (List.mem_append_right _ (List.mem_append_left _ hh))))) gd_m_in) rfl rfl rfl (by decide +kernel) ⟨Nat.le_of_ble_eq_true rfl, Nat.le_of_ble_eq_true rfl⟩) ⟨pw_blind, pw_use hT hK hFc hS hM⟩ rfl rfl hl.1 rfl (lv_room (Nat.le_of_ble_eq_true rfl)) dX12_piece___101 ⟨Nat.le_of_ble_eq_true rfl, Nat.le_of_ble_eq_true rfl⟩) hS (fun q _ h => hFc q h) hFc (fun r0 r_60 t H locs ht hvm hw hB hz1 hk1 hS => ?_)
                  refine W.widen (k := 0) (n := 0) (Nat.le_of_ble_eq_true rfl) (Nat.le_of_ble_eq_true rfl) ?_
                  clear hvm hz1 hk1
                  subst hw
                  rcases hB with ⟨hre, hf_61, hf_62, hT⟩ | ⟨hre, hf_63, hT⟩
                  · refine lq_top (v := 1) hre ?_
                    rw [ht] at hT
                    try simp only [hp_58, hp_59] at hf_61 hf_62
                    clear hp_58 hp_59
                    refine lv_if_eq (tgt := 116) hx hb dX12_piece___104 (by decide) (fun c_64 => absurd c_64 (by decide)) (fun c_64 => ?_)
                    refine lv_aload_n hx hb dX12_piece___107 rfl (lv_at hl 0 rfl) ?_
                    refine tw_get (D := (dC, dI)) (v := .int (y_1 (a 50) 19)) (C := RX12) (T := TX12) (N := 58) hx hb hts (fun _ hh => (List.mem_cons_of_mem _ (List.mem_append_right _ (List.mem_append_left _ hh)))) hown hK hT (fx_50 hX) (by decide) cl_e60 rfl 19 (by decide) (hts (.fieldLink RX12 149 "TypingPoolModel" "pieces" "I") (List.mem_cons_of_mem _ (List.mem_append_left _ (List.mem_of_getElem? (i := 8) rfl)))) (fun _ h9 => h9) rfl dX12_piece___108 ?_
                    have hc_65 := im_2 hI
                    refine lv_bipush (v := 30) hx hb dX12_piece___111 (by decide) ?_
                    refine lv_icmp_ne (tgt := 118) hx hb dX12_piece___113 (by decide) (fun c_66 => ?_) (fun c_66 => ?_)
                    · have nc_66 := z_ne hc_65 (zk (x := 30) 30 rfl) c_66
                      refine lv_aload_n hx hb dX12_piece___118 rfl (lv_at hl 0 rfl) ?_
                      refine tw_get (D := (dC, dI)) (v := .ref (a 61)) (C := RX12) (T := TX12) (N := 58) hx hb hts (fun _ hh => (List.mem_cons_of_mem _ (List.mem_append_right _ (List.mem_append_left _ hh)))) hown hK hT (fx_50 hX) (by decide) cl_e60 rfl 10 (by decide) (hts (.fieldLink RX12 31 "TypingPoolModel" "department" "[I") (List.mem_cons_of_mem _ (List.mem_append_left _ (List.mem_of_getElem? (i := 9) rfl)))) (fun _ h9 => h9) rfl dX12_piece___119 ?_
                      refine lv_aload_n hx hb dX12_piece___122 rfl (lv_at hl 0 rfl) ?_
                      refine tw_get (D := (dC, dI)) (v := .int (y_1 (a 50) 19)) (C := RX12) (T := TX12) (N := 58) hx hb hts (fun _ hh => (List.mem_cons_of_mem _ (List.mem_append_right _ (List.mem_append_left _ hh)))) hown hK hT (fx_50 hX) (by decide) cl_e60 rfl 19 (by decide) (hts (.fieldLink RX12 149 "TypingPoolModel" "pieces" "I") (List.mem_cons_of_mem _ (List.mem_append_left _ (List.mem_of_getElem? (i := 8) rfl)))) (fun _ h9 => h9) rfl dX12_piece___123 ?_
                      have hc_67 := im_2 hI
                      refine lv_iload_n hx hb dX12_piece___126 rfl (lv_at hl 1 rfl) ?_
                      have hbd_68 : 0 ≤ u 2 ∧ u 2 < 30 := by omega
                      refine tw_iast hx hb hK hT hF hS 0 (fx_61 hX) (by decide) (fun _ => cl_e71) rfl (z_in hc_67 hbd_68.1 hbd_68.2) dX12_piece___127 (fun H locs hT hS => ?_)
                      obtain ⟨y_69, hy_69, hT⟩ : ∃ z : Nat → Nat → Int32, z = up2 y_1 (a 61) ((y_1 (a 50) 19).toNatClampNeg) p0 ∧ tw (dC, dI) a k τ ln z g H := ⟨_, rfl, hT⟩
                      have hG : ag τ [60, 71, 72, 73, 74, 75, 76, 77, 78, 79, 99] y y_69 := by rw [hy_69]; exact hG.up (fx_61 hX) (by decide)
                      have hW : IW (u 1) (u 2) (u 9) (y_69 (a 89)) := by rw [hy_69, up2_o (kd_ne (fx_89 hX) (fx_61 hX) (by decide))]; exact hW
                      have hI := hI.ag (S := [71]) (y' := y_69) (by rw [hy_69]; exact ag.one (fx_61 hX)) (by decide)
                      clear hc_65 hc_67
                      refine lv_aload_n hx hb dX12_piece___128 rfl (lv_at hl 0 rfl) ?_
                      refine tw_get (D := (dC, dI)) (v := .ref (a 62)) (C := RX12) (T := TX12) (N := 58) hx hb hts (fun _ hh => (List.mem_cons_of_mem _ (List.mem_append_right _ (List.mem_append_left _ hh)))) hown hK hT (fx_50 hX) (by decide) cl_e60 rfl 11 (by decide) (hts (.fieldLink RX12 34 "TypingPoolModel" "style" "[I") (List.mem_cons_of_mem _ (List.mem_append_left _ (List.mem_of_getElem? (i := 10) rfl)))) (fun _ h9 => h9) rfl dX12_piece___129 ?_
                      refine lv_aload_n hx hb dX12_piece___132 rfl (lv_at hl 0 rfl) ?_
                      refine tw_get (D := (dC, dI)) (v := .int (y_69 (a 50) 19)) (C := RX12) (T := TX12) (N := 58) hx hb hts (fun _ hh => (List.mem_cons_of_mem _ (List.mem_append_right _ (List.mem_append_left _ hh)))) hown hK hT (fx_50 hX) (by decide) cl_e60 rfl 19 (by decide) (hts (.fieldLink RX12 149 "TypingPoolModel" "pieces" "I") (List.mem_cons_of_mem _ (List.mem_append_left _ (List.mem_of_getElem? (i := 8) rfl)))) (fun _ h9 => h9) rfl dX12_piece___133 ?_
                      have hc_70 := im_2 hI
                      refine lv_iload_n hx hb dX12_piece___136 rfl (lv_at hl 2 rfl) ?_
                      refine tw_iast hx hb hK hT hF hS 0 (fx_62 hX) (by decide) (fun _ => cl_e72) rfl (z_in hc_70 hbd_68.1 hbd_68.2) dX12_piece___137 (fun H locs hT hS => ?_)
                      obtain ⟨y_71, hy_71, hT⟩ : ∃ z : Nat → Nat → Int32, z = up2 y_69 (a 62) ((y_69 (a 50) 19).toNatClampNeg) p1 ∧ tw (dC, dI) a k τ ln z g H := ⟨_, rfl, hT⟩
                      have hG : ag τ [60, 71, 72, 73, 74, 75, 76, 77, 78, 79, 99] y y_71 := by rw [hy_71]; exact hG.up (fx_62 hX) (by decide)
                      have hW : IW (u 1) (u 2) (u 9) (y_71 (a 89)) := by rw [hy_71, up2_o (kd_ne (fx_89 hX) (fx_62 hX) (by decide))]; exact hW
                      have hI := hI.ag (S := [72]) (y' := y_71) (by rw [hy_71]; exact ag.one (fx_62 hX)) (by decide)
                      clear hc_70
                      refine lv_aload_n hx hb dX12_piece___138 rfl (lv_at hl 0 rfl) ?_
                      refine tw_get (D := (dC, dI)) (v := .ref (a 63)) (C := RX12) (T := TX12) (N := 58) hx hb hts (fun _ hh => (List.mem_cons_of_mem _ (List.mem_append_right _ (List.mem_append_left _ hh)))) hown hK hT (fx_50 hX) (by decide) cl_e60 rfl 12 (by decide) (hts (.fieldLink RX12 37 "TypingPoolModel" "lines" "[I") (List.mem_cons_of_mem _ (List.mem_append_left _ (List.mem_of_getElem? (i := 11) rfl)))) (fun _ h9 => h9) rfl dX12_piece___139 ?_
                      refine lv_aload_n hx hb dX12_piece___142 rfl (lv_at hl 0 rfl) ?_
                      refine tw_get (D := (dC, dI)) (v := .int (y_71 (a 50) 19)) (C := RX12) (T := TX12) (N := 58) hx hb hts (fun _ hh => (List.mem_cons_of_mem _ (List.mem_append_right _ (List.mem_append_left _ hh)))) hown hK hT (fx_50 hX) (by decide) cl_e60 rfl 19 (by decide) (hts (.fieldLink RX12 149 "TypingPoolModel" "pieces" "I") (List.mem_cons_of_mem _ (List.mem_append_left _ (List.mem_of_getElem? (i := 8) rfl)))) (fun _ h9 => h9) rfl dX12_piece___143 ?_
                      have hc_72 := im_2 hI
                      refine lv_iload_n hx hb dX12_piece___146 rfl (lv_at hl 3 rfl) ?_
                      refine tw_iast hx hb hK hT hF hS 0 (fx_63 hX) (by decide) (fun _ => cl_e73) rfl (z_in hc_72 hbd_68.1 hbd_68.2) dX12_piece___147 (fun H locs hT hS => ?_)
                      obtain ⟨y_73, hy_73, hT⟩ : ∃ z : Nat → Nat → Int32, z = up2 y_71 (a 63) ((y_71 (a 50) 19).toNatClampNeg) p2 ∧ tw (dC, dI) a k τ ln z g H := ⟨_, rfl, hT⟩
                      have hG : ag τ [60, 71, 72, 73, 74, 75, 76, 77, 78, 79, 99] y y_73 := by rw [hy_73]; exact hG.up (fx_63 hX) (by decide)
                      have hW : IW (u 1) (u 2) (u 9) (y_73 (a 89)) := by rw [hy_73, up2_o (kd_ne (fx_89 hX) (fx_63 hX) (by decide))]; exact hW
                      have hIold := hI
                      have hI := hI.o63 (x := p2) (i := (y_71 (a 50) 19)) hc_72
                      rw [← hy_73] at hI
                      have hvb_74 : vb (u 2 + 1) 1 400 (y_73 (a 63)) := by rw [hy_73, up2_q]; exact vb_up (im_a63 hIold) hc_72 hR.2.2.1.1 rfl (by omega) (by omega)
                      clear hc_72
                      refine lv_aload_n hx hb dX12_piece___148 rfl (lv_at hl 0 rfl) ?_
                      refine tw_get (D := (dC, dI)) (v := .ref (a 64)) (C := RX12) (T := TX12) (N := 58) hx hb hts (fun _ hh => (List.mem_cons_of_mem _ (List.mem_append_right _ (List.mem_append_left _ hh)))) hown hK hT (fx_50 hX) (by decide) cl_e60 rfl 13 (by decide) (hts (.fieldLink RX12 40 "TypingPoolModel" "secret" "[I") (List.mem_cons_of_mem _ (List.mem_append_left _ (List.mem_of_getElem? (i := 12) rfl)))) (fun _ h9 => h9) rfl dX12_piece___149 ?_
                      refine lv_aload_n hx hb dX12_piece___152 rfl (lv_at hl 0 rfl) ?_
                      refine tw_get (D := (dC, dI)) (v := .int (y_73 (a 50) 19)) (C := RX12) (T := TX12) (N := 58) hx hb hts (fun _ hh => (List.mem_cons_of_mem _ (List.mem_append_right _ (List.mem_append_left _ hh)))) hown hK hT (fx_50 hX) (by decide) cl_e60 rfl 19 (by decide) (hts (.fieldLink RX12 149 "TypingPoolModel" "pieces" "I") (List.mem_cons_of_mem _ (List.mem_append_left _ (List.mem_of_getElem? (i := 8) rfl)))) (fun _ h9 => h9) rfl dX12_piece___153 ?_
                      have hc_75 := im_2 hI
                      refine lv_iload hx hb dX12_piece___156 (lv_at hl 4 rfl) ?_
                      refine tw_iast hx hb hK hT hF hS 0 (fx_64 hX) (by decide) (fun _ => cl_e74) rfl (z_in hc_75 hbd_68.1 hbd_68.2) dX12_piece___158 (fun H locs hT hS => ?_)
                      obtain ⟨y_76, hy_76, hT⟩ : ∃ z : Nat → Nat → Int32, z = up2 y_73 (a 64) ((y_73 (a 50) 19).toNatClampNeg) p3 ∧ tw (dC, dI) a k τ ln z g H := ⟨_, rfl, hT⟩
                      have hG : ag τ [60, 71, 72, 73, 74, 75, 76, 77, 78, 79, 99] y y_76 := by rw [hy_76]; exact hG.up (fx_64 hX) (by decide)
                      have ha_77 : y_76 (a 63) = y_73 (a 63) := (show y_76 (a 63) = y_73 (a 63) from by rw [hy_76]; exact up2_o (kd_ne (fx_63 hX) (fx_64 hX) (by decide))).trans rfl
                      have hW : IW (u 1) (u 2) (u 9) (y_76 (a 89)) := by rw [hy_76, up2_o (kd_ne (fx_89 hX) (fx_64 hX) (by decide))]; exact hW
                      have hI := hI.ag (S := [74]) (y' := y_76) (by rw [hy_76]; exact ag.one (fx_64 hX)) (by decide)
                      clear hc_75
                      refine lv_aload_n hx hb dX12_piece___159 rfl (lv_at hl 0 rfl) ?_
                      refine tw_get (D := (dC, dI)) (v := .ref (a 65)) (C := RX12) (T := TX12) (N := 58) hx hb hts (fun _ hh => (List.mem_cons_of_mem _ (List.mem_append_right _ (List.mem_append_left _ hh)))) hown hK hT (fx_50 hX) (by decide) cl_e60 rfl 14 (by decide) (hts (.fieldLink RX12 43 "TypingPoolModel" "claim" "[I") (List.mem_cons_of_mem _ (List.mem_append_left _ (List.mem_of_getElem? (i := 13) rfl)))) (fun _ h9 => h9) rfl dX12_piece___160 ?_
                      refine lv_aload_n hx hb dX12_piece___163 rfl (lv_at hl 0 rfl) ?_
                      refine tw_get (D := (dC, dI)) (v := .int (y_76 (a 50) 19)) (C := RX12) (T := TX12) (N := 58) hx hb hts (fun _ hh => (List.mem_cons_of_mem _ (List.mem_append_right _ (List.mem_append_left _ hh)))) hown hK hT (fx_50 hX) (by decide) cl_e60 rfl 19 (by decide) (hts (.fieldLink RX12 149 "TypingPoolModel" "pieces" "I") (List.mem_cons_of_mem _ (List.mem_append_left _ (List.mem_of_getElem? (i := 8) rfl)))) (fun _ h9 => h9) rfl dX12_piece___164 ?_
                      have hc_78 := im_2 hI
                      refine lv_iload hx hb dX12_piece___167 (lv_at hl 5 rfl) ?_
                      refine tw_iast hx hb hK hT hF hS 0 (fx_65 hX) (by decide) (fun _ => cl_e75) rfl (z_in hc_78 hbd_68.1 hbd_68.2) dX12_piece___169 (fun H locs hT hS => ?_)
                      obtain ⟨y_79, hy_79, hT⟩ : ∃ z : Nat → Nat → Int32, z = up2 y_76 (a 65) ((y_76 (a 50) 19).toNatClampNeg) p4 ∧ tw (dC, dI) a k τ ln z g H := ⟨_, rfl, hT⟩
                      have hG : ag τ [60, 71, 72, 73, 74, 75, 76, 77, 78, 79, 99] y y_79 := by rw [hy_79]; exact hG.up (fx_65 hX) (by decide)
                      have ha_80 : y_79 (a 63) = y_73 (a 63) := (show y_79 (a 63) = y_76 (a 63) from by rw [hy_79]; exact up2_o (kd_ne (fx_63 hX) (fx_65 hX) (by decide))).trans ha_77
                      have hW : IW (u 1) (u 2) (u 9) (y_79 (a 89)) := by rw [hy_79, up2_o (kd_ne (fx_89 hX) (fx_65 hX) (by decide))]; exact hW
                      have hI := hI.ag (S := [75]) (y' := y_79) (by rw [hy_79]; exact ag.one (fx_65 hX)) (by decide)
                      clear hc_78
                      refine lv_aload_n hx hb dX12_piece___170 rfl (lv_at hl 0 rfl) ?_
                      refine tw_get (D := (dC, dI)) (v := .ref (a 66)) (C := RX12) (T := TX12) (N := 58) hx hb hts (fun _ hh => (List.mem_cons_of_mem _ (List.mem_append_right _ (List.mem_append_left _ hh)))) hown hK hT (fx_50 hX) (by decide) cl_e60 rfl 15 (by decide) (hts (.fieldLink RX12 46 "TypingPoolModel" "comes" "[I") (List.mem_cons_of_mem _ (List.mem_append_left _ (List.mem_of_getElem? (i := 14) rfl)))) (fun _ h9 => h9) rfl dX12_piece___171 ?_
                      refine lv_aload_n hx hb dX12_piece___174 rfl (lv_at hl 0 rfl) ?_
                      refine tw_get (D := (dC, dI)) (v := .int (y_79 (a 50) 19)) (C := RX12) (T := TX12) (N := 58) hx hb hts (fun _ hh => (List.mem_cons_of_mem _ (List.mem_append_right _ (List.mem_append_left _ hh)))) hown hK hT (fx_50 hX) (by decide) cl_e60 rfl 19 (by decide) (hts (.fieldLink RX12 149 "TypingPoolModel" "pieces" "I") (List.mem_cons_of_mem _ (List.mem_append_left _ (List.mem_of_getElem? (i := 8) rfl)))) (fun _ h9 => h9) rfl dX12_piece___175 ?_
                      have hc_81 := im_2 hI
                      refine lv_iload hx hb dX12_piece___178 (lv_at hl 6 rfl) ?_
                      refine tw_iast hx hb hK hT hF hS 0 (fx_66 hX) (by decide) (fun _ => cl_e76) rfl (z_in hc_81 hbd_68.1 hbd_68.2) dX12_piece___180 (fun H locs hT hS => ?_)
                      obtain ⟨y_82, hy_82, hT⟩ : ∃ z : Nat → Nat → Int32, z = up2 y_79 (a 66) ((y_79 (a 50) 19).toNatClampNeg) p5 ∧ tw (dC, dI) a k τ ln z g H := ⟨_, rfl, hT⟩
                      have hG : ag τ [60, 71, 72, 73, 74, 75, 76, 77, 78, 79, 99] y y_82 := by rw [hy_82]; exact hG.up (fx_66 hX) (by decide)
                      have ha_83 : y_82 (a 63) = y_73 (a 63) := (show y_82 (a 63) = y_79 (a 63) from by rw [hy_82]; exact up2_o (kd_ne (fx_63 hX) (fx_66 hX) (by decide))).trans ha_80
                      have hW : IW (u 1) (u 2) (u 9) (y_82 (a 89)) := by rw [hy_82, up2_o (kd_ne (fx_89 hX) (fx_66 hX) (by decide))]; exact hW
                      have hI := hI.ag (S := [76]) (y' := y_82) (by rw [hy_82]; exact ag.one (fx_66 hX)) (by decide)
                      clear hc_81
                      refine lv_aload_n hx hb dX12_piece___181 rfl (lv_at hl 0 rfl) ?_
                      refine tw_get (D := (dC, dI)) (v := .ref (a 67)) (C := RX12) (T := TX12) (N := 58) hx hb hts (fun _ hh => (List.mem_cons_of_mem _ (List.mem_append_right _ (List.mem_append_left _ hh)))) hown hK hT (fx_50 hX) (by decide) cl_e60 rfl 16 (by decide) (hts (.fieldLink RX12 49 "TypingPoolModel" "due" "[I") (List.mem_cons_of_mem _ (List.mem_append_left _ (List.mem_of_getElem? (i := 15) rfl)))) (fun _ h9 => h9) rfl dX12_piece___182 ?_
                      refine lv_aload_n hx hb dX12_piece___185 rfl (lv_at hl 0 rfl) ?_
                      refine tw_get (D := (dC, dI)) (v := .int (y_82 (a 50) 19)) (C := RX12) (T := TX12) (N := 58) hx hb hts (fun _ hh => (List.mem_cons_of_mem _ (List.mem_append_right _ (List.mem_append_left _ hh)))) hown hK hT (fx_50 hX) (by decide) cl_e60 rfl 19 (by decide) (hts (.fieldLink RX12 149 "TypingPoolModel" "pieces" "I") (List.mem_cons_of_mem _ (List.mem_append_left _ (List.mem_of_getElem? (i := 8) rfl)))) (fun _ h9 => h9) rfl dX12_piece___186 ?_
                      have hc_84 := im_2 hI
                      refine lv_iload hx hb dX12_piece___189 (lv_at hl 7 rfl) ?_
                      refine tw_iast hx hb hK hT hF hS 0 (fx_67 hX) (by decide) (fun _ => cl_e77) rfl (z_in hc_84 hbd_68.1 hbd_68.2) dX12_piece___191 (fun H locs hT hS => ?_)
                      obtain ⟨y_85, hy_85, hT⟩ : ∃ z : Nat → Nat → Int32, z = up2 y_82 (a 67) ((y_82 (a 50) 19).toNatClampNeg) p6 ∧ tw (dC, dI) a k τ ln z g H := ⟨_, rfl, hT⟩
                      have hG : ag τ [60, 71, 72, 73, 74, 75, 76, 77, 78, 79, 99] y y_85 := by rw [hy_85]; exact hG.up (fx_67 hX) (by decide)
                      have ha_86 : y_85 (a 63) = y_73 (a 63) := (show y_85 (a 63) = y_82 (a 63) from by rw [hy_85]; exact up2_o (kd_ne (fx_63 hX) (fx_67 hX) (by decide))).trans ha_83
                      have hW : IW (u 1) (u 2) (u 9) (y_85 (a 89)) := by rw [hy_85, up2_o (kd_ne (fx_89 hX) (fx_67 hX) (by decide))]; exact hW
                      have hI := hI.ag (S := [77]) (y' := y_85) (by rw [hy_85]; exact ag.one (fx_67 hX)) (by decide)
                      clear hc_84
                      refine lv_aload_n hx hb dX12_piece___192 rfl (lv_at hl 0 rfl) ?_
                      refine tw_get (D := (dC, dI)) (v := .ref (a 68)) (C := RX12) (T := TX12) (N := 58) hx hb hts (fun _ hh => (List.mem_cons_of_mem _ (List.mem_append_right _ (List.mem_append_left _ hh)))) hown hK hT (fx_50 hX) (by decide) cl_e60 rfl 17 (by decide) (hts (.fieldLink RX12 52 "TypingPoolModel" "words" "[I") (List.mem_cons_of_mem _ (List.mem_append_left _ (List.mem_of_getElem? (i := 16) rfl)))) (fun _ h9 => h9) rfl dX12_piece___193 ?_
                      refine lv_aload_n hx hb dX12_piece___196 rfl (lv_at hl 0 rfl) ?_
                      refine tw_get (D := (dC, dI)) (v := .int (y_85 (a 50) 19)) (C := RX12) (T := TX12) (N := 58) hx hb hts (fun _ hh => (List.mem_cons_of_mem _ (List.mem_append_right _ (List.mem_append_left _ hh)))) hown hK hT (fx_50 hX) (by decide) cl_e60 rfl 19 (by decide) (hts (.fieldLink RX12 149 "TypingPoolModel" "pieces" "I") (List.mem_cons_of_mem _ (List.mem_append_left _ (List.mem_of_getElem? (i := 8) rfl)))) (fun _ h9 => h9) rfl dX12_piece___197 ?_
                      have hc_87 := im_2 hI
                      refine lv_iload hx hb dX12_piece___200 (lv_at hl 8 rfl) ?_
                      refine tw_iast hx hb hK hT hF hS 0 (fx_68 hX) (by decide) (fun _ => cl_e78) rfl (z_in hc_87 hbd_68.1 hbd_68.2) dX12_piece___202 (fun H locs hT hS => ?_)
                      obtain ⟨y_88, hy_88, hT⟩ : ∃ z : Nat → Nat → Int32, z = up2 y_85 (a 68) ((y_85 (a 50) 19).toNatClampNeg) p7 ∧ tw (dC, dI) a k τ ln z g H := ⟨_, rfl, hT⟩
                      have hG : ag τ [60, 71, 72, 73, 74, 75, 76, 77, 78, 79, 99] y y_88 := by rw [hy_88]; exact hG.up (fx_68 hX) (by decide)
                      have ha_89 : y_88 (a 63) = y_73 (a 63) := (show y_88 (a 63) = y_85 (a 63) from by rw [hy_88]; exact up2_o (kd_ne (fx_63 hX) (fx_68 hX) (by decide))).trans ha_86
                      have hW : IW (u 1) (u 2) (u 9) (y_88 (a 89)) := by rw [hy_88, up2_o (kd_ne (fx_89 hX) (fx_68 hX) (by decide))]; exact hW
                      have hI := hI.ag (S := [78]) (y' := y_88) (by rw [hy_88]; exact ag.one (fx_68 hX)) (by decide)
                      clear hc_87
                      refine lv_aload_n hx hb dX12_piece___203 rfl (lv_at hl 0 rfl) ?_
                      refine tw_get (D := (dC, dI)) (v := .ref (a 69)) (C := RX12) (T := TX12) (N := 58) hx hb hts (fun _ hh => (List.mem_cons_of_mem _ (List.mem_append_right _ (List.mem_append_left _ hh)))) hown hK hT (fx_50 hX) (by decide) cl_e60 rfl 18 (by decide) (hts (.fieldLink RX12 55 "TypingPoolModel" "copies" "[I") (List.mem_cons_of_mem _ (List.mem_append_left _ (List.mem_of_getElem? (i := 17) rfl)))) (fun _ h9 => h9) rfl dX12_piece___204 ?_
                      refine lv_aload_n hx hb dX12_piece___207 rfl (lv_at hl 0 rfl) ?_
                      refine tw_get (D := (dC, dI)) (v := .int (y_88 (a 50) 19)) (C := RX12) (T := TX12) (N := 58) hx hb hts (fun _ hh => (List.mem_cons_of_mem _ (List.mem_append_right _ (List.mem_append_left _ hh)))) hown hK hT (fx_50 hX) (by decide) cl_e60 rfl 19 (by decide) (hts (.fieldLink RX12 149 "TypingPoolModel" "pieces" "I") (List.mem_cons_of_mem _ (List.mem_append_left _ (List.mem_of_getElem? (i := 8) rfl)))) (fun _ h9 => h9) rfl dX12_piece___208 ?_
                      have hc_90 := im_2 hI
                      refine lv_iload hx hb dX12_piece___211 (lv_at hl 9 rfl) ?_
                      refine tw_iast hx hb hK hT hF hS 0 (fx_69 hX) (by decide) (fun _ => cl_e79) rfl (z_in hc_90 hbd_68.1 hbd_68.2) dX12_piece___213 (fun H locs hT hS => ?_)
                      obtain ⟨y_91, hy_91, hT⟩ : ∃ z : Nat → Nat → Int32, z = up2 y_88 (a 69) ((y_88 (a 50) 19).toNatClampNeg) p8 ∧ tw (dC, dI) a k τ ln z g H := ⟨_, rfl, hT⟩
                      have hG : ag τ [60, 71, 72, 73, 74, 75, 76, 77, 78, 79, 99] y y_91 := by rw [hy_91]; exact hG.up (fx_69 hX) (by decide)
                      have ha_92 : y_91 (a 63) = y_73 (a 63) := (show y_91 (a 63) = y_88 (a 63) from by rw [hy_91]; exact up2_o (kd_ne (fx_63 hX) (fx_69 hX) (by decide))).trans ha_89
                      have hW : IW (u 1) (u 2) (u 9) (y_91 (a 89)) := by rw [hy_91, up2_o (kd_ne (fx_89 hX) (fx_69 hX) (by decide))]; exact hW
                      have hIold := hI
                      have hI := hI.o69 (x := p8) (i := (y_88 (a 50) 19)) hc_90
                      rw [← hy_91] at hI
                      have hvb_93 : vb (u 2 + 1) 0 6 (y_91 (a 69)) := by rw [hy_91, up2_q]; exact vb_up (im_a69 hIold) hc_90 hR.2.2.1.1 rfl (by omega) (by omega)
                      clear hc_90
                      refine lv_aload_n hx hb dX12_piece___214 rfl (lv_at hl 0 rfl) ?_
                      refine lv_aload_n hx hb dX12_piece___215 rfl (lv_at hl 0 rfl) ?_
                      refine tw_get (D := (dC, dI)) (v := .int (y_91 (a 50) 19)) (C := RX12) (T := TX12) (N := 58) hx hb hts (fun _ hh => (List.mem_cons_of_mem _ (List.mem_append_right _ (List.mem_append_left _ hh)))) hown hK hT (fx_50 hX) (by decide) cl_e60 rfl 19 (by decide) (hts (.fieldLink RX12 149 "TypingPoolModel" "pieces" "I") (List.mem_cons_of_mem _ (List.mem_append_left _ (List.mem_of_getElem? (i := 8) rfl)))) (fun _ h9 => h9) rfl dX12_piece___216 ?_
                      have hc_94 := im_2 hI
                      refine lv_iconst (v := 0) hx hb dX12_piece___219 (by decide) ?_
                      refine lv_iconst (v := (-1)) hx hb dX12_piece___220 (by decide) ?_
                      have hacc : (0 ≤ p0.toInt ∧ p0.toInt ≤ 7 ∧ 0 ≤ p1.toInt ∧ p1.toInt ≤ 7 ∧ 1 ≤ p2.toInt ∧ p2.toInt ≤ 400 ∧ 0 ≤ p3.toInt ∧ p3.toInt ≤ 3 ∧ 0 ≤ p4.toInt ∧ p4.toInt ≤ 9 ∧ u 9 ≤ p5.toInt ∧ p5.toInt ≤ 4800 ∧ p5.toInt ≤ p6.toInt ∧ p6.toInt ≤ 4800 ∧ 0 ≤ p7.toInt ∧ p7.toInt ≤ 65535 ∧ 0 ≤ p8.toInt ∧ p8.toInt ≤ 6 ∧ u 2 < 30) := by omega
                      clear hf_5 hf_6 hf_12 hf_13 hf_26 hf_27 hf_33 hf_34 hf_41 hf_42 hf_47 hf_48 hf_54 hf_55
                      have hFc := tw_free hF hS hA
                      have hp_95 : (y_91 (a 50) 19).toInt = u 2 := hc_94
                      have hp_96 : (0 : Int32).toInt = 0 := (zk (x := 0) 0 rfl)
                      have hp_97 : (-1 : Int32).toInt = (-1) := (zk (x := (-1)) (-1) rfl)
                      refine va_callv (va_runV (As := [.int (y_91 (a 50) 19), .int 0, .int (-1)]) (rest := []) ⟨hx, hb, hml, hown, hts⟩ (m_pieceP l dC dI ad av H.size a k τ ln y_91 g u (y_91 (a 50) 19) (0 : Int32) (-1 : Int32) hI (zl0 hc_94 hbd_68.1) (zlt hc_94 hbd_68.2) (by decide) (by decide) hW) (cwV 3 hts (gi_4 (List.mem_cons_of_mem _ (List.mem_append_left _ (List.mem_of_getElem? (i := 18) rfl))) (List.mem_cons_of_mem _ (List.mem_append_left _ (List.mem_of_getElem? (i := 19) rfl))) (List.mem_cons_of_mem _ (List.mem_append_left _ (List.mem_of_getElem? (i := 20) rfl))) (List.mem_cons_of_mem _ (List.mem_append_left _ (List.mem_of_getElem? (i := 3) rfl))) (fun _ hh => (List.mem_cons_of_mem _ (List.mem_append_right _ (List.mem_append_right _ (List.mem_append_right _ (List.mem_append_right _ (List.mem_append_left _ hh))))))) gd_m_pieceP) rfl rfl rfl (by decide +kernel) ⟨Nat.le_of_ble_eq_true rfl, Nat.le_of_ble_eq_true rfl⟩) ⟨pw_blind, tw_recv hK hT (fx_50 hX) (by decide) cl_e60 rfl, pw_use hT hK hFc hS hM⟩ rfl rfl hl.1 rfl (lv_room (Nat.le_of_ble_eq_true rfl)) dX12_piece___221 ⟨Nat.le_of_ble_eq_true rfl, Nat.le_of_ble_eq_true rfl⟩) hS (fun q _ h => hFc q h) hFc (fun u0 t H locs ht hvm hw hB hz1 hk1 hS => ?_)
                      refine W.widen (k := 0) (n := 0) (Nat.le_of_ble_eq_true rfl) (Nat.le_of_ble_eq_true rfl) ?_
                      clear hvm hz1 hk1
                      obtain ⟨i_99, hii_99, hT⟩ := hB
                      rw [ht] at hT
                      clear hp_95 hp_96 hp_97
                      obtain ⟨y_100, hy_100, hT⟩ : ∃ z : Nat → Nat → Int32, z = up2 y_91 (a 89) i_99.toNatClampNeg (-1 : Int32) ∧ tw (dC, dI) a k τ ln z g H := ⟨_, rfl, hT⟩
                      have hG : ag τ [60, 71, 72, 73, 74, 75, 76, 77, 78, 79, 99] y y_100 := by rw [hy_100]; exact hG.up (fx_89 hX) (by decide)
                      have hI := hI.ag (S := [99]) (y' := y_100) (by rw [hy_100]; exact ag.one (fx_89 hX)) (by decide)
                      have hb_101 : i_99.toInt = 49 + 5 * (u 2) + 0 := ec_p hii_99 hc_94 rfl
                      clear hii_99
                      have hxv_102 : (-1 : Int32).toInt = (-1) := (zk (x := (-1)) (-1) rfl)
                      have := rd_pp (v := 3) hy_100 hb_101 hR.2.2.1.1 (by decide)
                      have hW : IW (u 1) (u 2) (u 9) (y_100 (a 89)) := by rw [hy_100, up2_q]; exact iw_p hW hR.2.1.2 hb_101 hR.2.2.1.1 (by decide)
                      have ha_103 : y_100 (a 63) = y_73 (a 63) := (show y_100 (a 63) = y_91 (a 63) from by rw [hy_100]; exact up2_o (kd_ne (fx_63 hX) (fx_89 hX) (by decide))).trans ha_92
                      have ha_104 : y_100 (a 69) = y_91 (a 69) := (show y_100 (a 69) = y_91 (a 69) from by rw [hy_100]; exact up2_o (kd_ne (fx_69 hX) (fx_89 hX) (by decide))).trans rfl
                      clear hc_94
                      refine lv_aload_n hx hb dX12_piece___224 rfl (lv_at hl 0 rfl) ?_
                      refine lv_aload_n hx hb dX12_piece___225 rfl (lv_at hl 0 rfl) ?_
                      refine tw_get (D := (dC, dI)) (v := .int (y_100 (a 50) 19)) (C := RX12) (T := TX12) (N := 58) hx hb hts (fun _ hh => (List.mem_cons_of_mem _ (List.mem_append_right _ (List.mem_append_left _ hh)))) hown hK hT (fx_50 hX) (by decide) cl_e60 rfl 19 (by decide) (hts (.fieldLink RX12 149 "TypingPoolModel" "pieces" "I") (List.mem_cons_of_mem _ (List.mem_append_left _ (List.mem_of_getElem? (i := 8) rfl)))) (fun _ h9 => h9) rfl dX12_piece___226 ?_
                      have hc_105 := im_2 hI
                      refine lv_iconst (v := 1) hx hb dX12_piece___229 (by decide) ?_
                      refine lv_iconst (v := (-1)) hx hb dX12_piece___230 (by decide) ?_
                      have hFc := tw_free hF hS hA
                      have hp_106 : (y_100 (a 50) 19).toInt = u 2 := hc_105
                      have hp_107 : (1 : Int32).toInt = 1 := (zk (x := 1) 1 rfl)
                      have hp_108 : (-1 : Int32).toInt = (-1) := (zk (x := (-1)) (-1) rfl)
                      refine va_callv (va_runV (As := [.int (y_100 (a 50) 19), .int 1, .int (-1)]) (rest := []) ⟨hx, hb, hml, hown, hts⟩ (m_pieceP l dC dI ad av H.size a k τ ln y_100 g u (y_100 (a 50) 19) (1 : Int32) (-1 : Int32) hI (zl0 hc_105 hbd_68.1) (zlt hc_105 hbd_68.2) (by decide) (by decide) hW) (cwV 3 hts (gi_4 (List.mem_cons_of_mem _ (List.mem_append_left _ (List.mem_of_getElem? (i := 18) rfl))) (List.mem_cons_of_mem _ (List.mem_append_left _ (List.mem_of_getElem? (i := 19) rfl))) (List.mem_cons_of_mem _ (List.mem_append_left _ (List.mem_of_getElem? (i := 20) rfl))) (List.mem_cons_of_mem _ (List.mem_append_left _ (List.mem_of_getElem? (i := 3) rfl))) (fun _ hh => (List.mem_cons_of_mem _ (List.mem_append_right _ (List.mem_append_right _ (List.mem_append_right _ (List.mem_append_right _ (List.mem_append_left _ hh))))))) gd_m_pieceP) rfl rfl rfl (by decide +kernel) ⟨Nat.le_of_ble_eq_true rfl, Nat.le_of_ble_eq_true rfl⟩) ⟨pw_blind, tw_recv hK hT (fx_50 hX) (by decide) cl_e60 rfl, pw_use hT hK hFc hS hM⟩ rfl rfl hl.1 rfl (lv_room (Nat.le_of_ble_eq_true rfl)) dX12_piece___231 ⟨Nat.le_of_ble_eq_true rfl, Nat.le_of_ble_eq_true rfl⟩) hS (fun q _ h => hFc q h) hFc (fun u0 t H locs ht hvm hw hB hz1 hk1 hS => ?_)
                      refine W.widen (k := 0) (n := 0) (Nat.le_of_ble_eq_true rfl) (Nat.le_of_ble_eq_true rfl) ?_
                      clear hvm hz1 hk1
                      obtain ⟨i_110, hii_110, hT⟩ := hB
                      rw [ht] at hT
                      clear hp_106 hp_107 hp_108
                      obtain ⟨y_111, hy_111, hT⟩ : ∃ z : Nat → Nat → Int32, z = up2 y_100 (a 89) i_110.toNatClampNeg (-1 : Int32) ∧ tw (dC, dI) a k τ ln z g H := ⟨_, rfl, hT⟩
                      have hG : ag τ [60, 71, 72, 73, 74, 75, 76, 77, 78, 79, 99] y y_111 := by rw [hy_111]; exact hG.up (fx_89 hX) (by decide)
                      have hI := hI.ag (S := [99]) (y' := y_111) (by rw [hy_111]; exact ag.one (fx_89 hX)) (by decide)
                      have hb_112 : i_110.toInt = 49 + 5 * (u 2) + 1 := ec_p hii_110 hc_105 rfl
                      clear hii_110
                      have hxv_113 : (-1 : Int32).toInt = (-1) := (zk (x := (-1)) (-1) rfl)
                      have := rd_pp (v := 3) hy_111 hb_112 hR.2.2.1.1 (by decide)
                      have hW : IW (u 1) (u 2) (u 9) (y_111 (a 89)) := by rw [hy_111, up2_q]; exact iw_p hW hR.2.1.2 hb_112 hR.2.2.1.1 (by decide)
                      have ha_114 : y_111 (a 63) = y_73 (a 63) := (show y_111 (a 63) = y_100 (a 63) from by rw [hy_111]; exact up2_o (kd_ne (fx_63 hX) (fx_89 hX) (by decide))).trans ha_103
                      have ha_115 : y_111 (a 69) = y_91 (a 69) := (show y_111 (a 69) = y_100 (a 69) from by rw [hy_111]; exact up2_o (kd_ne (fx_69 hX) (fx_89 hX) (by decide))).trans ha_104
                      clear hc_105
                      refine lv_aload_n hx hb dX12_piece___234 rfl (lv_at hl 0 rfl) ?_
                      refine lv_aload_n hx hb dX12_piece___235 rfl (lv_at hl 0 rfl) ?_
                      refine tw_get (D := (dC, dI)) (v := .int (y_111 (a 50) 19)) (C := RX12) (T := TX12) (N := 58) hx hb hts (fun _ hh => (List.mem_cons_of_mem _ (List.mem_append_right _ (List.mem_append_left _ hh)))) hown hK hT (fx_50 hX) (by decide) cl_e60 rfl 19 (by decide) (hts (.fieldLink RX12 149 "TypingPoolModel" "pieces" "I") (List.mem_cons_of_mem _ (List.mem_append_left _ (List.mem_of_getElem? (i := 8) rfl)))) (fun _ h9 => h9) rfl dX12_piece___236 ?_
                      have hc_116 := im_2 hI
                      refine lv_iconst (v := 2) hx hb dX12_piece___239 (by decide) ?_
                      refine lv_iconst (v := (-1)) hx hb dX12_piece___240 (by decide) ?_
                      have hFc := tw_free hF hS hA
                      have hp_117 : (y_111 (a 50) 19).toInt = u 2 := hc_116
                      have hp_118 : (2 : Int32).toInt = 2 := (zk (x := 2) 2 rfl)
                      have hp_119 : (-1 : Int32).toInt = (-1) := (zk (x := (-1)) (-1) rfl)
                      refine va_callv (va_runV (As := [.int (y_111 (a 50) 19), .int 2, .int (-1)]) (rest := []) ⟨hx, hb, hml, hown, hts⟩ (m_pieceP l dC dI ad av H.size a k τ ln y_111 g u (y_111 (a 50) 19) (2 : Int32) (-1 : Int32) hI (zl0 hc_116 hbd_68.1) (zlt hc_116 hbd_68.2) (by decide) (by decide) hW) (cwV 3 hts (gi_4 (List.mem_cons_of_mem _ (List.mem_append_left _ (List.mem_of_getElem? (i := 18) rfl))) (List.mem_cons_of_mem _ (List.mem_append_left _ (List.mem_of_getElem? (i := 19) rfl))) (List.mem_cons_of_mem _ (List.mem_append_left _ (List.mem_of_getElem? (i := 20) rfl))) (List.mem_cons_of_mem _ (List.mem_append_left _ (List.mem_of_getElem? (i := 3) rfl))) (fun _ hh => (List.mem_cons_of_mem _ (List.mem_append_right _ (List.mem_append_right _ (List.mem_append_right _ (List.mem_append_right _ (List.mem_append_left _ hh))))))) gd_m_pieceP) rfl rfl rfl (by decide +kernel) ⟨Nat.le_of_ble_eq_true rfl, Nat.le_of_ble_eq_true rfl⟩) ⟨pw_blind, tw_recv hK hT (fx_50 hX) (by decide) cl_e60 rfl, pw_use hT hK hFc hS hM⟩ rfl rfl hl.1 rfl (lv_room (Nat.le_of_ble_eq_true rfl)) dX12_piece___241 ⟨Nat.le_of_ble_eq_true rfl, Nat.le_of_ble_eq_true rfl⟩) hS (fun q _ h => hFc q h) hFc (fun u0 t H locs ht hvm hw hB hz1 hk1 hS => ?_)
                      refine W.widen (k := 0) (n := 0) (Nat.le_of_ble_eq_true rfl) (Nat.le_of_ble_eq_true rfl) ?_
                      clear hvm hz1 hk1
                      obtain ⟨i_121, hii_121, hT⟩ := hB
                      rw [ht] at hT
                      clear hp_117 hp_118 hp_119
                      obtain ⟨y_122, hy_122, hT⟩ : ∃ z : Nat → Nat → Int32, z = up2 y_111 (a 89) i_121.toNatClampNeg (-1 : Int32) ∧ tw (dC, dI) a k τ ln z g H := ⟨_, rfl, hT⟩
                      have hG : ag τ [60, 71, 72, 73, 74, 75, 76, 77, 78, 79, 99] y y_122 := by rw [hy_122]; exact hG.up (fx_89 hX) (by decide)
                      have hI := hI.ag (S := [99]) (y' := y_122) (by rw [hy_122]; exact ag.one (fx_89 hX)) (by decide)
                      have hb_123 : i_121.toInt = 49 + 5 * (u 2) + 2 := ec_p hii_121 hc_116 rfl
                      clear hii_121
                      have hxv_124 : (-1 : Int32).toInt = (-1) := (zk (x := (-1)) (-1) rfl)
                      have := rd_pp (v := 3) hy_122 hb_123 hR.2.2.1.1 (by decide)
                      have hW : IW (u 1) (u 2) (u 9) (y_122 (a 89)) := by rw [hy_122, up2_q]; exact iw_p hW hR.2.1.2 hb_123 hR.2.2.1.1 (by decide)
                      have ha_125 : y_122 (a 63) = y_73 (a 63) := (show y_122 (a 63) = y_111 (a 63) from by rw [hy_122]; exact up2_o (kd_ne (fx_63 hX) (fx_89 hX) (by decide))).trans ha_114
                      have ha_126 : y_122 (a 69) = y_91 (a 69) := (show y_122 (a 69) = y_111 (a 69) from by rw [hy_122]; exact up2_o (kd_ne (fx_69 hX) (fx_89 hX) (by decide))).trans ha_115
                      clear hc_116
                      refine lv_aload_n hx hb dX12_piece___244 rfl (lv_at hl 0 rfl) ?_
                      refine lv_aload_n hx hb dX12_piece___245 rfl (lv_at hl 0 rfl) ?_
                      refine tw_get (D := (dC, dI)) (v := .int (y_122 (a 50) 19)) (C := RX12) (T := TX12) (N := 58) hx hb hts (fun _ hh => (List.mem_cons_of_mem _ (List.mem_append_right _ (List.mem_append_left _ hh)))) hown hK hT (fx_50 hX) (by decide) cl_e60 rfl 19 (by decide) (hts (.fieldLink RX12 149 "TypingPoolModel" "pieces" "I") (List.mem_cons_of_mem _ (List.mem_append_left _ (List.mem_of_getElem? (i := 8) rfl)))) (fun _ h9 => h9) rfl dX12_piece___246 ?_
                      have hc_127 := im_2 hI
                      refine lv_iconst (v := 3) hx hb dX12_piece___249 (by decide) ?_
                      refine lv_aload_n hx hb dX12_piece___250 rfl (lv_at hl 0 rfl) ?_
                      refine lv_aload_n hx hb dX12_piece___251 rfl (lv_at hl 0 rfl) ?_
                      refine tw_get (D := (dC, dI)) (v := .int (y_122 (a 50) 19)) (C := RX12) (T := TX12) (N := 58) hx hb hts (fun _ hh => (List.mem_cons_of_mem _ (List.mem_append_right _ (List.mem_append_left _ hh)))) hown hK hT (fx_50 hX) (by decide) cl_e60 rfl 19 (by decide) (hts (.fieldLink RX12 149 "TypingPoolModel" "pieces" "I") (List.mem_cons_of_mem _ (List.mem_append_left _ (List.mem_of_getElem? (i := 8) rfl)))) (fun _ h9 => h9) rfl dX12_piece___252 ?_
                      have hc_128 := im_2 hI
                      have hFc := tw_free hF hS hA
                      have hp_129 : (y_122 (a 50) 19).toInt = u 2 := hc_128
                      refine va_calli (va_runV (As := [.int (y_122 (a 50) 19)]) (rest := [.int 3, .int (y_122 (a 50) 19), .ref (a 50)]) ⟨hx, hb, hml, hown, hts⟩ (m_work l dC dI ad av H.size a k τ ln y_122 g u (y_122 (a 50) 19) hI (zl0 hc_128 hbd_68.1) (zlt hc_128 hbd_68.2) (vb_at (show vb (u 2 + 1) 1 400 (y_122 (a 63)) from (ha_125).symm ▸ hvb_74) (x := (y_122 (a 50) 19)) hc_128 (by omega) (by omega)) (vb_at (show vb (u 2 + 1) 0 6 (y_122 (a 69)) from (ha_126).symm ▸ hvb_93) (x := (y_122 (a 50) 19)) hc_128 (by omega) (by omega)) hW) (cwV 1 hts (gi_4 (List.mem_cons_of_mem _ (List.mem_append_left _ (List.mem_of_getElem? (i := 21) rfl))) (List.mem_cons_of_mem _ (List.mem_append_left _ (List.mem_of_getElem? (i := 22) rfl))) (List.mem_cons_of_mem _ (List.mem_append_left _ (List.mem_of_getElem? (i := 23) rfl))) (List.mem_cons_of_mem _ (List.mem_append_left _ (List.mem_of_getElem? (i := 3) rfl))) (fun _ hh => (List.mem_cons_of_mem _ (List.mem_append_right _ (List.mem_append_right _ (List.mem_append_right _ (List.mem_append_right _ (List.mem_append_right _ (List.mem_append_left _ hh)))))))) gd_m_work) rfl rfl rfl (by decide +kernel) ⟨Nat.le_of_ble_eq_true rfl, Nat.le_of_ble_eq_true rfl⟩) ⟨pw_blind, tw_recv hK hT (fx_50 hX) (by decide) cl_e60 rfl, pw_use hT hK hFc hS hM⟩ rfl rfl hl.1 rfl (lv_room (Nat.le_of_ble_eq_true rfl)) dX12_piece___255 ⟨Nat.le_of_ble_eq_true rfl, Nat.le_of_ble_eq_true rfl⟩) hS (fun q _ h => hFc q h) hFc (fun r0 r_130 t H locs ht hvm hw hB hz1 hk1 hS => ?_)
                      refine W.widen (k := 0) (n := 0) (Nat.le_of_ble_eq_true rfl) (Nat.le_of_ble_eq_true rfl) ?_
                      clear hvm hz1 hk1
                      subst hw
                      obtain ⟨hf_131, hf_132, hT⟩ := hB
                      rw [ht] at hT
                      have hFc := tw_free hF hS hA
                      have hp_133 : (y_122 (a 50) 19).toInt = u 2 := hc_127
                      have hp_134 : (3 : Int32).toInt = 3 := (zk (x := 3) 3 rfl)
                      refine va_callv (va_runV (As := [.int (y_122 (a 50) 19), .int 3, .int r_130]) (rest := []) ⟨hx, hb, hml, hown, hts⟩ (m_pieceP l dC dI ad av H.size a k τ ln y_122 g u (y_122 (a 50) 19) (3 : Int32) r_130 hI (zl0 hc_127 hbd_68.1) (zlt hc_127 hbd_68.2) (by decide) (by decide) hW) (cwV 3 hts (gi_4 (List.mem_cons_of_mem _ (List.mem_append_left _ (List.mem_of_getElem? (i := 18) rfl))) (List.mem_cons_of_mem _ (List.mem_append_left _ (List.mem_of_getElem? (i := 19) rfl))) (List.mem_cons_of_mem _ (List.mem_append_left _ (List.mem_of_getElem? (i := 20) rfl))) (List.mem_cons_of_mem _ (List.mem_append_left _ (List.mem_of_getElem? (i := 3) rfl))) (fun _ hh => (List.mem_cons_of_mem _ (List.mem_append_right _ (List.mem_append_right _ (List.mem_append_right _ (List.mem_append_right _ (List.mem_append_left _ hh))))))) gd_m_pieceP) rfl rfl rfl (by decide +kernel) ⟨Nat.le_of_ble_eq_true rfl, Nat.le_of_ble_eq_true rfl⟩) ⟨pw_blind, tw_recv hK hT (fx_50 hX) (by decide) cl_e60 rfl, pw_use hT hK hFc hS hM⟩ rfl rfl hl.1 rfl (lv_room (Nat.le_of_ble_eq_true rfl)) dX12_piece___258 ⟨Nat.le_of_ble_eq_true rfl, Nat.le_of_ble_eq_true rfl⟩) hS (fun q _ h => hFc q h) hFc (fun u0 t H locs ht hvm hw hB hz1 hk1 hS => ?_)
                      refine W.widen (k := 0) (n := 0) (Nat.le_of_ble_eq_true rfl) (Nat.le_of_ble_eq_true rfl) ?_
                      clear hvm hz1 hk1
                      obtain ⟨i_136, hii_136, hT⟩ := hB
                      rw [ht] at hT
                      clear hp_133 hp_134
                      obtain ⟨y_137, hy_137, hT⟩ : ∃ z : Nat → Nat → Int32, z = up2 y_122 (a 89) i_136.toNatClampNeg r_130 ∧ tw (dC, dI) a k τ ln z g H := ⟨_, rfl, hT⟩
                      have hG : ag τ [60, 71, 72, 73, 74, 75, 76, 77, 78, 79, 99] y y_137 := by rw [hy_137]; exact hG.up (fx_89 hX) (by decide)
                      have hI := hI.ag (S := [99]) (y' := y_137) (by rw [hy_137]; exact ag.one (fx_89 hX)) (by decide)
                      have hb_138 : i_136.toInt = 49 + 5 * (u 2) + 3 := ec_p hii_136 hc_127 rfl
                      clear hii_136
                      have hxv_139 : r_130.toInt = r_130.toInt := rfl
                      have := rd_i (m := 49 + 5 * (u 2) + 3) hy_137 hb_138 (by omega) hxv_139
                      have hW : IW (u 1) (u 2) (u 9) (y_137 (a 89)) := by rw [hy_137, up2_q]; exact iw_l hW hR.2.1.2 hb_138 (by omega) hxv_139 (by omega)
                      have ha_140 : y_137 (a 63) = y_73 (a 63) := (show y_137 (a 63) = y_122 (a 63) from by rw [hy_137]; exact up2_o (kd_ne (fx_63 hX) (fx_89 hX) (by decide))).trans ha_125
                      have ha_141 : y_137 (a 69) = y_91 (a 69) := (show y_137 (a 69) = y_122 (a 69) from by rw [hy_137]; exact up2_o (kd_ne (fx_69 hX) (fx_89 hX) (by decide))).trans ha_126
                      clear hc_127 hc_128
                      refine lv_aload_n hx hb dX12_piece___261 rfl (lv_at hl 0 rfl) ?_
                      refine lv_dup hx hb dX12_piece___262 rfl ?_
                      refine tw_get (D := (dC, dI)) (v := .int (y_137 (a 50) 19)) (C := RX12) (T := TX12) (N := 58) hx hb hts (fun _ hh => (List.mem_cons_of_mem _ (List.mem_append_right _ (List.mem_append_left _ hh)))) hown hK hT (fx_50 hX) (by decide) cl_e60 rfl 19 (by decide) (hts (.fieldLink RX12 149 "TypingPoolModel" "pieces" "I") (List.mem_cons_of_mem _ (List.mem_append_left _ (List.mem_of_getElem? (i := 8) rfl)))) (fun _ h9 => h9) rfl dX12_piece___263 ?_
                      have hc_142 := im_2 hI
                      refine lv_iconst (v := 1) hx hb dX12_piece___266 (by decide) ?_
                      refine lv_iadd hx hb dX12_piece___267 ?_
                      refine lv_topi (fun x_143 ex_143 => ?_)
                      have hx_143 := z_add ex_143 hc_142 (zk (x := 1) 1 rfl) (by omega) (by omega)
                      refine tw_put (D := (dC, dI)) (x := x_143) (ty := .int) (C := RX12) (T := TX12) (N := 58) hx hb hts (fun _ hh => (List.mem_cons_of_mem _ (List.mem_append_right _ (List.mem_append_left _ hh)))) tyX12 tyX12_ok nmX12 hown hK hT hF hS (fx_50 hX) (by decide) cl_e60 rfl 19 (by decide) (hts (.fieldLink RX12 149 "TypingPoolModel" "pieces" "I") (List.mem_cons_of_mem _ (List.mem_append_left _ (List.mem_of_getElem? (i := 8) rfl)))) (fun _ h9 => h9) rfl (tyX12_ok 19 (by decide)) rfl rfl (Nat.le_of_ble_eq_true rfl) rfl dX12_piece___268 (fun H locs hT hS => ?_)
                      obtain ⟨y_144, hy_144, hT⟩ : ∃ z : Nat → Nat → Int32, z = up2 y_137 (a 50) 19 x_143 ∧ tw (dC, dI) a k τ ln z g H := ⟨_, rfl, hT⟩
                      have hG : ag τ [60, 71, 72, 73, 74, 75, 76, 77, 78, 79, 99] y y_144 := by rw [hy_144]; exact hG.up (fx_50 hX) (by decide)
                      have ha_145 : y_144 (a 63) = y_73 (a 63) := (show y_144 (a 63) = y_137 (a 63) from by rw [hy_144]; exact up2_o (kd_ne (fx_63 hX) (fx_50 hX) (by decide))).trans ha_140
                      have ha_146 : y_144 (a 69) = y_91 (a 69) := (show y_144 (a 69) = y_137 (a 69) from by rw [hy_144]; exact up2_o (kd_ne (fx_69 hX) (fx_50 hX) (by decide))).trans ha_141
                      have hW : IW (u 1) (u 2) (u 9) (y_144 (a 89)) := by rw [hy_144, up2_o (kd_ne (fx_89 hX) (fx_50 hX) (by decide))]; exact hW
                      have hp_147 : x_143.toInt = x_143.toInt := rfl
                      have hI := hI.set2 hp_147 (by omega) (by omega) (by rw [show x_143.toInt = u 2 + 1 from by omega]; exact ((ha_140).symm ▸ hvb_74)) (by rw [show x_143.toInt = u 2 + 1 from by omega]; exact ((ha_141).symm ▸ hvb_93))
                      rw [← hy_144] at hI
                      have hW : IW ((upc u 2 x_143.toInt) 1) ((upc u 2 x_143.toInt) 2) ((upc u 2 x_143.toInt) 9) (y_144 (a 89)) := iw_u (iw_np hW (by omega) (by rw [show y_144 (a 89) = y_137 (a 89) from by rw [hy_144]; exact up2_o (kd_ne (fx_89 hX) (fx_50 hX) (by decide)), show (52 + 5 * u 2 : Int) = 49 + 5 * (u 2) + 3 by omega]; omega)) (by simp [upc]) (by rw [upc_i]; omega) (by simp [upc])
                      clear hc_142
                      refine lv_aload_n hx hb dX12_piece___271 rfl (lv_at hl 0 rfl) ?_
                      refine tw_get (D := (dC, dI)) (v := .int (y_144 (a 50) 19)) (C := RX12) (T := TX12) (N := 58) hx hb hts (fun _ hh => (List.mem_cons_of_mem _ (List.mem_append_right _ (List.mem_append_left _ hh)))) hown hK hT (fx_50 hX) (by decide) cl_e60 rfl 19 (by decide) (hts (.fieldLink RX12 149 "TypingPoolModel" "pieces" "I") (List.mem_cons_of_mem _ (List.mem_append_left _ (List.mem_of_getElem? (i := 8) rfl)))) (fun _ h9 => h9) rfl dX12_piece___272 ?_
                      have hc_148 : (y_144 (a 50) 19).toInt = x_143.toInt := by rw [im_2 hI]; simp [upc]
                      refine lv_iconst (v := 1) hx hb dX12_piece___275 (by decide) ?_
                      refine lv_isub hx hb dX12_piece___276 ?_
                      refine lv_topi (fun x_149 ex_149 => ?_)
                      have hx_149 := z_sub ex_149 hc_148 (zk (x := 1) 1 rfl) (by omega) (by omega)
                      have hrv : x_149.toInt = x_149.toInt := rfl
                      exact W.iret (v := x_149) hx hb hr (fun t ht hW9 => ⟨⟨x_149, x_149, rfl, rfl, Or.inr (⟨(upc u 2 x_143.toInt), y_144, g, (by intro i hi; simp only [List.mem_cons, List.not_mem_nil, or_false, not_or] at hi; unfold upc; repeat rw [if_neg (by omega)]), hG, hGg, hI, hW, by omega, by omega, (by rw [upc_i]; omega), tw_at ht hT⟩)⟩, hS.F ht⟩) hS.2.2 dX12_piece___277
                    · have nc_66 := z_eq hc_65 (zk (x := 30) 30 rfl) c_66
                      refine lv_iconst (v := (-1)) hx hb dX12_piece___116 (by decide) ?_
                      have hrv : (-1 : Int32).toInt = (-1) := (zk (x := (-1)) (-1) rfl)
                      exact W.iret (v := (-1)) hx hb hr (fun t ht hW9 => ⟨⟨(-1), (-1), rfl, rfl, Or.inl ⟨u, y_1, g, rfl, fun _ _ => rfl, hG, hGg, hI, hW, by omega, by omega, tw_at ht hT⟩⟩, hS.F ht⟩) hS.2.2 dX12_piece___117
                  · refine lq_top (v := 0) hre ?_
                    rw [ht] at hT
                    try simp only [hp_58, hp_59] at hf_63
                    clear hp_58 hp_59
                    refine lv_if_eq (tgt := 116) hx hb dX12_piece___104 (by decide) (fun c_150 => ?_) (fun c_150 => absurd c_150 (by decide))
                    refine lv_iconst (v := (-1)) hx hb dX12_piece___116 (by decide) ?_
                    have hrv : (-1 : Int32).toInt = (-1) := (zk (x := (-1)) (-1) rfl)
                    exact W.iret (v := (-1)) hx hb hr (fun t ht hW9 => ⟨⟨(-1), (-1), rfl, rfl, Or.inl ⟨u, y_1, g, rfl, fun _ _ => rfl, hG, hGg, hI, hW, by omega, by omega, tw_at ht hT⟩⟩, hS.F ht⟩) hS.2.2 dX12_piece___117
                · refine lq_top (v := 0) hre ?_
                  rw [ht] at hT
                  try simp only [hp_51, hp_52] at hf_56
                  clear hp_51 hp_52
                  refine lv_if_eq (tgt := 116) hx hb dX12_piece___93 (by decide) (fun c_151 => ?_) (fun c_151 => absurd c_151 (by decide))
                  refine lv_iconst (v := (-1)) hx hb dX12_piece___116 (by decide) ?_
                  have hrv : (-1 : Int32).toInt = (-1) := (zk (x := (-1)) (-1) rfl)
                  exact W.iret (v := (-1)) hx hb hr (fun t ht hW9 => ⟨⟨(-1), (-1), rfl, rfl, Or.inl ⟨u, y_1, g, rfl, fun _ _ => rfl, hG, hGg, hI, hW, by omega, by omega, tw_at ht hT⟩⟩, hS.F ht⟩) hS.2.2 dX12_piece___117
              · refine lq_top (v := 0) hre ?_
                rw [ht] at hT
                try simp only [hp_45] at hf_49
                clear hp_45
                refine lv_if_eq (tgt := 116) hx hb dX12_piece___82 (by decide) (fun c_152 => ?_) (fun c_152 => absurd c_152 (by decide))
                refine lv_iconst (v := (-1)) hx hb dX12_piece___116 (by decide) ?_
                have hrv : (-1 : Int32).toInt = (-1) := (zk (x := (-1)) (-1) rfl)
                exact W.iret (v := (-1)) hx hb hr (fun t ht hW9 => ⟨⟨(-1), (-1), rfl, rfl, Or.inl ⟨u, y_1, g, rfl, fun _ _ => rfl, hG, hGg, hI, hW, by omega, by omega, tw_at ht hT⟩⟩, hS.F ht⟩) hS.2.2 dX12_piece___117
            · refine lq_top (v := 0) hre ?_
              rw [ht] at hT
              try simp only [hp_39] at hf_43
              clear hp_39
              refine lv_if_eq (tgt := 116) hx hb dX12_piece___69 (by decide) (fun c_153 => ?_) (fun c_153 => absurd c_153 (by decide))
              refine lv_iconst (v := (-1)) hx hb dX12_piece___116 (by decide) ?_
              have hrv : (-1 : Int32).toInt = (-1) := (zk (x := (-1)) (-1) rfl)
              exact W.iret (v := (-1)) hx hb hr (fun t ht hW9 => ⟨⟨(-1), (-1), rfl, rfl, Or.inl ⟨u, y_1, g, rfl, fun _ _ => rfl, hG, hGg, hI, hW, by omega, by omega, tw_at ht hT⟩⟩, hS.F ht⟩) hS.2.2 dX12_piece___117
          · refine lq_top (v := 0) hre ?_
            rw [ht] at hT
            try simp only [hp_30, hp_31] at hf_35
            clear hp_30 hp_31
            refine lv_if_eq (tgt := 116) hx hb dX12_piece___54 (by decide) (fun c_154 => ?_) (fun c_154 => absurd c_154 (by decide))
            refine lv_iconst (v := (-1)) hx hb dX12_piece___116 (by decide) ?_
            have hrv : (-1 : Int32).toInt = (-1) := (zk (x := (-1)) (-1) rfl)
            exact W.iret (v := (-1)) hx hb hr (fun t ht hW9 => ⟨⟨(-1), (-1), rfl, rfl, Or.inl ⟨u, y_1, g, rfl, fun _ _ => rfl, hG, hGg, hI, hW, by omega, by omega, tw_at ht hT⟩⟩, hS.F ht⟩) hS.2.2 dX12_piece___117
        · refine lq_top (v := 0) hre ?_
          rw [ht] at hT
          try simp only [hp_23, hp_24] at hf_28
          clear hp_23 hp_24
          refine lv_if_eq (tgt := 116) hx hb dX12_piece___43 (by decide) (fun c_155 => ?_) (fun c_155 => absurd c_155 (by decide))
          refine lv_iconst (v := (-1)) hx hb dX12_piece___116 (by decide) ?_
          have hrv : (-1 : Int32).toInt = (-1) := (zk (x := (-1)) (-1) rfl)
          exact W.iret (v := (-1)) hx hb hr (fun t ht hW9 => ⟨⟨(-1), (-1), rfl, rfl, Or.inl ⟨u, y_1, g, rfl, fun _ _ => rfl, hG, hGg, hI, hW, by omega, by omega, tw_at ht hT⟩⟩, hS.F ht⟩) hS.2.2 dX12_piece___117
      · refine lq_top (v := 0) hre ?_
        rw [ht] at hT
        try simp only [hp_16, hp_17] at hf_21
        clear hp_16 hp_17
        refine lv_if_eq (tgt := 116) hx hb dX12_piece___33 (by decide) (fun c_156 => ?_) (fun c_156 => absurd c_156 (by decide))
        refine lv_iconst (v := (-1)) hx hb dX12_piece___116 (by decide) ?_
        have hrv : (-1 : Int32).toInt = (-1) := (zk (x := (-1)) (-1) rfl)
        exact W.iret (v := (-1)) hx hb hr (fun t ht hW9 => ⟨⟨(-1), (-1), rfl, rfl, Or.inl ⟨u, y_1, g, rfl, fun _ _ => rfl, hG, hGg, hI, hW, by omega, by omega, tw_at ht hT⟩⟩, hS.F ht⟩) hS.2.2 dX12_piece___117
    · refine lq_top (v := 0) hre ?_
      rw [ht] at hT
      try simp only [hp_9, hp_10] at hf_14
      clear hp_9 hp_10
      refine lv_if_eq (tgt := 116) hx hb dX12_piece___22 (by decide) (fun c_157 => ?_) (fun c_157 => absurd c_157 (by decide))
      refine lv_iconst (v := (-1)) hx hb dX12_piece___116 (by decide) ?_
      have hrv : (-1 : Int32).toInt = (-1) := (zk (x := (-1)) (-1) rfl)
      exact W.iret (v := (-1)) hx hb hr (fun t ht hW9 => ⟨⟨(-1), (-1), rfl, rfl, Or.inl ⟨u, y_1, g, rfl, fun _ _ => rfl, hG, hGg, hI, hW, by omega, by omega, tw_at ht hT⟩⟩, hS.F ht⟩) hS.2.2 dX12_piece___117
  · refine lq_top (v := 0) hre ?_
    rw [ht] at hT
    try simp only [hp_2, hp_3] at hf_7
    clear hp_2 hp_3
    refine lv_if_eq (tgt := 116) hx hb dX12_piece___12 (by decide) (fun c_158 => ?_) (fun c_158 => absurd c_158 (by decide))
    refine lv_iconst (v := (-1)) hx hb dX12_piece___116 (by decide) ?_
    have hrv : (-1 : Int32).toInt = (-1) := (zk (x := (-1)) (-1) rfl)
    exact W.iret (v := (-1)) hx hb hr (fun t ht hW9 => ⟨⟨(-1), (-1), rfl, rfl, Or.inl ⟨u, y_1, g, rfl, fun _ _ => rfl, hG, hGg, hI, hW, by omega, by omega, tw_at ht hT⟩⟩, hS.F ht⟩) hS.2.2 dX12_piece___117
def wo_m_sign : List Cond := [.fieldLink RX12 139 "TypingPoolModel" "thrown" "I", .fieldLink RX12 177 "TypingPoolModel" "typed" "I", .fieldLink RX12 101 "TypingPoolModel" "text" "[B"]
def wm_m_sign : List Cond := .code yX12_sign cX12_sign 3 (some .int) :: (wo_m_sign ++ (wsX120 ++ ([] : List Cond)))
theorem gd_m_sign : ∀ w ∈ wm_m_sign, goodWord w = true := gd_c rfl (gd_a (by decide) (gd_a gd_wsX120 gd_nil))
set_option maxRecDepth 20000 in
theorem im_m_sign : ∀ w ∈ wm_m_sign, w ∈ lw_tbl := im_c (in_r [.code yX12_sign cX12_sign 3 (some .int)] [1459] (by decide +kernel)) (in_app (in_r wo_m_sign [1278, 1275, 1274] (by decide +kernel)) (in_app im_wsX120 im_nil))
set_option maxHeartbeats 4000000 in
set_option maxRecDepth 100000 in
theorem m_sign (l : Launch) (dC : Nat → ClassId) (dI : Nat → Nat → Nat) (ad av : Nat → Nat) (sz : Nat) (a : Nat → Nat) (k : Nat → ClassId) (τ ln : Nat → Nat) (y : Nat → Nat → Int32) (g : Nat → Nat → Option Nat) (u : Nat → Int) (p0 : Int32) (hI : IM a u τ y) (hW : IW (u 1) (u 2) (u 9) (y (a 89))) : Met l yX12_sign wm_m_sign ({ frames := 0, cells := 0, slots := 0, locals := 0 }) (pw_ ad av (dC, dI) sz [.ref (a 50), .int p0] a k τ ln y g) (va_Qi (fun (r u : Int32) => u = r) (fun (r : Int32) (t : State) => (∃ (u' : Nat → Int) (y' : Nat → Nat → Int32) (g' : Nat → Nat → Option Nat), (∀ i, i ∉ ([6] : List Nat) → u' i = u i) ∧ ag τ [60, 94] y y' ∧ agg τ g g' ∧ IM a u' τ y' ∧ tw (dC, dI) a k τ ln y' g' t.heap)) (fr τ sz)) 0 0 (fr τ sz) := by
  refine Met.ofW (cc := cX12_sign) (maxL := 3) (ret := (some .int)) (by decide) rfl ?_
  intro p e s m args below meth c s₁ B hml hv
  obtain ⟨rfl, hsz, hT, hK, hM⟩ := hv
  have hx := B.exec
  have hb := B.bytes
  have hr := B.returns
  have hts := atoms_spec (ws := wm_m_sign) B.pre
  have hown : s.vm.findClass RX12 = some m.cls := findClass_of_methodNamed B.named
  have hlocks := B.notSynchronized
  subst hsz
  generalize hAe : fr τ s.heap.size = A at hM ⊢
  have hA : ∀ q : Nat, s.heap.size ≤ q → A q := fun q h => by rw [← hAe]; exact Or.inr h
  have hF : ∀ q, τ q ≠ 0 → A q := fun q h => by rw [← hAe]; exact Or.inl h
  have hS : va_S A s.heap s.heap [] := va_S.rf
  have hX := hI.1
  have hR := im_r hI
  have hG : ag τ [60, 94] y y := ag.rf
  have hGg : agg τ g g := agg.rf
  have hl := lv_entry ([.ref (a 50), .int p0]) (n := 3) (Nat.le_of_ble_eq_true rfl)
  rw [lg_entry_eq]
  generalize (lg_sl ([.ref (a 50), .int p0]) ++ List.replicate (3 - (lg_sl ([.ref (a 50), .int p0])).length) Slot.unset).toArray = ls at hl ⊢
  have hl : lv_has ls 3 [(0, .ref (a 50)), (1, .int p0)] := hl
  refine lv_aload_n hx hb dX12_sign_0 rfl (lv_at hl 0 rfl) ?_
  refine lv_iconst (v := 0) hx hb dX12_sign_1 (by decide) ?_
  refine tw_put (D := (dC, dI)) (x := 0) (ty := .int) (C := RX12) (T := TX12) (N := 58) hx hb hts (fun _ hh => (List.mem_cons_of_mem _ (List.mem_append_right _ (List.mem_append_left _ hh)))) tyX12 tyX12_ok nmX12 hown hK hT hF hS (fx_50 hX) (by decide) cl_e60 rfl 37 (by decide) (hts (.fieldLink RX12 139 "TypingPoolModel" "thrown" "I") (List.mem_cons_of_mem _ (List.mem_append_left _ (List.mem_of_getElem? (i := 0) rfl)))) (fun _ h9 => h9) rfl (tyX12_ok 37 (by decide)) rfl rfl (Nat.le_of_ble_eq_true rfl) rfl dX12_sign_2 (fun H locs hT hS => ?_)
  obtain ⟨y_1, hy_1, hT⟩ : ∃ z : Nat → Nat → Int32, z = up2 y (a 50) 37 (0 : Int32) ∧ tw (dC, dI) a k τ ln z g H := ⟨_, rfl, hT⟩
  have hG : ag τ [60, 94] y y_1 := by rw [hy_1]; exact hG.up (fx_50 hX) (by decide)
  have hW : IW (u 1) (u 2) (u 9) (y_1 (a 89)) := by rw [hy_1, up2_o (kd_ne (fx_89 hX) (fx_50 hX) (by decide))]; exact hW
  have hI := hI.put (f := 37) (x := (0 : Int32)) (by decide)
  rw [← hy_1] at hI
  refine lv_aload_n hx hb dX12_sign_5 rfl (lv_at hl 0 rfl) ?_
  refine tw_get (D := (dC, dI)) (v := .int (y_1 (a 50) 34)) (C := RX12) (T := TX12) (N := 58) hx hb hts (fun _ hh => (List.mem_cons_of_mem _ (List.mem_append_right _ (List.mem_append_left _ hh)))) hown hK hT (fx_50 hX) (by decide) cl_e60 rfl 34 (by decide) (hts (.fieldLink RX12 177 "TypingPoolModel" "typed" "I") (List.mem_cons_of_mem _ (List.mem_append_left _ (List.mem_of_getElem? (i := 1) rfl)))) (fun _ h9 => h9) rfl dX12_sign_6 ?_
  have hc_2 := im_6 hI
  refine lv_iconst (v := 4) hx hb dX12_sign_9 (by decide) ?_
  refine lv_iadd hx hb dX12_sign_10 ?_
  refine lv_topi (fun x_3 ex_3 => ?_)
  have hx_3 := z_add ex_3 hc_2 (zk (x := 4) 4 rfl) (by omega) (by omega)
  refine lv_bipush (v := 100) hx hb dX12_sign_11 (by decide) ?_
  refine lv_icmp_le (tgt := 18) hx hb dX12_sign_13 (by decide) (fun c_4 => ?_) (fun c_4 => ?_)
  · have nc_4 := z_le rfl (zk (x := 100) 100 rfl) c_4
    refine lv_iconst (v := 3) hx hb dX12_sign_18 (by decide) ?_
    refine lv_istore_n (lv' := [(2, .int 3), (0, .ref (a 50)), (1, .int p0)]) hx hb dX12_sign_19 rfl hl (by decide) rfl (fun ls hl => ?_)
    refine lv_iload_n hx hb dX12_sign_20 rfl (lv_at hl 0 rfl) ?_
    refine lv_if_lt (tgt := 53) hx hb dX12_sign_21 (by decide) (fun c_5 => absurd c_5 (by decide)) (fun c_5 => ?_)
    refine lv_aload_n hx hb dX12_sign_24 rfl (lv_at hl 1 rfl) ?_
    refine tw_get (D := (dC, dI)) (v := .ref (a 84)) (C := RX12) (T := TX12) (N := 58) hx hb hts (fun _ hh => (List.mem_cons_of_mem _ (List.mem_append_right _ (List.mem_append_left _ hh)))) hown hK hT (fx_50 hX) (by decide) cl_e60 rfl 33 (by decide) (hts (.fieldLink RX12 101 "TypingPoolModel" "text" "[B") (List.mem_cons_of_mem _ (List.mem_append_left _ (List.mem_of_getElem? (i := 2) rfl)))) (fun _ h9 => h9) rfl dX12_sign_25 ?_
    refine lv_aload_n hx hb dX12_sign_28 rfl (lv_at hl 1 rfl) ?_
    refine lv_dup hx hb dX12_sign_29 rfl ?_
    refine tw_get (D := (dC, dI)) (v := .int (y_1 (a 50) 34)) (C := RX12) (T := TX12) (N := 58) hx hb hts (fun _ hh => (List.mem_cons_of_mem _ (List.mem_append_right _ (List.mem_append_left _ hh)))) hown hK hT (fx_50 hX) (by decide) cl_e60 rfl 34 (by decide) (hts (.fieldLink RX12 177 "TypingPoolModel" "typed" "I") (List.mem_cons_of_mem _ (List.mem_append_left _ (List.mem_of_getElem? (i := 1) rfl)))) (fun _ h9 => h9) rfl dX12_sign_30 ?_
    have hc_6 := im_6 hI
    refine lv_dup_x1 hx hb dX12_sign_33 rfl rfl ?_
    refine lv_iconst (v := 1) hx hb dX12_sign_34 (by decide) ?_
    refine lv_iadd hx hb dX12_sign_35 ?_
    refine lv_topi (fun x_7 ex_7 => ?_)
    have hx_7 := z_add ex_7 hc_6 (zk (x := 1) 1 rfl) (by omega) (by omega)
    refine tw_put (D := (dC, dI)) (x := x_7) (ty := .int) (C := RX12) (T := TX12) (N := 58) hx hb hts (fun _ hh => (List.mem_cons_of_mem _ (List.mem_append_right _ (List.mem_append_left _ hh)))) tyX12 tyX12_ok nmX12 hown hK hT hF hS (fx_50 hX) (by decide) cl_e60 rfl 34 (by decide) (hts (.fieldLink RX12 177 "TypingPoolModel" "typed" "I") (List.mem_cons_of_mem _ (List.mem_append_left _ (List.mem_of_getElem? (i := 1) rfl)))) (fun _ h9 => h9) rfl (tyX12_ok 34 (by decide)) rfl rfl (Nat.le_of_ble_eq_true rfl) rfl dX12_sign_36 (fun H locs hT hS => ?_)
    obtain ⟨y_8, hy_8, hT⟩ : ∃ z : Nat → Nat → Int32, z = up2 y_1 (a 50) 34 x_7 ∧ tw (dC, dI) a k τ ln z g H := ⟨_, rfl, hT⟩
    have hG : ag τ [60, 94] y y_8 := by rw [hy_8]; exact hG.up (fx_50 hX) (by decide)
    have hW : IW (u 1) (u 2) (u 9) (y_8 (a 89)) := by rw [hy_8, up2_o (kd_ne (fx_89 hX) (fx_50 hX) (by decide))]; exact hW
    have hp_9 : x_7.toInt = x_7.toInt := rfl
    have hI := hI.set6 hp_9 (by omega) (by omega)
    rw [← hy_8] at hI
    have hW : IW ((upc u 6 x_7.toInt) 1) ((upc u 6 x_7.toInt) 2) ((upc u 6 x_7.toInt) 9) (y_8 (a 89)) := iw_u hW (by simp [upc]) (by simp [upc]) (by simp [upc])
    clear hc_2
    refine lv_iload_n hx hb dX12_sign_39 rfl (lv_at hl 2 rfl) ?_
    refine lv_bipush (v := 8) hx hb dX12_sign_40 (by decide) ?_
    refine lv_iload_n hx hb dX12_sign_42 rfl (lv_at hl 0 rfl) ?_
    refine lv_imul hx hb dX12_sign_43 ?_
    refine lq_top (v := 24) (by decide) ?_
    refine lv_ishr hx hb dX12_sign_44 ?_
    refine lv_topi (fun x_10 ex_10 => ?_)
    refine lv_i2b hx hb dX12_sign_45 rfl ?_
    refine lv_topi (fun x_11 ex_11 => ?_)
    have hbd_12 : 0 ≤ u 6 ∧ u 6 < 100 := by omega
    refine tw_bast hx hb hK hT hF hS 2 (fx_84 hX) (by decide) (fun _ => cl_e94) rfl (z_in hc_6 hbd_12.1 hbd_12.2) dX12_sign_46 (fun H locs hT hS => ?_)
    obtain ⟨y_13, hy_13, hT⟩ : ∃ z : Nat → Nat → Int32, z = up2 y_8 (a 84) ((y_1 (a 50) 34).toNatClampNeg) (vp_nar .byte x_11) ∧ tw (dC, dI) a k τ ln z g H := ⟨_, rfl, hT⟩
    have hG : ag τ [60, 94] y y_13 := by rw [hy_13]; exact hG.up (fx_84 hX) (by decide)
    have hW : IW ((upc u 6 x_7.toInt) 1) ((upc u 6 x_7.toInt) 2) ((upc u 6 x_7.toInt) 9) (y_13 (a 89)) := by rw [hy_13, up2_o (kd_ne (fx_89 hX) (fx_84 hX) (by decide))]; exact hW
    have hI := hI.ag (S := [94]) (y' := y_13) (by rw [hy_13]; exact ag.one (fx_84 hX)) (by decide)
    clear hc_6
    refine lv_iinc (v := 2) (lv' := [(2, .int 2), (0, .ref (a 50)), (1, .int p0)]) hx hb dX12_sign_47 hl (k := 0) rfl (by decide) (by decide) rfl (fun ls hl => ?_)
    refine lv_goto (tgt := 20) hx hb dX12_sign_50 (by decide) ?_
    refine lv_iload_n hx hb dX12_sign_20 rfl (lv_at hl 0 rfl) ?_
    refine lv_if_lt (tgt := 53) hx hb dX12_sign_21 (by decide) (fun c_14 => absurd c_14 (by decide)) (fun c_14 => ?_)
    refine lv_aload_n hx hb dX12_sign_24 rfl (lv_at hl 1 rfl) ?_
    refine tw_get (D := (dC, dI)) (v := .ref (a 84)) (C := RX12) (T := TX12) (N := 58) hx hb hts (fun _ hh => (List.mem_cons_of_mem _ (List.mem_append_right _ (List.mem_append_left _ hh)))) hown hK hT (fx_50 hX) (by decide) cl_e60 rfl 33 (by decide) (hts (.fieldLink RX12 101 "TypingPoolModel" "text" "[B") (List.mem_cons_of_mem _ (List.mem_append_left _ (List.mem_of_getElem? (i := 2) rfl)))) (fun _ h9 => h9) rfl dX12_sign_25 ?_
    refine lv_aload_n hx hb dX12_sign_28 rfl (lv_at hl 1 rfl) ?_
    refine lv_dup hx hb dX12_sign_29 rfl ?_
    refine tw_get (D := (dC, dI)) (v := .int (y_13 (a 50) 34)) (C := RX12) (T := TX12) (N := 58) hx hb hts (fun _ hh => (List.mem_cons_of_mem _ (List.mem_append_right _ (List.mem_append_left _ hh)))) hown hK hT (fx_50 hX) (by decide) cl_e60 rfl 34 (by decide) (hts (.fieldLink RX12 177 "TypingPoolModel" "typed" "I") (List.mem_cons_of_mem _ (List.mem_append_left _ (List.mem_of_getElem? (i := 1) rfl)))) (fun _ h9 => h9) rfl dX12_sign_30 ?_
    have hc_15 : (y_13 (a 50) 34).toInt = x_7.toInt := by rw [im_6 hI]; simp [upc]
    refine lv_dup_x1 hx hb dX12_sign_33 rfl rfl ?_
    refine lv_iconst (v := 1) hx hb dX12_sign_34 (by decide) ?_
    refine lv_iadd hx hb dX12_sign_35 ?_
    refine lv_topi (fun x_16 ex_16 => ?_)
    have hx_16 := z_add ex_16 hc_15 (zk (x := 1) 1 rfl) (by omega) (by omega)
    refine tw_put (D := (dC, dI)) (x := x_16) (ty := .int) (C := RX12) (T := TX12) (N := 58) hx hb hts (fun _ hh => (List.mem_cons_of_mem _ (List.mem_append_right _ (List.mem_append_left _ hh)))) tyX12 tyX12_ok nmX12 hown hK hT hF hS (fx_50 hX) (by decide) cl_e60 rfl 34 (by decide) (hts (.fieldLink RX12 177 "TypingPoolModel" "typed" "I") (List.mem_cons_of_mem _ (List.mem_append_left _ (List.mem_of_getElem? (i := 1) rfl)))) (fun _ h9 => h9) rfl (tyX12_ok 34 (by decide)) rfl rfl (Nat.le_of_ble_eq_true rfl) rfl dX12_sign_36 (fun H locs hT hS => ?_)
    obtain ⟨y_17, hy_17, hT⟩ : ∃ z : Nat → Nat → Int32, z = up2 y_13 (a 50) 34 x_16 ∧ tw (dC, dI) a k τ ln z g H := ⟨_, rfl, hT⟩
    have hG : ag τ [60, 94] y y_17 := by rw [hy_17]; exact hG.up (fx_50 hX) (by decide)
    have hW : IW ((upc u 6 x_7.toInt) 1) ((upc u 6 x_7.toInt) 2) ((upc u 6 x_7.toInt) 9) (y_17 (a 89)) := by rw [hy_17, up2_o (kd_ne (fx_89 hX) (fx_50 hX) (by decide))]; exact hW
    have hp_18 : x_16.toInt = x_16.toInt := rfl
    have hI := hI.set6 hp_18 (by omega) (by omega)
    rw [upc_2, ← hy_17] at hI
    have hW : IW ((upc u 6 x_16.toInt) 1) ((upc u 6 x_16.toInt) 2) ((upc u 6 x_16.toInt) 9) (y_17 (a 89)) := iw_u hW (by simp [upc]) (by simp [upc]) (by simp [upc])
    refine lv_iload_n hx hb dX12_sign_39 rfl (lv_at hl 2 rfl) ?_
    refine lv_bipush (v := 8) hx hb dX12_sign_40 (by decide) ?_
    refine lv_iload_n hx hb dX12_sign_42 rfl (lv_at hl 0 rfl) ?_
    refine lv_imul hx hb dX12_sign_43 ?_
    refine lq_top (v := 16) (by decide) ?_
    refine lv_ishr hx hb dX12_sign_44 ?_
    refine lv_topi (fun x_19 ex_19 => ?_)
    refine lv_i2b hx hb dX12_sign_45 rfl ?_
    refine lv_topi (fun x_20 ex_20 => ?_)
    refine tw_bast hx hb hK hT hF hS 2 (fx_84 hX) (by decide) (fun _ => cl_e94) rfl (z_in hc_15 (by omega) (by omega)) dX12_sign_46 (fun H locs hT hS => ?_)
    obtain ⟨y_21, hy_21, hT⟩ : ∃ z : Nat → Nat → Int32, z = up2 y_17 (a 84) ((y_13 (a 50) 34).toNatClampNeg) (vp_nar .byte x_20) ∧ tw (dC, dI) a k τ ln z g H := ⟨_, rfl, hT⟩
    have hG : ag τ [60, 94] y y_21 := by rw [hy_21]; exact hG.up (fx_84 hX) (by decide)
    have hW : IW ((upc u 6 x_16.toInt) 1) ((upc u 6 x_16.toInt) 2) ((upc u 6 x_16.toInt) 9) (y_21 (a 89)) := by rw [hy_21, up2_o (kd_ne (fx_89 hX) (fx_84 hX) (by decide))]; exact hW
    have hI := hI.ag (S := [94]) (y' := y_21) (by rw [hy_21]; exact ag.one (fx_84 hX)) (by decide)
    clear hc_15
    refine lv_iinc (v := 1) (lv' := [(2, .int 1), (0, .ref (a 50)), (1, .int p0)]) hx hb dX12_sign_47 hl (k := 0) rfl (by decide) (by decide) rfl (fun ls hl => ?_)
    refine lv_goto (tgt := 20) hx hb dX12_sign_50 (by decide) ?_
    refine lv_iload_n hx hb dX12_sign_20 rfl (lv_at hl 0 rfl) ?_
    refine lv_if_lt (tgt := 53) hx hb dX12_sign_21 (by decide) (fun c_22 => absurd c_22 (by decide)) (fun c_22 => ?_)
    refine lv_aload_n hx hb dX12_sign_24 rfl (lv_at hl 1 rfl) ?_
    refine tw_get (D := (dC, dI)) (v := .ref (a 84)) (C := RX12) (T := TX12) (N := 58) hx hb hts (fun _ hh => (List.mem_cons_of_mem _ (List.mem_append_right _ (List.mem_append_left _ hh)))) hown hK hT (fx_50 hX) (by decide) cl_e60 rfl 33 (by decide) (hts (.fieldLink RX12 101 "TypingPoolModel" "text" "[B") (List.mem_cons_of_mem _ (List.mem_append_left _ (List.mem_of_getElem? (i := 2) rfl)))) (fun _ h9 => h9) rfl dX12_sign_25 ?_
    refine lv_aload_n hx hb dX12_sign_28 rfl (lv_at hl 1 rfl) ?_
    refine lv_dup hx hb dX12_sign_29 rfl ?_
    refine tw_get (D := (dC, dI)) (v := .int (y_21 (a 50) 34)) (C := RX12) (T := TX12) (N := 58) hx hb hts (fun _ hh => (List.mem_cons_of_mem _ (List.mem_append_right _ (List.mem_append_left _ hh)))) hown hK hT (fx_50 hX) (by decide) cl_e60 rfl 34 (by decide) (hts (.fieldLink RX12 177 "TypingPoolModel" "typed" "I") (List.mem_cons_of_mem _ (List.mem_append_left _ (List.mem_of_getElem? (i := 1) rfl)))) (fun _ h9 => h9) rfl dX12_sign_30 ?_
    have hc_23 : (y_21 (a 50) 34).toInt = x_16.toInt := by rw [im_6 hI]; simp [upc]
    refine lv_dup_x1 hx hb dX12_sign_33 rfl rfl ?_
    refine lv_iconst (v := 1) hx hb dX12_sign_34 (by decide) ?_
    refine lv_iadd hx hb dX12_sign_35 ?_
    refine lv_topi (fun x_24 ex_24 => ?_)
    have hx_24 := z_add ex_24 hc_23 (zk (x := 1) 1 rfl) (by omega) (by omega)
    refine tw_put (D := (dC, dI)) (x := x_24) (ty := .int) (C := RX12) (T := TX12) (N := 58) hx hb hts (fun _ hh => (List.mem_cons_of_mem _ (List.mem_append_right _ (List.mem_append_left _ hh)))) tyX12 tyX12_ok nmX12 hown hK hT hF hS (fx_50 hX) (by decide) cl_e60 rfl 34 (by decide) (hts (.fieldLink RX12 177 "TypingPoolModel" "typed" "I") (List.mem_cons_of_mem _ (List.mem_append_left _ (List.mem_of_getElem? (i := 1) rfl)))) (fun _ h9 => h9) rfl (tyX12_ok 34 (by decide)) rfl rfl (Nat.le_of_ble_eq_true rfl) rfl dX12_sign_36 (fun H locs hT hS => ?_)
    obtain ⟨y_25, hy_25, hT⟩ : ∃ z : Nat → Nat → Int32, z = up2 y_21 (a 50) 34 x_24 ∧ tw (dC, dI) a k τ ln z g H := ⟨_, rfl, hT⟩
    have hG : ag τ [60, 94] y y_25 := by rw [hy_25]; exact hG.up (fx_50 hX) (by decide)
    have hW : IW ((upc u 6 x_16.toInt) 1) ((upc u 6 x_16.toInt) 2) ((upc u 6 x_16.toInt) 9) (y_25 (a 89)) := by rw [hy_25, up2_o (kd_ne (fx_89 hX) (fx_50 hX) (by decide))]; exact hW
    have hp_26 : x_24.toInt = x_24.toInt := rfl
    have hI := hI.set6 hp_26 (by omega) (by omega)
    rw [upc_2, ← hy_25] at hI
    have hW : IW ((upc u 6 x_24.toInt) 1) ((upc u 6 x_24.toInt) 2) ((upc u 6 x_24.toInt) 9) (y_25 (a 89)) := iw_u hW (by simp [upc]) (by simp [upc]) (by simp [upc])
    refine lv_iload_n hx hb dX12_sign_39 rfl (lv_at hl 2 rfl) ?_
    refine lv_bipush (v := 8) hx hb dX12_sign_40 (by decide) ?_
    refine lv_iload_n hx hb dX12_sign_42 rfl (lv_at hl 0 rfl) ?_
    refine lv_imul hx hb dX12_sign_43 ?_
    refine lq_top (v := 8) (by decide) ?_
    refine lv_ishr hx hb dX12_sign_44 ?_
    refine lv_topi (fun x_27 ex_27 => ?_)
    refine lv_i2b hx hb dX12_sign_45 rfl ?_
    refine lv_topi (fun x_28 ex_28 => ?_)
    refine tw_bast hx hb hK hT hF hS 2 (fx_84 hX) (by decide) (fun _ => cl_e94) rfl (z_in hc_23 (by omega) (by omega)) dX12_sign_46 (fun H locs hT hS => ?_)
    obtain ⟨y_29, hy_29, hT⟩ : ∃ z : Nat → Nat → Int32, z = up2 y_25 (a 84) ((y_21 (a 50) 34).toNatClampNeg) (vp_nar .byte x_28) ∧ tw (dC, dI) a k τ ln z g H := ⟨_, rfl, hT⟩
    have hG : ag τ [60, 94] y y_29 := by rw [hy_29]; exact hG.up (fx_84 hX) (by decide)
    have hW : IW ((upc u 6 x_24.toInt) 1) ((upc u 6 x_24.toInt) 2) ((upc u 6 x_24.toInt) 9) (y_29 (a 89)) := by rw [hy_29, up2_o (kd_ne (fx_89 hX) (fx_84 hX) (by decide))]; exact hW
    have hI := hI.ag (S := [94]) (y' := y_29) (by rw [hy_29]; exact ag.one (fx_84 hX)) (by decide)
    clear hc_23
    refine lv_iinc (v := 0) (lv' := [(2, .int 0), (0, .ref (a 50)), (1, .int p0)]) hx hb dX12_sign_47 hl (k := 0) rfl (by decide) (by decide) rfl (fun ls hl => ?_)
    refine lv_goto (tgt := 20) hx hb dX12_sign_50 (by decide) ?_
    refine lv_iload_n hx hb dX12_sign_20 rfl (lv_at hl 0 rfl) ?_
    refine lv_if_lt (tgt := 53) hx hb dX12_sign_21 (by decide) (fun c_30 => absurd c_30 (by decide)) (fun c_30 => ?_)
    refine lv_aload_n hx hb dX12_sign_24 rfl (lv_at hl 1 rfl) ?_
    refine tw_get (D := (dC, dI)) (v := .ref (a 84)) (C := RX12) (T := TX12) (N := 58) hx hb hts (fun _ hh => (List.mem_cons_of_mem _ (List.mem_append_right _ (List.mem_append_left _ hh)))) hown hK hT (fx_50 hX) (by decide) cl_e60 rfl 33 (by decide) (hts (.fieldLink RX12 101 "TypingPoolModel" "text" "[B") (List.mem_cons_of_mem _ (List.mem_append_left _ (List.mem_of_getElem? (i := 2) rfl)))) (fun _ h9 => h9) rfl dX12_sign_25 ?_
    refine lv_aload_n hx hb dX12_sign_28 rfl (lv_at hl 1 rfl) ?_
    refine lv_dup hx hb dX12_sign_29 rfl ?_
    refine tw_get (D := (dC, dI)) (v := .int (y_29 (a 50) 34)) (C := RX12) (T := TX12) (N := 58) hx hb hts (fun _ hh => (List.mem_cons_of_mem _ (List.mem_append_right _ (List.mem_append_left _ hh)))) hown hK hT (fx_50 hX) (by decide) cl_e60 rfl 34 (by decide) (hts (.fieldLink RX12 177 "TypingPoolModel" "typed" "I") (List.mem_cons_of_mem _ (List.mem_append_left _ (List.mem_of_getElem? (i := 1) rfl)))) (fun _ h9 => h9) rfl dX12_sign_30 ?_
    have hc_31 : (y_29 (a 50) 34).toInt = x_24.toInt := by rw [im_6 hI]; simp [upc]
    refine lv_dup_x1 hx hb dX12_sign_33 rfl rfl ?_
    refine lv_iconst (v := 1) hx hb dX12_sign_34 (by decide) ?_
    refine lv_iadd hx hb dX12_sign_35 ?_
    refine lv_topi (fun x_32 ex_32 => ?_)
    have hx_32 := z_add ex_32 hc_31 (zk (x := 1) 1 rfl) (by omega) (by omega)
    refine tw_put (D := (dC, dI)) (x := x_32) (ty := .int) (C := RX12) (T := TX12) (N := 58) hx hb hts (fun _ hh => (List.mem_cons_of_mem _ (List.mem_append_right _ (List.mem_append_left _ hh)))) tyX12 tyX12_ok nmX12 hown hK hT hF hS (fx_50 hX) (by decide) cl_e60 rfl 34 (by decide) (hts (.fieldLink RX12 177 "TypingPoolModel" "typed" "I") (List.mem_cons_of_mem _ (List.mem_append_left _ (List.mem_of_getElem? (i := 1) rfl)))) (fun _ h9 => h9) rfl (tyX12_ok 34 (by decide)) rfl rfl (Nat.le_of_ble_eq_true rfl) rfl dX12_sign_36 (fun H locs hT hS => ?_)
    obtain ⟨y_33, hy_33, hT⟩ : ∃ z : Nat → Nat → Int32, z = up2 y_29 (a 50) 34 x_32 ∧ tw (dC, dI) a k τ ln z g H := ⟨_, rfl, hT⟩
    have hG : ag τ [60, 94] y y_33 := by rw [hy_33]; exact hG.up (fx_50 hX) (by decide)
    have hW : IW ((upc u 6 x_24.toInt) 1) ((upc u 6 x_24.toInt) 2) ((upc u 6 x_24.toInt) 9) (y_33 (a 89)) := by rw [hy_33, up2_o (kd_ne (fx_89 hX) (fx_50 hX) (by decide))]; exact hW
    have hp_34 : x_32.toInt = x_32.toInt := rfl
    have hI := hI.set6 hp_34 (by omega) (by omega)
    rw [upc_2, ← hy_33] at hI
    have hW : IW ((upc u 6 x_32.toInt) 1) ((upc u 6 x_32.toInt) 2) ((upc u 6 x_32.toInt) 9) (y_33 (a 89)) := iw_u hW (by simp [upc]) (by simp [upc]) (by simp [upc])
    refine lv_iload_n hx hb dX12_sign_39 rfl (lv_at hl 2 rfl) ?_
    refine lv_bipush (v := 8) hx hb dX12_sign_40 (by decide) ?_
    refine lv_iload_n hx hb dX12_sign_42 rfl (lv_at hl 0 rfl) ?_
    refine lv_imul hx hb dX12_sign_43 ?_
    refine lq_top (v := 0) (by decide) ?_
    refine lv_ishr hx hb dX12_sign_44 ?_
    refine lv_topi (fun x_35 ex_35 => ?_)
    refine lv_i2b hx hb dX12_sign_45 rfl ?_
    refine lv_topi (fun x_36 ex_36 => ?_)
    refine tw_bast hx hb hK hT hF hS 2 (fx_84 hX) (by decide) (fun _ => cl_e94) rfl (z_in hc_31 (by omega) (by omega)) dX12_sign_46 (fun H locs hT hS => ?_)
    obtain ⟨y_37, hy_37, hT⟩ : ∃ z : Nat → Nat → Int32, z = up2 y_33 (a 84) ((y_29 (a 50) 34).toNatClampNeg) (vp_nar .byte x_36) ∧ tw (dC, dI) a k τ ln z g H := ⟨_, rfl, hT⟩
    have hG : ag τ [60, 94] y y_37 := by rw [hy_37]; exact hG.up (fx_84 hX) (by decide)
    have hW : IW ((upc u 6 x_32.toInt) 1) ((upc u 6 x_32.toInt) 2) ((upc u 6 x_32.toInt) 9) (y_37 (a 89)) := by rw [hy_37, up2_o (kd_ne (fx_89 hX) (fx_84 hX) (by decide))]; exact hW
    have hI := hI.ag (S := [94]) (y' := y_37) (by rw [hy_37]; exact ag.one (fx_84 hX)) (by decide)
    clear hc_31
    refine lv_iinc (v := (-1)) (lv' := [(2, .int (-1)), (0, .ref (a 50)), (1, .int p0)]) hx hb dX12_sign_47 hl (k := 0) rfl (by decide) (by decide) rfl (fun ls hl => ?_)
    refine lv_goto (tgt := 20) hx hb dX12_sign_50 (by decide) ?_
    refine lv_iload_n hx hb dX12_sign_20 rfl (lv_at hl 0 rfl) ?_
    refine lv_if_lt (tgt := 53) hx hb dX12_sign_21 (by decide) (fun c_38 => ?_) (fun c_38 => absurd c_38 (by decide))
    refine lv_aload_n hx hb dX12_sign_53 rfl (lv_at hl 1 rfl) ?_
    refine tw_get (D := (dC, dI)) (v := .int (y_37 (a 50) 34)) (C := RX12) (T := TX12) (N := 58) hx hb hts (fun _ hh => (List.mem_cons_of_mem _ (List.mem_append_right _ (List.mem_append_left _ hh)))) hown hK hT (fx_50 hX) (by decide) cl_e60 rfl 34 (by decide) (hts (.fieldLink RX12 177 "TypingPoolModel" "typed" "I") (List.mem_cons_of_mem _ (List.mem_append_left _ (List.mem_of_getElem? (i := 1) rfl)))) (fun _ h9 => h9) rfl dX12_sign_54 ?_
    have hc_39 : (y_37 (a 50) 34).toInt = x_32.toInt := by rw [im_6 hI]; simp [upc]
    exact W.iret (v := y_37 (a 50) 34) hx hb hr (fun t ht hW9 => ⟨⟨y_37 (a 50) 34, y_37 (a 50) 34, rfl, rfl, ⟨(upc u 6 x_32.toInt), y_37, g, (by intro i hi; simp only [List.mem_cons, List.not_mem_nil, or_false, not_or] at hi; unfold upc; repeat rw [if_neg (by omega)]), hG, hGg, hI, tw_at ht hT⟩⟩, hS.F ht⟩) hS.2.2 dX12_sign_57
  · have nc_4 := z_nle rfl (zk (x := 100) 100 rfl) c_4
    refine lv_iconst (v := (-1)) hx hb dX12_sign_16 (by decide) ?_
    exact W.iret (v := (-1)) hx hb hr (fun t ht hW9 => ⟨⟨(-1), (-1), rfl, rfl, ⟨u, y_1, g, fun _ _ => rfl, hG, hGg, hI, tw_at ht hT⟩⟩, hS.F ht⟩) hS.2.2 dX12_sign_17
def wo_m_end : List Cond := [.fieldLink RX12 139 "TypingPoolModel" "thrown" "I", .fieldLink RX12 177 "TypingPoolModel" "typed" "I", .methodLink RX12 145 yX12_in, .static yX12_in, .initialized RX12]
def wm_m_end : List Cond := .code yX12_end cX12_end 2 (some .boolean) :: (wo_m_end ++ (wsX120 ++ (wm_m_in ++ ([] : List Cond))))
theorem gd_m_end : ∀ w ∈ wm_m_end, goodWord w = true := gd_c rfl (gd_a (by decide) (gd_a gd_wsX120 (gd_a gd_m_in gd_nil)))
set_option maxRecDepth 20000 in
theorem im_m_end : ∀ w ∈ wm_m_end, w ∈ lw_tbl := im_c (in_r [.code yX12_end cX12_end 2 (some .boolean)] [1463] (by decide +kernel)) (in_app (in_r wo_m_end [1278, 1275, 1420, 1421, 86] (by decide +kernel)) (in_app im_wsX120 (in_app im_m_in im_nil)))
set_option maxHeartbeats 4000000 in
set_option maxRecDepth 100000 in
theorem m_end (l : Launch) (dC : Nat → ClassId) (dI : Nat → Nat → Nat) (ad av : Nat → Nat) (sz : Nat) (a : Nat → Nat) (k : Nat → ClassId) (τ ln : Nat → Nat) (y : Nat → Nat → Int32) (g : Nat → Nat → Option Nat) (u : Nat → Int) (p0 : Int32) (hI : IM a u τ y) (hW : IW (u 1) (u 2) (u 9) (y (a 89))) : Met l yX12_end wm_m_end ({ frames := 1, cells := 0, slots := 0, locals := 60 }) (pw_ ad av (dC, dI) sz [.ref (a 50), .int p0] a k τ ln y g) (va_Qi (fun (r u : Int32) => u = r) (fun (r : Int32) (t : State) => (∃ (u' : Nat → Int) (y' : Nat → Nat → Int32) (g' : Nat → Nat → Option Nat), r = 1 ∧ (∀ i, i ∉ ([6] : List Nat) → u' i = u i) ∧ ag τ [60] y y' ∧ agg τ g g' ∧ IM a u' τ y' ∧ tw (dC, dI) a k τ ln y' g' t.heap) ∨ (∃ (u' : Nat → Int) (y' : Nat → Nat → Int32) (g' : Nat → Nat → Option Nat), r = 0 ∧ (∀ i, i ∉ ([6] : List Nat) → u' i = u i) ∧ ag τ [60] y y' ∧ agg τ g g' ∧ IM a u' τ y' ∧ tw (dC, dI) a k τ ln y' g' t.heap)) (fr τ sz)) 0 0 (fr τ sz) := by
  refine Met.ofW (cc := cX12_end) (maxL := 2) (ret := (some .boolean)) (by decide) rfl ?_
  intro p e s m args below meth c s₁ B hml hv
  obtain ⟨rfl, hsz, hT, hK, hM⟩ := hv
  have hx := B.exec
  have hb := B.bytes
  have hr := B.returns
  have hts := atoms_spec (ws := wm_m_end) B.pre
  have hown : s.vm.findClass RX12 = some m.cls := findClass_of_methodNamed B.named
  have hlocks := B.notSynchronized
  subst hsz
  generalize hAe : fr τ s.heap.size = A at hM ⊢
  have hA : ∀ q : Nat, s.heap.size ≤ q → A q := fun q h => by rw [← hAe]; exact Or.inr h
  have hF : ∀ q, τ q ≠ 0 → A q := fun q h => by rw [← hAe]; exact Or.inl h
  have hS : va_S A s.heap s.heap [] := va_S.rf
  have hX := hI.1
  have hR := im_r hI
  have hG : ag τ [60] y y := ag.rf
  have hGg : agg τ g g := agg.rf
  have hl := lv_entry ([.ref (a 50), .int p0]) (n := 2) (Nat.le_of_ble_eq_true rfl)
  rw [lg_entry_eq]
  generalize (lg_sl ([.ref (a 50), .int p0]) ++ List.replicate (2 - (lg_sl ([.ref (a 50), .int p0])).length) Slot.unset).toArray = ls at hl ⊢
  have hl : lv_has ls 2 [(0, .ref (a 50)), (1, .int p0)] := hl
  refine lv_aload_n hx hb dX12_end_0 rfl (lv_at hl 0 rfl) ?_
  refine lv_iconst (v := 0) hx hb dX12_end_1 (by decide) ?_
  refine tw_put (D := (dC, dI)) (x := 0) (ty := .int) (C := RX12) (T := TX12) (N := 58) hx hb hts (fun _ hh => (List.mem_cons_of_mem _ (List.mem_append_right _ (List.mem_append_left _ hh)))) tyX12 tyX12_ok nmX12 hown hK hT hF hS (fx_50 hX) (by decide) cl_e60 rfl 37 (by decide) (hts (.fieldLink RX12 139 "TypingPoolModel" "thrown" "I") (List.mem_cons_of_mem _ (List.mem_append_left _ (List.mem_of_getElem? (i := 0) rfl)))) (fun _ h9 => h9) rfl (tyX12_ok 37 (by decide)) rfl rfl (Nat.le_of_ble_eq_true rfl) rfl dX12_end_2 (fun H locs hT hS => ?_)
  obtain ⟨y_1, hy_1, hT⟩ : ∃ z : Nat → Nat → Int32, z = up2 y (a 50) 37 (0 : Int32) ∧ tw (dC, dI) a k τ ln z g H := ⟨_, rfl, hT⟩
  have hG : ag τ [60] y y_1 := by rw [hy_1]; exact hG.up (fx_50 hX) (by decide)
  have hW : IW (u 1) (u 2) (u 9) (y_1 (a 89)) := by rw [hy_1, up2_o (kd_ne (fx_89 hX) (fx_50 hX) (by decide))]; exact hW
  have hI := hI.put (f := 37) (x := (0 : Int32)) (by decide)
  rw [← hy_1] at hI
  refine lv_iload_n hx hb dX12_end_5 rfl (lv_at hl 1 rfl) ?_
  refine lv_iconst (v := 0) hx hb dX12_end_6 (by decide) ?_
  refine lv_aload_n hx hb dX12_end_7 rfl (lv_at hl 0 rfl) ?_
  refine tw_get (D := (dC, dI)) (v := .int (y_1 (a 50) 34)) (C := RX12) (T := TX12) (N := 58) hx hb hts (fun _ hh => (List.mem_cons_of_mem _ (List.mem_append_right _ (List.mem_append_left _ hh)))) hown hK hT (fx_50 hX) (by decide) cl_e60 rfl 34 (by decide) (hts (.fieldLink RX12 177 "TypingPoolModel" "typed" "I") (List.mem_cons_of_mem _ (List.mem_append_left _ (List.mem_of_getElem? (i := 1) rfl)))) (fun _ h9 => h9) rfl dX12_end_8 ?_
  have hc_2 := im_6 hI
  have hFc := tw_free hF hS hA
  have hp_3 : (0 : Int32).toInt = 0 := (zk (x := 0) 0 rfl)
  have hp_4 : (y_1 (a 50) 34).toInt = u 6 := hc_2
  refine va_calli (va_runS (As := [.int p0, .int 0, .int (y_1 (a 50) 34)]) (rest := []) ⟨hx, hb, hml, hown, hts⟩ (m_in l dC dI ad av H.size a k τ ln y_1 g u p0 (0 : Int32) (y_1 (a 50) 34)  ) (va_cwS 3 hts (gi_3 (List.mem_cons_of_mem _ (List.mem_append_left _ (List.mem_of_getElem? (i := 2) rfl))) (List.mem_cons_of_mem _ (List.mem_append_left _ (List.mem_of_getElem? (i := 3) rfl))) (List.mem_cons_of_mem _ (List.mem_append_left _ (List.mem_of_getElem? (i := 4) rfl))) (fun _ hh => (List.mem_cons_of_mem _ (List.mem_append_right _ (List.mem_append_right _ (List.mem_append_left _ hh))))) gd_m_in) rfl rfl rfl (by decide +kernel) ⟨Nat.le_of_ble_eq_true rfl, Nat.le_of_ble_eq_true rfl⟩) ⟨pw_blind, pw_use hT hK hFc hS hM⟩ rfl rfl hl.1 rfl (lv_room (Nat.le_of_ble_eq_true rfl)) dX12_end_11 ⟨Nat.le_of_ble_eq_true rfl, Nat.le_of_ble_eq_true rfl⟩) hS (fun q _ h => hFc q h) hFc (fun r0 r_5 t H locs ht hvm hw hB hz1 hk1 hS => ?_)
  refine W.widen (k := 0) (n := 0) (Nat.le_of_ble_eq_true rfl) (Nat.le_of_ble_eq_true rfl) ?_
  clear hvm hz1 hk1
  subst hw
  rcases hB with ⟨hre, hf_6, hf_7, hT⟩ | ⟨hre, hf_8, hT⟩
  · refine lq_top (v := 1) hre ?_
    rw [ht] at hT
    try simp only [hp_3] at hf_6 hf_7
    clear hp_3
    refine lv_if_ne (tgt := 19) hx hb dX12_end_14 (by decide) (fun c_9 => ?_) (fun c_9 => absurd c_9 (by decide))
    refine lv_aload_n hx hb dX12_end_19 rfl (lv_at hl 0 rfl) ?_
    refine lv_iload_n hx hb dX12_end_20 rfl (lv_at hl 1 rfl) ?_
    refine tw_put (D := (dC, dI)) (x := p0) (ty := .int) (C := RX12) (T := TX12) (N := 58) hx hb hts (fun _ hh => (List.mem_cons_of_mem _ (List.mem_append_right _ (List.mem_append_left _ hh)))) tyX12 tyX12_ok nmX12 hown hK hT hF hS (fx_50 hX) (by decide) cl_e60 rfl 34 (by decide) (hts (.fieldLink RX12 177 "TypingPoolModel" "typed" "I") (List.mem_cons_of_mem _ (List.mem_append_left _ (List.mem_of_getElem? (i := 1) rfl)))) (fun _ h9 => h9) rfl (tyX12_ok 34 (by decide)) rfl rfl (Nat.le_of_ble_eq_true rfl) rfl dX12_end_21 (fun H locs hT hS => ?_)
    obtain ⟨y_10, hy_10, hT⟩ : ∃ z : Nat → Nat → Int32, z = up2 y_1 (a 50) 34 p0 ∧ tw (dC, dI) a k τ ln z g H := ⟨_, rfl, hT⟩
    have hG : ag τ [60] y y_10 := by rw [hy_10]; exact hG.up (fx_50 hX) (by decide)
    have hW : IW (u 1) (u 2) (u 9) (y_10 (a 89)) := by rw [hy_10, up2_o (kd_ne (fx_89 hX) (fx_50 hX) (by decide))]; exact hW
    have hp_11 : p0.toInt = p0.toInt := rfl
    have hI := hI.set6 hp_11 (by omega) (by omega)
    rw [← hy_10] at hI
    have hW : IW ((upc u 6 p0.toInt) 1) ((upc u 6 p0.toInt) 2) ((upc u 6 p0.toInt) 9) (y_10 (a 89)) := iw_u hW (by simp [upc]) (by simp [upc]) (by simp [upc])
    clear hc_2
    refine lv_iconst (v := 1) hx hb dX12_end_24 (by decide) ?_
    exact W.zret (v := 1) hx hb hr (by decide) (fun t ht hW9 => ⟨⟨1, 1, rfl, rfl, Or.inl ⟨(upc u 6 p0.toInt), y_10, g, rfl, (by intro i hi; simp only [List.mem_cons, List.not_mem_nil, or_false, not_or] at hi; unfold upc; repeat rw [if_neg (by omega)]), hG, hGg, hI, tw_at ht hT⟩⟩, hS.F ht⟩) hS.2.2 dX12_end_25
  · refine lq_top (v := 0) hre ?_
    rw [ht] at hT
    try simp only [hp_3] at hf_8
    clear hp_3
    refine lv_if_ne (tgt := 19) hx hb dX12_end_14 (by decide) (fun c_12 => absurd c_12 (by decide)) (fun c_12 => ?_)
    refine lv_iconst (v := 0) hx hb dX12_end_17 (by decide) ?_
    exact W.zret (v := 0) hx hb hr (by decide) (fun t ht hW9 => ⟨⟨0, 0, rfl, rfl, Or.inr (⟨u, y_1, g, rfl, fun _ _ => rfl, hG, hGg, hI, tw_at ht hT⟩)⟩, hS.F ht⟩) hS.2.2 dX12_end_18
def wo_m_openT : List Cond := [.fieldLink RX12 188 "TypingPoolModel" "signs" "[B", .fieldLink RX12 191 "TypingPoolModel" "begin" "I", .fieldLink RX12 194 "TypingPoolModel" "size" "I", .fieldLink RX12 197 "TypingPoolModel" "at" "I", .fieldLink RX12 200 "TypingPoolModel" "wrong" "I", .methodLink RX12 203 yX12_names, .static yX12_names, .initialized RX12, .fieldLink RX12 207 "TypingPoolModel" "letters" "Ljava/lang/String;"]
def wm_m_openT : List Cond := .code yX12_open cX12_open 5 none :: (wo_m_openT ++ (wsX120 ++ (wm_m_names ++ ([] : List Cond))))
theorem gd_m_openT : ∀ w ∈ wm_m_openT, goodWord w = true := gd_c rfl (gd_a (by decide) (gd_a gd_wsX120 (gd_a gd_m_names gd_nil)))
set_option maxRecDepth 20000 in
theorem im_m_openT : ∀ w ∈ wm_m_openT, w ∈ lw_tbl := im_c (in_r [.code yX12_open cX12_open 5 none] [1471] (by decide +kernel)) (in_app (in_r wo_m_openT [1283, 1284, 1285, 1286, 1287, 1472, 1473, 86, 1288] (by decide +kernel)) (in_app im_wsX120 (in_app im_m_names im_nil)))
set_option maxHeartbeats 4000000 in
set_option maxRecDepth 100000 in
theorem m_openT (l : Launch) (dC : Nat → ClassId) (dI : Nat → Nat → Nat) (ad av : Nat → Nat) (sz : Nat) (a : Nat → Nat) (k : Nat → ClassId) (τ ln : Nat → Nat) (y : Nat → Nat → Int32) (g : Nat → Nat → Option Nat) (u : Nat → Int) (p0 : Int32) (p1 : Int32) (p2 : Int32) (hI : IM a u τ y) (hW : IW (u 1) (u 2) (u 9) (y (a 89))) : Met l yX12_open wm_m_openT ({ frames := 1, cells := 0, slots := 0, locals := 60 }) (pw_ ad av (dC, dI) sz [.ref (a 50), .ref (a 84), .int p0, .int p1, .int p2] a k τ ln y g) (va_Qv (fun (_ : Unit) => True) (fun (_ : Unit) (t : State) => (∃ (y' : Nat → Nat → Int32) (g' : Nat → Nat → Option Nat), ag τ [60] y y' ∧ agg τ g g' ∧ IM a u τ y' ∧ g' (a 50) 42 = some (a 84) ∧ ltr ad (g' (a 50) 47) ∧ (y' (a 50) 43).toInt = p0.toInt ∧ (y' (a 50) 44).toInt = p1.toInt ∧ (y' (a 50) 45).toInt = 0 ∧ pk a y y' ∧ tw (dC, dI) a k τ ln y' g' t.heap)) (fr τ sz)) 0 0 (fr τ sz) := by
  refine Met.ofW (cc := cX12_open) (maxL := 5) (ret := none) (by decide) rfl ?_
  intro p e s m args below meth c s₁ B hml hv
  obtain ⟨rfl, hsz, hT, hK, hM⟩ := hv
  have hx := B.exec
  have hb := B.bytes
  have hr := B.returns
  have hts := atoms_spec (ws := wm_m_openT) B.pre
  have hown : s.vm.findClass RX12 = some m.cls := findClass_of_methodNamed B.named
  have hlocks := B.notSynchronized
  subst hsz
  generalize hAe : fr τ s.heap.size = A at hM ⊢
  have hA : ∀ q : Nat, s.heap.size ≤ q → A q := fun q h => by rw [← hAe]; exact Or.inr h
  have hF : ∀ q, τ q ≠ 0 → A q := fun q h => by rw [← hAe]; exact Or.inl h
  have hS : va_S A s.heap s.heap [] := va_S.rf
  have hX := hI.1
  have hR := im_r hI
  have hG : ag τ [60] y y := ag.rf
  have hGg : agg τ g g := agg.rf
  have hl := lv_entry ([.ref (a 50), .ref (a 84), .int p0, .int p1, .int p2]) (n := 5) (Nat.le_of_ble_eq_true rfl)
  rw [lg_entry_eq]
  generalize (lg_sl ([.ref (a 50), .ref (a 84), .int p0, .int p1, .int p2]) ++ List.replicate (5 - (lg_sl ([.ref (a 50), .ref (a 84), .int p0, .int p1, .int p2])).length) Slot.unset).toArray = ls at hl ⊢
  have hl : lv_has ls 5 [(0, .ref (a 50)), (1, .ref (a 84)), (2, .int p0), (3, .int p1), (4, .int p2)] := hl
  have hPK : pk a y y := pk_rf
  refine lv_aload_n hx hb dX12_open_0 rfl (lv_at hl 0 rfl) ?_
  refine lv_aload_n hx hb dX12_open_1 rfl (lv_at hl 1 rfl) ?_
  refine tw_putr (D := (dC, dI)) (x := (a 84)) (ty := .array .byte) (C := RX12) (T := TX12) (N := 58) hx hb hts (fun _ hh => (List.mem_cons_of_mem _ (List.mem_append_right _ (List.mem_append_left _ hh)))) tyX12 tyX12_ok nmX12 hown hK hT hF hS (fx_50 hX) (by decide) cl_e60 rfl 42 (by decide) (hts (.fieldLink RX12 188 "TypingPoolModel" "signs" "[B") (List.mem_cons_of_mem _ (List.mem_append_left _ (List.mem_of_getElem? (i := 0) rfl)))) (fun _ h9 => h9) rfl (tyX12_ok 42 (by decide)) rfl rfl (Nat.le_of_ble_eq_true rfl) rfl dX12_open_2 (fun H locs hT hS => ?_)
  obtain ⟨g_1, hg_1, hT⟩ : ∃ z : Nat → Nat → Option Nat, z = upg g (a 50) 42 (some (a 84)) ∧ tw (dC, dI) a k τ ln y z H := ⟨_, rfl, hT⟩
  have hGg : agg τ g g_1 := by rw [hg_1]; exact hGg.up (fx_50 hX)
  refine lv_aload_n hx hb dX12_open_5 rfl (lv_at hl 0 rfl) ?_
  refine lv_iload_n hx hb dX12_open_6 rfl (lv_at hl 2 rfl) ?_
  refine tw_put (D := (dC, dI)) (x := p0) (ty := .int) (C := RX12) (T := TX12) (N := 58) hx hb hts (fun _ hh => (List.mem_cons_of_mem _ (List.mem_append_right _ (List.mem_append_left _ hh)))) tyX12 tyX12_ok nmX12 hown hK hT hF hS (fx_50 hX) (by decide) cl_e60 rfl 43 (by decide) (hts (.fieldLink RX12 191 "TypingPoolModel" "begin" "I") (List.mem_cons_of_mem _ (List.mem_append_left _ (List.mem_of_getElem? (i := 1) rfl)))) (fun _ h9 => h9) rfl (tyX12_ok 43 (by decide)) rfl rfl (Nat.le_of_ble_eq_true rfl) rfl dX12_open_7 (fun H locs hT hS => ?_)
  obtain ⟨y_2, hy_2, hT⟩ : ∃ z : Nat → Nat → Int32, z = up2 y (a 50) 43 p0 ∧ tw (dC, dI) a k τ ln z g_1 H := ⟨_, rfl, hT⟩
  have hG : ag τ [60] y y_2 := by rw [hy_2]; exact hG.up (fx_50 hX) (by decide)
  have : (y_2 (a 50) 43).toInt = p0.toInt := (congrArg Int32.toInt (show y_2 (a 50) 43 = p0 from by rw [hy_2]; exact up2_i)).trans rfl
  have : (y_2 (a 50) 44).toInt = (y (a 50) 44).toInt := by rw [hy_2, up2_e (by decide)]
  have : (y_2 (a 50) 45).toInt = (y (a 50) 45).toInt := by rw [hy_2, up2_e (by decide)]
  have hPK : pk a y y_2 := by rw [hy_2]; exact hPK.up (by decide)
  have hW : IW (u 1) (u 2) (u 9) (y_2 (a 89)) := by rw [hy_2, up2_o (kd_ne (fx_89 hX) (fx_50 hX) (by decide))]; exact hW
  have hI := hI.put (f := 43) (x := p0) (by decide)
  rw [← hy_2] at hI
  refine lv_aload_n hx hb dX12_open_10 rfl (lv_at hl 0 rfl) ?_
  refine lv_iload_n hx hb dX12_open_11 rfl (lv_at hl 3 rfl) ?_
  refine tw_put (D := (dC, dI)) (x := p1) (ty := .int) (C := RX12) (T := TX12) (N := 58) hx hb hts (fun _ hh => (List.mem_cons_of_mem _ (List.mem_append_right _ (List.mem_append_left _ hh)))) tyX12 tyX12_ok nmX12 hown hK hT hF hS (fx_50 hX) (by decide) cl_e60 rfl 44 (by decide) (hts (.fieldLink RX12 194 "TypingPoolModel" "size" "I") (List.mem_cons_of_mem _ (List.mem_append_left _ (List.mem_of_getElem? (i := 2) rfl)))) (fun _ h9 => h9) rfl (tyX12_ok 44 (by decide)) rfl rfl (Nat.le_of_ble_eq_true rfl) rfl dX12_open_12 (fun H locs hT hS => ?_)
  obtain ⟨y_3, hy_3, hT⟩ : ∃ z : Nat → Nat → Int32, z = up2 y_2 (a 50) 44 p1 ∧ tw (dC, dI) a k τ ln z g_1 H := ⟨_, rfl, hT⟩
  have hG : ag τ [60] y y_3 := by rw [hy_3]; exact hG.up (fx_50 hX) (by decide)
  have : (y_3 (a 50) 43).toInt = (y_2 (a 50) 43).toInt := by rw [hy_3, up2_e (by decide)]
  have : (y_3 (a 50) 44).toInt = p1.toInt := (congrArg Int32.toInt (show y_3 (a 50) 44 = p1 from by rw [hy_3]; exact up2_i)).trans rfl
  have : (y_3 (a 50) 45).toInt = (y_2 (a 50) 45).toInt := by rw [hy_3, up2_e (by decide)]
  have hPK : pk a y y_3 := by rw [hy_3]; exact hPK.up (by decide)
  have hW : IW (u 1) (u 2) (u 9) (y_3 (a 89)) := by rw [hy_3, up2_o (kd_ne (fx_89 hX) (fx_50 hX) (by decide))]; exact hW
  have hI := hI.put (f := 44) (x := p1) (by decide)
  rw [← hy_3] at hI
  refine lv_aload_n hx hb dX12_open_15 rfl (lv_at hl 0 rfl) ?_
  refine lv_iconst (v := 0) hx hb dX12_open_16 (by decide) ?_
  refine tw_put (D := (dC, dI)) (x := 0) (ty := .int) (C := RX12) (T := TX12) (N := 58) hx hb hts (fun _ hh => (List.mem_cons_of_mem _ (List.mem_append_right _ (List.mem_append_left _ hh)))) tyX12 tyX12_ok nmX12 hown hK hT hF hS (fx_50 hX) (by decide) cl_e60 rfl 45 (by decide) (hts (.fieldLink RX12 197 "TypingPoolModel" "at" "I") (List.mem_cons_of_mem _ (List.mem_append_left _ (List.mem_of_getElem? (i := 3) rfl)))) (fun _ h9 => h9) rfl (tyX12_ok 45 (by decide)) rfl rfl (Nat.le_of_ble_eq_true rfl) rfl dX12_open_17 (fun H locs hT hS => ?_)
  obtain ⟨y_4, hy_4, hT⟩ : ∃ z : Nat → Nat → Int32, z = up2 y_3 (a 50) 45 (0 : Int32) ∧ tw (dC, dI) a k τ ln z g_1 H := ⟨_, rfl, hT⟩
  have hG : ag τ [60] y y_4 := by rw [hy_4]; exact hG.up (fx_50 hX) (by decide)
  have : (y_4 (a 50) 43).toInt = (y_3 (a 50) 43).toInt := by rw [hy_4, up2_e (by decide)]
  have : (y_4 (a 50) 44).toInt = (y_3 (a 50) 44).toInt := by rw [hy_4, up2_e (by decide)]
  have : (y_4 (a 50) 45).toInt = 0 := (congrArg Int32.toInt (show y_4 (a 50) 45 = (0 : Int32) from by rw [hy_4]; exact up2_i)).trans (zk (x := 0) 0 rfl)
  have hPK : pk a y y_4 := by rw [hy_4]; exact hPK.up (by decide)
  have hW : IW (u 1) (u 2) (u 9) (y_4 (a 89)) := by rw [hy_4, up2_o (kd_ne (fx_89 hX) (fx_50 hX) (by decide))]; exact hW
  have hI := hI.put (f := 45) (x := (0 : Int32)) (by decide)
  rw [← hy_4] at hI
  refine lv_aload_n hx hb dX12_open_20 rfl (lv_at hl 0 rfl) ?_
  refine lv_iconst (v := (-1)) hx hb dX12_open_21 (by decide) ?_
  refine tw_put (D := (dC, dI)) (x := (-1)) (ty := .int) (C := RX12) (T := TX12) (N := 58) hx hb hts (fun _ hh => (List.mem_cons_of_mem _ (List.mem_append_right _ (List.mem_append_left _ hh)))) tyX12 tyX12_ok nmX12 hown hK hT hF hS (fx_50 hX) (by decide) cl_e60 rfl 46 (by decide) (hts (.fieldLink RX12 200 "TypingPoolModel" "wrong" "I") (List.mem_cons_of_mem _ (List.mem_append_left _ (List.mem_of_getElem? (i := 4) rfl)))) (fun _ h9 => h9) rfl (tyX12_ok 46 (by decide)) rfl rfl (Nat.le_of_ble_eq_true rfl) rfl dX12_open_22 (fun H locs hT hS => ?_)
  obtain ⟨y_5, hy_5, hT⟩ : ∃ z : Nat → Nat → Int32, z = up2 y_4 (a 50) 46 (-1 : Int32) ∧ tw (dC, dI) a k τ ln z g_1 H := ⟨_, rfl, hT⟩
  have hG : ag τ [60] y y_5 := by rw [hy_5]; exact hG.up (fx_50 hX) (by decide)
  have : (y_5 (a 50) 43).toInt = (y_4 (a 50) 43).toInt := by rw [hy_5, up2_e (by decide)]
  have : (y_5 (a 50) 44).toInt = (y_4 (a 50) 44).toInt := by rw [hy_5, up2_e (by decide)]
  have : (y_5 (a 50) 45).toInt = (y_4 (a 50) 45).toInt := by rw [hy_5, up2_e (by decide)]
  have hPK : pk a y y_5 := by rw [hy_5]; exact hPK.up (by decide)
  have hW : IW (u 1) (u 2) (u 9) (y_5 (a 89)) := by rw [hy_5, up2_o (kd_ne (fx_89 hX) (fx_50 hX) (by decide))]; exact hW
  have hI := hI.put (f := 46) (x := (-1 : Int32)) (by decide)
  rw [← hy_5] at hI
  refine lv_aload_n hx hb dX12_open_25 rfl (lv_at hl 0 rfl) ?_
  refine lv_iload hx hb dX12_open_26 (lv_at hl 4 rfl) ?_
  have hFc := tw_free hF hS hA
  refine va_callr (va_runS (As := [.int p2]) (rest := [.ref (a 50)]) ⟨hx, hb, hml, hown, hts⟩ (m_names l dC dI ad av H.size a k τ ln y_5 g_1 u p2  ) (va_cwS 1 hts (gi_3 (List.mem_cons_of_mem _ (List.mem_append_left _ (List.mem_of_getElem? (i := 5) rfl))) (List.mem_cons_of_mem _ (List.mem_append_left _ (List.mem_of_getElem? (i := 6) rfl))) (List.mem_cons_of_mem _ (List.mem_append_left _ (List.mem_of_getElem? (i := 7) rfl))) (fun _ hh => (List.mem_cons_of_mem _ (List.mem_append_right _ (List.mem_append_right _ (List.mem_append_left _ hh))))) gd_m_names) rfl rfl rfl (by decide +kernel) ⟨Nat.le_of_ble_eq_true rfl, Nat.le_of_ble_eq_true rfl⟩) ⟨pw_blind, pw_use hT hK hFc hS hM⟩ rfl rfl hl.1 rfl (lv_room (Nat.le_of_ble_eq_true rfl)) dX12_open_28 ⟨Nat.le_of_ble_eq_true rfl, Nat.le_of_ble_eq_true rfl⟩) hS (fun q _ h => hFc q h) hFc (fun u0 r_6 t H locs ht hvm hw hB hz1 hk1 hS => ?_)
  refine W.widen (k := 0) (n := 0) (Nat.le_of_ble_eq_true rfl) (Nat.le_of_ble_eq_true rfl) ?_
  clear hvm hz1 hk1
  rcases hB with ⟨hre, hT⟩ | ⟨hre, hT⟩ | ⟨hre, hT⟩ | ⟨hre, hT⟩
  · subst hre
    rw [ht] at hT
    refine tw_putr (D := (dC, dI)) (x := (ad 9)) (ty := .object "java/lang/String") (C := RX12) (T := TX12) (N := 58) hx hb hts (fun _ hh => (List.mem_cons_of_mem _ (List.mem_append_right _ (List.mem_append_left _ hh)))) tyX12 tyX12_ok nmX12 hown hK hT hF hS (fx_50 hX) (by decide) cl_e60 rfl 47 (by decide) (hts (.fieldLink RX12 207 "TypingPoolModel" "letters" "Ljava/lang/String;") (List.mem_cons_of_mem _ (List.mem_append_left _ (List.mem_of_getElem? (i := 8) rfl)))) (fun _ h9 => h9) rfl (tyX12_ok 47 (by decide)) rfl rfl (Nat.le_of_ble_eq_true rfl) rfl dX12_open_31 (fun H locs hT hS => ?_)
    obtain ⟨g_7, hg_7, hT⟩ : ∃ z : Nat → Nat → Option Nat, z = upg g_1 (a 50) 47 (some (ad 9)) ∧ tw (dC, dI) a k τ ln y_5 z H := ⟨_, rfl, hT⟩
    have hGg : agg τ g g_7 := by rw [hg_7]; exact hGg.up (fx_50 hX)
    exact W.vret hx hb hr (fun t ht hW9 => ⟨⟨(), rfl, trivial, ⟨y_5, g_7, hG, hGg, hI, by rw [hg_7, upg_e (by decide), hg_1]; exact upg_i, ⟨9, by rw [hg_7]; exact upg_i, by decide, by decide⟩, by omega, by omega, by omega, hPK, tw_at ht hT⟩⟩, hS.F ht⟩) hS.2.2 dX12_open_34
  · subst hre
    rw [ht] at hT
    refine tw_putr (D := (dC, dI)) (x := (ad 10)) (ty := .object "java/lang/String") (C := RX12) (T := TX12) (N := 58) hx hb hts (fun _ hh => (List.mem_cons_of_mem _ (List.mem_append_right _ (List.mem_append_left _ hh)))) tyX12 tyX12_ok nmX12 hown hK hT hF hS (fx_50 hX) (by decide) cl_e60 rfl 47 (by decide) (hts (.fieldLink RX12 207 "TypingPoolModel" "letters" "Ljava/lang/String;") (List.mem_cons_of_mem _ (List.mem_append_left _ (List.mem_of_getElem? (i := 8) rfl)))) (fun _ h9 => h9) rfl (tyX12_ok 47 (by decide)) rfl rfl (Nat.le_of_ble_eq_true rfl) rfl dX12_open_31 (fun H locs hT hS => ?_)
    obtain ⟨g_8, hg_8, hT⟩ : ∃ z : Nat → Nat → Option Nat, z = upg g_1 (a 50) 47 (some (ad 10)) ∧ tw (dC, dI) a k τ ln y_5 z H := ⟨_, rfl, hT⟩
    have hGg : agg τ g g_8 := by rw [hg_8]; exact hGg.up (fx_50 hX)
    exact W.vret hx hb hr (fun t ht hW9 => ⟨⟨(), rfl, trivial, ⟨y_5, g_8, hG, hGg, hI, by rw [hg_8, upg_e (by decide), hg_1]; exact upg_i, ⟨10, by rw [hg_8]; exact upg_i, by decide, by decide⟩, by omega, by omega, by omega, hPK, tw_at ht hT⟩⟩, hS.F ht⟩) hS.2.2 dX12_open_34
  · subst hre
    rw [ht] at hT
    refine tw_putr (D := (dC, dI)) (x := (ad 11)) (ty := .object "java/lang/String") (C := RX12) (T := TX12) (N := 58) hx hb hts (fun _ hh => (List.mem_cons_of_mem _ (List.mem_append_right _ (List.mem_append_left _ hh)))) tyX12 tyX12_ok nmX12 hown hK hT hF hS (fx_50 hX) (by decide) cl_e60 rfl 47 (by decide) (hts (.fieldLink RX12 207 "TypingPoolModel" "letters" "Ljava/lang/String;") (List.mem_cons_of_mem _ (List.mem_append_left _ (List.mem_of_getElem? (i := 8) rfl)))) (fun _ h9 => h9) rfl (tyX12_ok 47 (by decide)) rfl rfl (Nat.le_of_ble_eq_true rfl) rfl dX12_open_31 (fun H locs hT hS => ?_)
    obtain ⟨g_9, hg_9, hT⟩ : ∃ z : Nat → Nat → Option Nat, z = upg g_1 (a 50) 47 (some (ad 11)) ∧ tw (dC, dI) a k τ ln y_5 z H := ⟨_, rfl, hT⟩
    have hGg : agg τ g g_9 := by rw [hg_9]; exact hGg.up (fx_50 hX)
    exact W.vret hx hb hr (fun t ht hW9 => ⟨⟨(), rfl, trivial, ⟨y_5, g_9, hG, hGg, hI, by rw [hg_9, upg_e (by decide), hg_1]; exact upg_i, ⟨11, by rw [hg_9]; exact upg_i, by decide, by decide⟩, by omega, by omega, by omega, hPK, tw_at ht hT⟩⟩, hS.F ht⟩) hS.2.2 dX12_open_34
  · subst hre
    rw [ht] at hT
    refine tw_putr (D := (dC, dI)) (x := (ad 12)) (ty := .object "java/lang/String") (C := RX12) (T := TX12) (N := 58) hx hb hts (fun _ hh => (List.mem_cons_of_mem _ (List.mem_append_right _ (List.mem_append_left _ hh)))) tyX12 tyX12_ok nmX12 hown hK hT hF hS (fx_50 hX) (by decide) cl_e60 rfl 47 (by decide) (hts (.fieldLink RX12 207 "TypingPoolModel" "letters" "Ljava/lang/String;") (List.mem_cons_of_mem _ (List.mem_append_left _ (List.mem_of_getElem? (i := 8) rfl)))) (fun _ h9 => h9) rfl (tyX12_ok 47 (by decide)) rfl rfl (Nat.le_of_ble_eq_true rfl) rfl dX12_open_31 (fun H locs hT hS => ?_)
    obtain ⟨g_10, hg_10, hT⟩ : ∃ z : Nat → Nat → Option Nat, z = upg g_1 (a 50) 47 (some (ad 12)) ∧ tw (dC, dI) a k τ ln y_5 z H := ⟨_, rfl, hT⟩
    have hGg : agg τ g g_10 := by rw [hg_10]; exact hGg.up (fx_50 hX)
    exact W.vret hx hb hr (fun t ht hW9 => ⟨⟨(), rfl, trivial, ⟨y_5, g_10, hG, hGg, hI, by rw [hg_10, upg_e (by decide), hg_1]; exact upg_i, ⟨12, by rw [hg_10]; exact upg_i, by decide, by decide⟩, by omega, by omega, by omega, hPK, tw_at ht hT⟩⟩, hS.F ht⟩) hS.2.2 dX12_open_34
